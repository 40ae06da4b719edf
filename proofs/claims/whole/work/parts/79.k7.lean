theorem Lin.cg {T : q_T} {G : q_G} {a fi sr le cr : Nat} {c l c' l' : Nat → Nat} {n : Nat} (h : Lin T G a fi sr le cr c l n) (hc : ∀ i, i < n → c i = c' i ∧ l i = l' i) : Lin T G a fi sr le cr c' l' n := by
  obtain ⟨g, j, e, C, L, P, h1, h2, h3, h4, h5, ⟨b1, b2, b3, b4⟩, r1, r2, r3⟩ := h
  refine ⟨g, j, e, C, L, P, ?_, h2, h3, h4, fun i hi => ⟨(h5 i hi).1.trans (hc i hi).1, (h5 i hi).2.trans (hc i hi).2⟩, ⟨b1.to (fun q => pl_gap_cg q n (fun i hi => (hc i hi).2)), b2.to (fun q => pl_jmp_cg q n hc), b3.to (fun q => pl_end_cg q n (fun i hi => (hc i hi).2)), fun s hs => (b4 s hs).to (fun q => pl_of_cg s q n hc)⟩, fun i hi => ?_, ?_, r3⟩
  · rw [h1, ln_S_cg n hc, pl_p_cg n (fun i hi => (hc i hi).2)]
  · rw [← (hc i hi).1, ← (hc i hi).2]; exact r1 i hi
  · rw [← ln_S_cg n hc]; exact r2

theorem in_bit (s : Nat) : Bt (if s.testBit 0 = true then (fun _ => 0) s ||| 1 <<< 0 else (fun _ => 0) s) (fun q => decide (q = 0) && s.testBit 0) := by
  by_cases h : s.testBit 0 = true
  · rw [if_pos h, h]
    intro q
    show (0 ||| 1 <<< 0).testBit q = (decide (q = 0) && true)
    rw [Nat.zero_or, Bt.one 0 q, Bool.and_true]
  · rw [if_neg h]
    rw [Bool.not_eq_true] at h
    rw [h]
    intro q
    show Nat.testBit 0 q = (decide (q = 0) && false)
    rw [Bool.and_false]
    exact Nat.zero_testBit q

set_option maxHeartbeats 4000000 in
set_option maxRecDepth 100000 in
theorem c_X3_init {T : q_T} {G0 : q_G} {a fi sr le cr : Nat} (hl : G0 a = some (q_ob 4 [.int 0, .int 0, .int 0, .int 0, .null, .null, .null, .int 0, .int 0, .int 0, .int 0, .int 0, .int 0])) (hle : le ≤ 10) : q_C T mX3_init 3 63 3 36 [.ref a, .int (nI fi), .int (nI sr), .int (nI le), .int (nI cr)] G0 (a + 1) (fun v G' sz' => sz' = a + 4 ∧ v = none ∧ (∀ b, b < a ∨ a + 4 ≤ b → G' b = G0 b) ∧ ∀ c l, Lin T G' a fi sr le cr c l 0) := by
  refine q_C.of (by decide) rfl (by simp [Value.category]) (Nat.le_of_ble_eq_true rfl) ?_
  have hF : ∀ b, b < a ∨ a + 4 ≤ b → G0 b = G0 b := fun _ _ => rfl
  refine q_aload_n dX3_init_0 rfl rfl ?_
  refine q_oi dX3_init_1 ml_X3_3 oi_i oi_c (Nat.le_of_ble_eq_true rfl) (Nat.le_of_ble_eq_true rfl) (Nat.le_of_ble_eq_true rfl) ?_
  refine q_aload_n dX3_init_4 rfl rfl ?_
  refine q_iload_n dX3_init_5 rfl ?_
  refine w_put (fs2 := [.int (nI fi), .int 0, .int 0, .int 0, .null, .null, .null, .int 0, .int 0, .int 0, .int 0, .int 0, .int 0]) dX3_init_6 fl_X3_9 fp_X3_9 hl (Nat.le_of_ble_eq_true rfl) rfl rfl rfl (fun G hl hN => ?_)
  have hF : ∀ b, b < a ∨ a + 4 ≤ b → G b = G0 b := fun b hb => (hN b (by omega)).trans (hF b hb)
  refine q_aload_n dX3_init_9 rfl rfl ?_
  refine q_iload_n dX3_init_10 rfl ?_
  refine w_put (fs2 := [.int (nI fi), .int (nI sr), .int 0, .int 0, .null, .null, .null, .int 0, .int 0, .int 0, .int 0, .int 0, .int 0]) dX3_init_11 fl_X3_15 fp_X3_15 hl (Nat.le_of_ble_eq_true rfl) rfl rfl rfl (fun G hl hN => ?_)
  have hF : ∀ b, b < a ∨ a + 4 ≤ b → G b = G0 b := fun b hb => (hN b (by omega)).trans (hF b hb)
  refine q_aload_n dX3_init_14 rfl rfl ?_
  refine q_iload_n dX3_init_15 rfl ?_
  refine w_put (fs2 := [.int (nI fi), .int (nI sr), .int (nI le), .int 0, .null, .null, .null, .int 0, .int 0, .int 0, .int 0, .int 0, .int 0]) dX3_init_16 fl_X3_18 fp_X3_18 hl (Nat.le_of_ble_eq_true rfl) rfl rfl rfl (fun G hl hN => ?_)
  have hF : ∀ b, b < a ∨ a + 4 ≤ b → G b = G0 b := fun b hb => (hN b (by omega)).trans (hF b hb)
  refine q_aload_n dX3_init_19 rfl rfl ?_
  refine q_iload dX3_init_20 rfl ?_
  refine w_put (fs2 := [.int (nI fi), .int (nI sr), .int (nI le), .int (nI cr), .null, .null, .null, .int 0, .int 0, .int 0, .int 0, .int 0, .int 0]) dX3_init_22 fl_X3_21 fp_X3_21 hl (Nat.le_of_ble_eq_true rfl) rfl rfl rfl (fun G hl hN => ?_)
  have hF : ∀ b, b < a ∨ a + 4 ≤ b → G b = G0 b := fun b hb => (hN b (by omega)).trans (hF b hb)
  refine q_aload_n dX3_init_25 rfl rfl ?_
  refine q_iload_n dX3_init_26 rfl ?_
  refine w_newI (N := le) dX3_init_27 rfl (by omega) (by omega) (by omega) (fun G hC hN => ?_)
  have hC : G (a + 1) = some (q_ia T (le) (fun i => nI ((fun _ => 0) i))) := hC
  have hl := (hN _ (by omega)).trans hl
  have hF : ∀ b, b < a ∨ a + 4 ≤ b → G b = G0 b := fun b hb => (hN b (by omega)).trans (hF b hb)
  refine w_put (fs2 := [.int (nI fi), .int (nI sr), .int (nI le), .int (nI cr), .ref (a + 1), .null, .null, .int 0, .int 0, .int 0, .int 0, .int 0, .int 0]) dX3_init_29 fl_X3_24 fp_X3_24 hl (Nat.le_of_ble_eq_true rfl) rfl rfl rfl (fun G hl hN => ?_)
  have hC := (hN _ (by omega)).trans hC
  have hF : ∀ b, b < a ∨ a + 4 ≤ b → G b = G0 b := fun b hb => (hN b (by omega)).trans (hF b hb)
  refine q_aload_n dX3_init_32 rfl rfl ?_
  refine q_iload_n dX3_init_33 rfl ?_
  refine w_newI (N := le) dX3_init_34 rfl (by omega) (by omega) (by omega) (fun G hLn hN => ?_)
  have hLn : G (a + 2) = some (q_ia T (le) (fun i => nI ((fun _ => 0) i))) := hLn
  have hl := (hN _ (by omega)).trans hl
  have hC := (hN _ (by omega)).trans hC
  have hF : ∀ b, b < a ∨ a + 4 ≤ b → G b = G0 b := fun b hb => (hN b (by omega)).trans (hF b hb)
  refine w_put (fs2 := [.int (nI fi), .int (nI sr), .int (nI le), .int (nI cr), .ref (a + 1), .ref (a + 2), .null, .int 0, .int 0, .int 0, .int 0, .int 0, .int 0]) dX3_init_36 fl_X3_28 fp_X3_28 hl (Nat.le_of_ble_eq_true rfl) rfl rfl rfl (fun G hl hN => ?_)
  have hC := (hN _ (by omega)).trans hC
  have hLn := (hN _ (by omega)).trans hLn
  have hF : ∀ b, b < a ∨ a + 4 ≤ b → G b = G0 b := fun b hb => (hN b (by omega)).trans (hF b hb)
  refine q_aload_n dX3_init_39 rfl rfl ?_
  refine q_bipush (v := nI 16) dX3_init_40 (by decide) ?_
  refine w_newI (N := 16) dX3_init_42 rfl (by omega) (by omega) (by omega) (fun G hp hN => ?_)
  have hp : G (a + 3) = some (q_ia T (16) (fun i => nI ((fun _ => 0) i))) := hp
  have hl := (hN _ (by omega)).trans hl
  have hC := (hN _ (by omega)).trans hC
  have hLn := (hN _ (by omega)).trans hLn
  have hF : ∀ b, b < a ∨ a + 4 ≤ b → G b = G0 b := fun b hb => (hN b (by omega)).trans (hF b hb)
  refine w_put (fs2 := [.int (nI fi), .int (nI sr), .int (nI le), .int (nI cr), .ref (a + 1), .ref (a + 2), .ref (a + 3), .int 0, .int 0, .int 0, .int 0, .int 0, .int 0]) dX3_init_44 fl_X3_31 fp_X3_31 hl (Nat.le_of_ble_eq_true rfl) rfl rfl rfl (fun G hl hN => ?_)
  have hC := (hN _ (by omega)).trans hC
  have hLn := (hN _ (by omega)).trans hLn
  have hp := (hN _ (by omega)).trans hp
  have hF : ∀ b, b < a ∨ a + 4 ≤ b → G b = G0 b := fun b hb => (hN b (by omega)).trans (hF b hb)
  refine q_aload_n dX3_init_47 rfl rfl ?_
  refine q_iconst (v := nI 0) dX3_init_48 (by decide) ?_
  refine w_put (fs2 := [.int (nI fi), .int (nI sr), .int (nI le), .int (nI cr), .ref (a + 1), .ref (a + 2), .ref (a + 3), .int (nI 0), .int 0, .int 0, .int 0, .int 0, .int 0]) dX3_init_49 fl_X3_34 fp_X3_34 hl (Nat.le_of_ble_eq_true rfl) rfl rfl rfl (fun G hl hN => ?_)
  have hC := (hN _ (by omega)).trans hC
  have hLn := (hN _ (by omega)).trans hLn
  have hp := (hN _ (by omega)).trans hp
  have hF : ∀ b, b < a ∨ a + 4 ≤ b → G b = G0 b := fun b hb => (hN b (by omega)).trans (hF b hb)
  refine q_aload_n dX3_init_52 rfl rfl ?_
  refine q_iconst (v := nI 0) dX3_init_53 (by decide) ?_
  refine w_put (fs2 := [.int (nI fi), .int (nI sr), .int (nI le), .int (nI cr), .ref (a + 1), .ref (a + 2), .ref (a + 3), .int (nI 0), .int (nI 0), .int 0, .int 0, .int 0, .int 0]) dX3_init_54 fl_X3_37 fp_X3_37 hl (Nat.le_of_ble_eq_true rfl) rfl rfl rfl (fun G hl hN => ?_)
  have hC := (hN _ (by omega)).trans hC
  have hLn := (hN _ (by omega)).trans hLn
  have hp := (hN _ (by omega)).trans hp
  have hF : ∀ b, b < a ∨ a + 4 ≤ b → G b = G0 b := fun b hb => (hN b (by omega)).trans (hF b hb)
  refine q_aload_n dX3_init_57 rfl rfl ?_
  refine q_iconst (v := nI 0) dX3_init_58 (by decide) ?_
  refine w_put (fs2 := [.int (nI fi), .int (nI sr), .int (nI le), .int (nI cr), .ref (a + 1), .ref (a + 2), .ref (a + 3), .int (nI 0), .int (nI 0), .int (nI 0), .int 0, .int 0, .int 0]) dX3_init_59 fl_X3_40 fp_X3_40 hl (Nat.le_of_ble_eq_true rfl) rfl rfl rfl (fun G hl hN => ?_)
  have hC := (hN _ (by omega)).trans hC
  have hLn := (hN _ (by omega)).trans hLn
  have hp := (hN _ (by omega)).trans hp
  have hF : ∀ b, b < a ∨ a + 4 ≤ b → G b = G0 b := fun b hb => (hN b (by omega)).trans (hF b hb)
  refine q_aload_n dX3_init_62 rfl rfl ?_
  refine q_iconst (v := nI 0) dX3_init_63 (by decide) ?_
  refine w_put (fs2 := [.int (nI fi), .int (nI sr), .int (nI le), .int (nI cr), .ref (a + 1), .ref (a + 2), .ref (a + 3), .int (nI 0), .int (nI 0), .int (nI 0), .int (nI 0), .int 0, .int 0]) dX3_init_64 fl_X3_43 fp_X3_43 hl (Nat.le_of_ble_eq_true rfl) rfl rfl rfl (fun G hl hN => ?_)
  have hC := (hN _ (by omega)).trans hC
  have hLn := (hN _ (by omega)).trans hLn
  have hp := (hN _ (by omega)).trans hp
  have hF : ∀ b, b < a ∨ a + 4 ≤ b → G b = G0 b := fun b hb => (hN b (by omega)).trans (hF b hb)
  refine q_aload_n dX3_init_67 rfl rfl ?_
  refine q_iconst (v := nI 0) dX3_init_68 (by decide) ?_
  refine w_put (fs2 := [.int (nI fi), .int (nI sr), .int (nI le), .int (nI cr), .ref (a + 1), .ref (a + 2), .ref (a + 3), .int (nI 0), .int (nI 0), .int (nI 0), .int (nI 0), .int (nI 0), .int 0]) dX3_init_69 fl_X3_46 fp_X3_46 hl (Nat.le_of_ble_eq_true rfl) rfl rfl rfl (fun G hl hN => ?_)
  have hC := (hN _ (by omega)).trans hC
  have hLn := (hN _ (by omega)).trans hLn
  have hp := (hN _ (by omega)).trans hp
  have hF : ∀ b, b < a ∨ a + 4 ≤ b → G b = G0 b := fun b hb => (hN b (by omega)).trans (hF b hb)
  refine q_aload_n dX3_init_72 rfl rfl ?_
  refine q_iconst (v := nI 1) dX3_init_73 (by decide) ?_
  refine w_put (fs2 := li_ob a (fi) (sr) (le) (cr) (0) (0) (0) (0) (0) (1)) dX3_init_74 fl_X3_49 fp_X3_49 hl (Nat.le_of_ble_eq_true rfl) rfl rfl rfl (fun G hl hN => ?_)
  have hC := (hN _ (by omega)).trans hC
  have hLn := (hN _ (by omega)).trans hLn
  have hp := (hN _ (by omega)).trans hp
  have hF : ∀ b, b < a ∨ a + 4 ≤ b → G b = G0 b := fun b hb => (hN b (by omega)).trans (hF b hb)
  refine q_aload_n dX3_init_77 rfl rfl ?_
  refine q_iv (As := []) dX3_init_78 ml_X3_52 mt_X3_addGap mi_X3_addGap se_X3_addGap hl rfl rfl (Nat.le_of_ble_eq_true rfl) (Nat.le_of_ble_eq_true rfl) (Nat.zero_le _) (Nat.zero_le _) (Nat.le_of_ble_eq_true rfl) (q_C.mono (c_X3_addGap hl hp (by omega)) (fun v G sz1 hq => ?_))
  obtain ⟨rfl, rfl, hl, ⟨P2, hP2, hp⟩, hN⟩ := hq
  have hC := (hN _ (by omega)).trans hC
  have hLn := (hN _ (by omega)).trans hLn
  have hF : ∀ b, b < a ∨ a + 4 ≤ b → G b = G0 b := fun b hb => (hN b (by omega)).trans (hF b hb)
  exact q_return dX3_init_81 rfl ⟨rfl, rfl, hF, fun c l => ⟨_, _, _, _, _, _, hl, hC, hLn, hp, fun i hi => absurd hi (Nat.not_lt_zero _), Lb.zero (fun s hs => by rw [hP2 s hs]; exact (in_bit s)), fun i hi => absurd hi (Nat.not_lt_zero _), Nat.zero_le _, hle⟩⟩

set_option maxHeartbeats 4000000 in
set_option maxRecDepth 100000 in
theorem l_hasRuns {T : q_T} {G : q_G} {sz a fi sr le cr n b fi2 sr2 le2 cr2 rd : Nat} {c l c2 l2 : Nat → Nat} {E : q_E} (hL : Lin T G a fi sr le cr c l n) (hL2 : Lin T G b fi2 sr2 le2 cr2 c2 l2 n) (hrd : rd ≤ 1) (hE1 : (∀ k, k < n → c k = c2 (tn_ix n rd k) ∧ l k = l2 (tn_ix n rd k)) → E (some (.int (nI 1))) G sz) (hE0 : ¬ (∀ k, k < n → c k = c2 (tn_ix n rd k) ∧ l k = l2 (tn_ix n rd k)) → E (some (.int (nI 0))) G sz) : ∀ (mZ : Nat) (i : Nat) (x4 : Option Value), mZ = n - i → (i ≤ n) → (∀ k, k < i → c k = c2 (tn_ix n rd k) ∧ l k = l2 (tn_ix n rd k)) → q_R T mX3_hasRunsOf 0 0 15 [some (.ref a), some (.ref b), some (.int (nI rd)), some (.int (nI i)), x4] [] G sz 0 0 E := by
  intro mZ
  induction mZ using Nat.strongRecOn with | ind mZ ih => ?_
  intro i x4 hm hi hok
  obtain ⟨g, j, e, C, Ln, P, hl, hC, hLn, hp, hcl, hB, hr0⟩ := hL
  obtain ⟨g2, j2, e2, C2, Ln2, P2, hl2, hC2, hLn2, hp2, hcl2, hB2, hr2⟩ := hL2
  obtain ⟨n10, p20, l1, c3⟩ := hr0.bd
  obtain ⟨n210, p220, l21, c23⟩ := hr2.bd
  have nS := pl_p_S (c := c) (l := l) (n := n) l1
  have nS2 := pl_p_S (c := c2) (l := l2) (n := n) l21
  have le10 := hr0.2
  have le210 := hr2.2
  refine q_iload_n dX3_hasRunsOf_15 rfl ?_
  refine q_aload_n dX3_hasRunsOf_16 rfl rfl ?_
  refine q_get dX3_hasRunsOf_17 fl_X3_34 hl rfl ?_
  refine n_icmp_ge (tgt := 81) dX3_hasRunsOf_20 (by decide) (by omega) (by omega) (fun c20 => ?_) (fun c20 => ?_)
  · refine q_iconst (v := nI 1) dX3_hasRunsOf_81 (by decide) ?_
    exact q_ireturn dX3_hasRunsOf_82 rfl (by decide +kernel) (hE1 (fun k hk => hok k (by omega)))
  · refine q_iload_n dX3_hasRunsOf_23 rfl ?_
    refine n_if_eq (tgt := 38) dX3_hasRunsOf_24 (by decide) (by omega) (fun c24 => ?_) (fun c24 => ?_)
    · refine q_iload_n dX3_hasRunsOf_38 rfl ?_
      refine s_istore dX3_hasRunsOf_39 (by decide) rfl ?_
      have hix : i = tn_ix n rd i := by unfold tn_ix; rw [if_pos c24]
      have hixl : tn_ix n rd i < n := by rw [← hix]; omega
      refine q_aload_n dX3_hasRunsOf_41 rfl rfl ?_
      refine q_get dX3_hasRunsOf_42 fl_X3_24 hl rfl ?_
      refine q_iload_n dX3_hasRunsOf_45 rfl ?_
      refine w_ld (v := c i) dX3_hasRunsOf_46 hC rfl (by omega) (by omega) ((hcl i (by omega)).1) ?_
      refine q_aload_n dX3_hasRunsOf_47 rfl rfl ?_
      refine q_get dX3_hasRunsOf_48 fl_X3_24 hl2 rfl ?_
      refine q_iload dX3_hasRunsOf_51 rfl ?_
      refine w_ld (v := c2 (tn_ix n rd i)) dX3_hasRunsOf_53 hC2 rfl (by omega) (by omega) ((hcl2 _ (by omega)).1.trans (congrArg c2 hix)) ?_
      refine n_icmp_ne (tgt := 73) dX3_hasRunsOf_54 (by decide) (by have := c3 i (by omega); omega) (by have := c23 (tn_ix n rd i) (by omega); omega) (fun c54 => ?_) (fun c54 => ?_)
      · refine q_iconst (v := nI 0) dX3_hasRunsOf_73 (by decide) ?_
        exact q_ireturn dX3_hasRunsOf_74 rfl (by decide +kernel) (hE0 (fun h => c54 (h i (by omega)).1))
      · refine q_aload_n dX3_hasRunsOf_57 rfl rfl ?_
        refine q_get dX3_hasRunsOf_58 fl_X3_28 hl rfl ?_
        refine q_iload_n dX3_hasRunsOf_61 rfl ?_
        refine w_ld (v := l i) dX3_hasRunsOf_62 hLn rfl (by omega) (by omega) ((hcl i (by omega)).2) ?_
        refine q_aload_n dX3_hasRunsOf_63 rfl rfl ?_
        refine q_get dX3_hasRunsOf_64 fl_X3_28 hl2 rfl ?_
        refine q_iload dX3_hasRunsOf_67 rfl ?_
        refine w_ld (v := l2 (tn_ix n rd i)) dX3_hasRunsOf_69 hLn2 rfl (by omega) (by omega) ((hcl2 _ (by omega)).2.trans (congrArg l2 hix)) ?_
        refine n_icmp_eq (tgt := 75) dX3_hasRunsOf_70 (by decide) (by have := ln_l_le (c := c) (l := l) (n := n) (i := i) (by omega); omega) (by have := ln_l_le (c := c2) (l := l2) (n := n) (i := tn_ix n rd i) (by omega); omega) (fun c70 => ?_) (fun c70 => ?_)
        · refine s_iinc dX3_hasRunsOf_75 rfl (s_inc1 _) (by decide) rfl ?_
          refine q_goto (tgt := 15) dX3_hasRunsOf_78 (by decide) ?_
          exact ih _ (by omega) (i + 1) _ rfl (by omega) (fun k hk => if h : k = i then (by rw [h]; exact ⟨c54, c70⟩) else hok k (by omega))
        · refine q_iconst (v := nI 0) dX3_hasRunsOf_73 (by decide) ?_
          exact q_ireturn dX3_hasRunsOf_74 rfl (by decide +kernel) (hE0 (fun h => c70 (h i (by omega)).2))
    · refine q_aload_n dX3_hasRunsOf_27 rfl rfl ?_
      refine q_get dX3_hasRunsOf_28 fl_X3_34 hl rfl ?_
      refine q_iconst (v := nI 1) dX3_hasRunsOf_31 (by decide) ?_
      refine q_isub dX3_hasRunsOf_32 (pk_sub (by omega)) ?_
      refine q_iload_n dX3_hasRunsOf_33 rfl ?_
      refine q_isub dX3_hasRunsOf_34 (pk_sub (by omega)) ?_
      refine q_goto (tgt := 39) dX3_hasRunsOf_35 (by decide) ?_
      refine s_istore dX3_hasRunsOf_39 (by decide) rfl ?_
      have hix : n - 1 - i = tn_ix n rd i := by unfold tn_ix; rw [if_neg c24]
      have hixl : tn_ix n rd i < n := by rw [← hix]; omega
      refine q_aload_n dX3_hasRunsOf_41 rfl rfl ?_
      refine q_get dX3_hasRunsOf_42 fl_X3_24 hl rfl ?_
      refine q_iload_n dX3_hasRunsOf_45 rfl ?_
      refine w_ld (v := c i) dX3_hasRunsOf_46 hC rfl (by omega) (by omega) ((hcl i (by omega)).1) ?_
      refine q_aload_n dX3_hasRunsOf_47 rfl rfl ?_
      refine q_get dX3_hasRunsOf_48 fl_X3_24 hl2 rfl ?_
      refine q_iload dX3_hasRunsOf_51 rfl ?_
      refine w_ld (v := c2 (tn_ix n rd i)) dX3_hasRunsOf_53 hC2 rfl (by omega) (by omega) ((hcl2 _ (by omega)).1.trans (congrArg c2 hix)) ?_
      refine n_icmp_ne (tgt := 73) dX3_hasRunsOf_54 (by decide) (by have := c3 i (by omega); omega) (by have := c23 (tn_ix n rd i) (by omega); omega) (fun c54 => ?_) (fun c54 => ?_)
      · refine q_iconst (v := nI 0) dX3_hasRunsOf_73 (by decide) ?_
        exact q_ireturn dX3_hasRunsOf_74 rfl (by decide +kernel) (hE0 (fun h => c54 (h i (by omega)).1))
      · refine q_aload_n dX3_hasRunsOf_57 rfl rfl ?_
        refine q_get dX3_hasRunsOf_58 fl_X3_28 hl rfl ?_
        refine q_iload_n dX3_hasRunsOf_61 rfl ?_
        refine w_ld (v := l i) dX3_hasRunsOf_62 hLn rfl (by omega) (by omega) ((hcl i (by omega)).2) ?_
        refine q_aload_n dX3_hasRunsOf_63 rfl rfl ?_
        refine q_get dX3_hasRunsOf_64 fl_X3_28 hl2 rfl ?_
        refine q_iload dX3_hasRunsOf_67 rfl ?_
        refine w_ld (v := l2 (tn_ix n rd i)) dX3_hasRunsOf_69 hLn2 rfl (by omega) (by omega) ((hcl2 _ (by omega)).2.trans (congrArg l2 hix)) ?_
        refine n_icmp_eq (tgt := 75) dX3_hasRunsOf_70 (by decide) (by have := ln_l_le (c := c) (l := l) (n := n) (i := i) (by omega); omega) (by have := ln_l_le (c := c2) (l := l2) (n := n) (i := tn_ix n rd i) (by omega); omega) (fun c70 => ?_) (fun c70 => ?_)
        · refine s_iinc dX3_hasRunsOf_75 rfl (s_inc1 _) (by decide) rfl ?_
          refine q_goto (tgt := 15) dX3_hasRunsOf_78 (by decide) ?_
          exact ih _ (by omega) (i + 1) _ rfl (by omega) (fun k hk => if h : k = i then (by rw [h]; exact ⟨c54, c70⟩) else hok k (by omega))
        · refine q_iconst (v := nI 0) dX3_hasRunsOf_73 (by decide) ?_
          exact q_ireturn dX3_hasRunsOf_74 rfl (by decide +kernel) (hE0 (fun h => c70 (h i (by omega)).2))

set_option maxHeartbeats 4000000 in
set_option maxRecDepth 100000 in
theorem c_X3_hasRunsOf {T : q_T} {G : q_G} {sz a fi sr le cr n b fi2 sr2 le2 cr2 n2 rd : Nat} {c l c2 l2 : Nat → Nat} (hL : Lin T G a fi sr le cr c l n) (hL2 : Lin T G b fi2 sr2 le2 cr2 c2 l2 n2) (hrd : rd ≤ 1) : q_C T mX3_hasRunsOf 0 0 0 0 [.ref a, .ref b, .int (nI rd)] G sz (fun v G' sz' => (((n = n2 ∧ ∀ k, k < n → c k = c2 (tn_ix n2 rd k) ∧ l k = l2 (tn_ix n2 rd k)) ∧ v = some (.int (nI 1))) ∨ (¬ (n = n2 ∧ ∀ k, k < n → c k = c2 (tn_ix n2 rd k) ∧ l k = l2 (tn_ix n2 rd k)) ∧ v = some (.int (nI 0)))) ∧ G = G' ∧ sz = sz') := by
  refine q_C.of (by decide) rfl (by simp [Value.category]) (Nat.le_of_ble_eq_true rfl) ?_
  have hL0 := hL
  have hL02 := hL2
  obtain ⟨g, j, e, C, Ln, P, hl, hC, hLn, hp, hcl, hB, hr0⟩ := hL
  obtain ⟨g2, j2, e2, C2, Ln2, P2, hl2, hC2, hLn2, hp2, hcl2, hB2, hr2⟩ := hL2
  obtain ⟨n10, p20, l1, c3⟩ := hr0.bd
  obtain ⟨n210, p220, l21, c23⟩ := hr2.bd
  have nS := pl_p_S (c := c) (l := l) (n := n) l1
  have nS2 := pl_p_S (c := c2) (l := l2) (n := n2) l21
  have le10 := hr0.2
  have le210 := hr2.2
  refine q_aload_n dX3_hasRunsOf_0 rfl rfl ?_
  refine q_get dX3_hasRunsOf_1 fl_X3_34 hl rfl ?_
  refine q_aload_n dX3_hasRunsOf_4 rfl rfl ?_
  refine q_get dX3_hasRunsOf_5 fl_X3_34 hl2 rfl ?_
  refine n_icmp_eq (tgt := 13) dX3_hasRunsOf_8 (by decide) (by omega) (by omega) (fun c8 => ?_) (fun c8 => ?_)
  · refine q_iconst (v := nI 0) dX3_hasRunsOf_13 (by decide) ?_
    refine s_istore_n dX3_hasRunsOf_14 (by decide) rfl ?_
    subst c8
    exact l_hasRuns hL0 hL02 hrd (fun h => ⟨Or.inl ⟨⟨rfl, h⟩, rfl⟩, rfl, rfl⟩) (fun h => ⟨Or.inr ⟨fun g => h g.2, rfl⟩, rfl, rfl⟩) _ 0 _ rfl (Nat.zero_le _) (fun _ h => absurd h (Nat.not_lt_zero _))
  · refine q_iconst (v := nI 0) dX3_hasRunsOf_11 (by decide) ?_
    exact q_ireturn dX3_hasRunsOf_12 rfl (by decide +kernel) ⟨Or.inr ⟨fun h => c8 h.1, rfl⟩, rfl, rfl⟩

theorem ap_m {c l : Nat → Nat} {n k m x le : Nat} (h : nI x = nI m) (hx : x < 2 ^ 31) (hS : ln_S (va_up c n k) (va_up l n m) (n + 1) 0 ≤ le) (hr : le ≤ 10) : m = x := by
  rw [ln_S_app] at hS
  exact ((nI_eq hx (by omega)).mp h).symm

set_option maxHeartbeats 4000000 in
set_option maxRecDepth 100000 in
theorem l_copyRuns {T : q_T} {G0 : q_G} {sz a fi sr le cr b fi2 sr2 le2 cr2 n2 rd : Nat} {c2 l2 : Nat → Nat} {E : q_E} (hrd : rd ≤ 1) (hd : b + 4 ≤ a ∨ a + 4 ≤ b) (hr1 : le ≤ 10) (hfit : ln_S (fun k => c2 (tn_ix n2 rd k)) (fun k => l2 (tn_ix n2 rd k)) n2 0 ≤ le) (hE : ∀ G, Lin T G a fi sr le cr (fun k => c2 (tn_ix n2 rd k)) (fun k => l2 (tn_ix n2 rd k)) n2 → (∀ b, b < a ∨ a + 4 ≤ b → G b = G0 b) → E none G sz) : ∀ (mZ : Nat) (i : Nat) (G : q_G) (x4 : Option Value), mZ = n2 - i → (i ≤ n2) → (Lin T G a fi sr le cr (fun k => c2 (tn_ix n2 rd k)) (fun k => l2 (tn_ix n2 rd k)) i) → (Lin T G b fi2 sr2 le2 cr2 c2 l2 n2) → (∀ b, b < a ∨ a + 4 ≤ b → G b = G0 b) → q_R T mX3_copyRuns 4 88 2 [some (.ref a), some (.ref b), some (.int (nI rd)), some (.int (nI i)), x4] [] G sz 0 0 E := by
  intro mZ
  induction mZ using Nat.strongRecOn with | ind mZ ih => ?_
  intro i G x4 hm hi hL hL2 hF
  obtain ⟨g, j, e, C, Ln, P, hl, -⟩ := id hL
  obtain ⟨g2, j2, e2, C2, Ln2, P2, hl2, hC2, hLn2, hp2, hcl2, hB2, hr2⟩ := id hL2
  obtain ⟨n210, p220, l21, c23⟩ := hr2.bd
  have nS2 := pl_p_S (c := c2) (l := l2) (n := n2) l21
  have le210 := hr2.2
  refine q_iload_n dX3_copyRuns_2 rfl ?_
  refine q_aload_n dX3_copyRuns_3 rfl rfl ?_
  refine q_get dX3_copyRuns_4 fl_X3_34 hl2 rfl ?_
  refine n_icmp_ge (tgt := 53) dX3_copyRuns_7 (by decide) (by omega) (by omega) (fun c7 => ?_) (fun c7 => ?_)
  · obtain rfl : i = n2 := by omega
    exact q_return dX3_copyRuns_53 rfl (hE G hL hF)
  · refine q_iload_n dX3_copyRuns_10 rfl ?_
    refine n_if_eq (tgt := 25) dX3_copyRuns_11 (by decide) (by omega) (fun c11 => ?_) (fun c11 => ?_)
    · refine q_iload_n dX3_copyRuns_25 rfl ?_
      refine s_istore dX3_copyRuns_26 (by decide) rfl ?_
      have hix : i = tn_ix n2 rd i := by unfold tn_ix; rw [if_pos c11]
      have hixl : tn_ix n2 rd i < n2 := by rw [← hix]; omega
      refine q_aload_n dX3_copyRuns_28 rfl rfl ?_
      refine q_aload_n dX3_copyRuns_29 rfl rfl ?_
      refine q_get dX3_copyRuns_30 fl_X3_24 hl2 rfl ?_
      refine q_iload dX3_copyRuns_33 rfl ?_
      refine w_ld (v := c2 (tn_ix n2 rd i)) dX3_copyRuns_35 hC2 rfl (by omega) (by omega) ((hcl2 _ (by omega)).1.trans (congrArg c2 hix)) ?_
      refine q_aload_n dX3_copyRuns_36 rfl rfl ?_
      refine q_get dX3_copyRuns_37 fl_X3_28 hl2 rfl ?_
      refine q_iload dX3_copyRuns_40 rfl ?_
      refine w_ld (v := l2 (tn_ix n2 rd i)) dX3_copyRuns_42 hLn2 rfl (by omega) (by omega) ((hcl2 _ (by omega)).2.trans (congrArg l2 hix)) ?_
      have hcc := hr2.1 (tn_ix n2 rd i) (by omega)
      refine q_iv (As := [_, _]) dX3_copyRuns_43 ml_X3_63 mt_X3_append mi_X3_append se_X3_append hl rfl rfl (Nat.le_of_ble_eq_true rfl) (Nat.le_of_ble_eq_true rfl) (Nat.zero_le _) (Nat.zero_le _) (Nat.le_of_ble_eq_true rfl) (q_C.mono (c_X3_append hL (show 1 ≤ c2 (tn_ix n2 rd i) by omega) (by omega)) (fun v G sz1 hq => ?_))
      obtain ⟨rfl, hN, hv⟩ := hq
      have hid : va_up (fun k => c2 (tn_ix n2 rd k)) i (c2 (tn_ix n2 rd i)) = (fun k => c2 (tn_ix n2 rd k)) := va_up_id rfl
      have hid2 : va_up (fun k => l2 (tn_ix n2 rd k)) i (l2 (tn_ix n2 rd i)) = (fun k => l2 (tn_ix n2 rd k)) := va_up_id rfl
      have hle10 := ln_l_le (c := c2) (l := l2) (n := n2) (i := tn_ix n2 rd i) (by omega)
      rcases hv with ⟨m, hm, hm1, hS, rfl, hL⟩ | ⟨hno, -⟩
      · have hmm : m = l2 (tn_ix n2 rd i) := ap_m hm (by omega) hS hr1
        rw [hmm, hid, hid2] at hL
        have hL2 := hL2.fr (fun b b1 b2 => hN b (by omega))
        have hF : ∀ b, b < a ∨ a + 4 ≤ b → G b = G0 b := fun b hb => (hN b hb).trans (hF b hb)
        refine q_pop dX3_copyRuns_46 rfl ?_
        refine s_iinc dX3_copyRuns_47 rfl (s_inc1 _) (by decide) rfl ?_
        refine q_goto (tgt := 2) dX3_copyRuns_50 (by decide) ?_
        exact ih _ (by omega) (i + 1) G _ rfl (by omega) hL hL2 hF
      · exact absurd ⟨_, rfl, by omega, by rw [hid, hid2]; exact Nat.le_trans (ln_S_le (by omega)) hfit⟩ hno
    · refine q_aload_n dX3_copyRuns_14 rfl rfl ?_
      refine q_get dX3_copyRuns_15 fl_X3_34 hl2 rfl ?_
      refine q_iconst (v := nI 1) dX3_copyRuns_18 (by decide) ?_
      refine q_isub dX3_copyRuns_19 (pk_sub (by omega)) ?_
      refine q_iload_n dX3_copyRuns_20 rfl ?_
      refine q_isub dX3_copyRuns_21 (pk_sub (by omega)) ?_
      refine q_goto (tgt := 26) dX3_copyRuns_22 (by decide) ?_
      refine s_istore dX3_copyRuns_26 (by decide) rfl ?_
      have hix : n2 - 1 - i = tn_ix n2 rd i := by unfold tn_ix; rw [if_neg c11]
      have hixl : tn_ix n2 rd i < n2 := by rw [← hix]; omega
      refine q_aload_n dX3_copyRuns_28 rfl rfl ?_
      refine q_aload_n dX3_copyRuns_29 rfl rfl ?_
      refine q_get dX3_copyRuns_30 fl_X3_24 hl2 rfl ?_
      refine q_iload dX3_copyRuns_33 rfl ?_
      refine w_ld (v := c2 (tn_ix n2 rd i)) dX3_copyRuns_35 hC2 rfl (by omega) (by omega) ((hcl2 _ (by omega)).1.trans (congrArg c2 hix)) ?_
      refine q_aload_n dX3_copyRuns_36 rfl rfl ?_
      refine q_get dX3_copyRuns_37 fl_X3_28 hl2 rfl ?_
      refine q_iload dX3_copyRuns_40 rfl ?_
      refine w_ld (v := l2 (tn_ix n2 rd i)) dX3_copyRuns_42 hLn2 rfl (by omega) (by omega) ((hcl2 _ (by omega)).2.trans (congrArg l2 hix)) ?_
      have hcc := hr2.1 (tn_ix n2 rd i) (by omega)
      refine q_iv (As := [_, _]) dX3_copyRuns_43 ml_X3_63 mt_X3_append mi_X3_append se_X3_append hl rfl rfl (Nat.le_of_ble_eq_true rfl) (Nat.le_of_ble_eq_true rfl) (Nat.zero_le _) (Nat.zero_le _) (Nat.le_of_ble_eq_true rfl) (q_C.mono (c_X3_append hL (show 1 ≤ c2 (tn_ix n2 rd i) by omega) (by omega)) (fun v G sz1 hq => ?_))
      obtain ⟨rfl, hN, hv⟩ := hq
      have hid : va_up (fun k => c2 (tn_ix n2 rd k)) i (c2 (tn_ix n2 rd i)) = (fun k => c2 (tn_ix n2 rd k)) := va_up_id rfl
      have hid2 : va_up (fun k => l2 (tn_ix n2 rd k)) i (l2 (tn_ix n2 rd i)) = (fun k => l2 (tn_ix n2 rd k)) := va_up_id rfl
      have hle10 := ln_l_le (c := c2) (l := l2) (n := n2) (i := tn_ix n2 rd i) (by omega)
      rcases hv with ⟨m, hm, hm1, hS, rfl, hL⟩ | ⟨hno, -⟩
      · have hmm : m = l2 (tn_ix n2 rd i) := ap_m hm (by omega) hS hr1
        rw [hmm, hid, hid2] at hL
        have hL2 := hL2.fr (fun b b1 b2 => hN b (by omega))
        have hF : ∀ b, b < a ∨ a + 4 ≤ b → G b = G0 b := fun b hb => (hN b hb).trans (hF b hb)
        refine q_pop dX3_copyRuns_46 rfl ?_
        refine s_iinc dX3_copyRuns_47 rfl (s_inc1 _) (by decide) rfl ?_
        refine q_goto (tgt := 2) dX3_copyRuns_50 (by decide) ?_
        exact ih _ (by omega) (i + 1) G _ rfl (by omega) hL hL2 hF
      · exact absurd ⟨_, rfl, by omega, by rw [hid, hid2]; exact Nat.le_trans (ln_S_le (by omega)) hfit⟩ hno

set_option maxHeartbeats 4000000 in
set_option maxRecDepth 100000 in
theorem c_X3_copyRuns {T : q_T} {G0 : q_G} {sz a fi sr le cr b fi2 sr2 le2 cr2 n2 rd : Nat} {c2 l2 : Nat → Nat} (hL : ∀ c l, Lin T G0 a fi sr le cr c l 0) (hL2 : Lin T G0 b fi2 sr2 le2 cr2 c2 l2 n2) (hrd : rd ≤ 1) (hd : b + 4 ≤ a ∨ a + 4 ≤ b) (hr1 : le ≤ 10) (hfit : ln_S (fun k => c2 (tn_ix n2 rd k)) (fun k => l2 (tn_ix n2 rd k)) n2 0 ≤ le) : q_C T mX3_copyRuns 4 88 0 0 [.ref a, .ref b, .int (nI rd)] G0 sz (fun v G' sz' => sz = sz' ∧ v = none ∧ Lin T G' a fi sr le cr (fun k => c2 (tn_ix n2 rd k)) (fun k => l2 (tn_ix n2 rd k)) n2 ∧ ∀ b, b < a ∨ a + 4 ≤ b → G' b = G0 b) := by
  refine q_C.of (by decide) rfl (by simp [Value.category]) (Nat.le_of_ble_eq_true rfl) ?_
  refine q_iconst (v := nI 0) dX3_copyRuns_0 (by decide) ?_
  refine s_istore_n dX3_copyRuns_1 (by decide) rfl ?_
  exact l_copyRuns hrd hd hr1 hfit (fun G h1 h2 => ⟨rfl, rfl, h1, h2⟩) _ 0 _ _ rfl (Nat.zero_le _) (hL _ _) hL2 (fun _ _ => rfl)

set_option maxHeartbeats 4000000 in
set_option maxRecDepth 100000 in
theorem l_readRuns {T : q_T} {G0 : q_G} {sz a fi sr le cr b N : Nat} {S : Nat → Nat} {E : q_E} (hd : b < a ∨ a + 4 ≤ b) (le10 : le ≤ 10) (hN1 : N ≤ 1000) (hc : ∀ i, i < le → fi + i * sr < N ∧ S (fi + i * sr) ≤ 3) (hE : ∀ n la c l G, mk_s (fun i => S (fi + i * sr)) le = (n, la, c, l) → Lin T G a fi sr le cr c l n → (∀ b, b < a ∨ a + 4 ≤ b → G b = G0 b) → E none G sz) : ∀ (mZ : Nat) (i sx n : Nat) (c l : Nat → Nat) (G : q_G) (x4 x5 : Option Value), mZ = le - i → (i ≤ le) → (sx ≤ i) → (Rd (fun i => S (fi + i * sr)) le i sx n c l) → (Lin T G a fi sr le cr c l n) → (G b = some (q_ia T N (fun i => nI (S i)))) → (∀ b, b < a ∨ a + 4 ≤ b → G b = G0 b) → q_R T mX3_readRuns 4 88 4 [some (.ref a), some (.ref b), some (.int (nI sx)), some (.int (nI i)), x4, x5] [] G sz 0 0 E := by
  intro mZ
  induction mZ using Nat.strongRecOn with | ind mZ ih => ?_
  intro i sx n c l G x4 x5 hm hi hsx hRd hL hb hF
  obtain ⟨g, j, e, C, Ln, P, hl, -⟩ := id hL
  refine q_iload_n dX3_readRuns_4 rfl ?_
  refine q_aload_n dX3_readRuns_5 rfl rfl ?_
  refine q_get dX3_readRuns_6 fl_X3_18 hl rfl ?_
  refine n_icmp_ge (tgt := 86) dX3_readRuns_9 (by decide) (by omega) (by omega) (fun c9 => ?_) (fun c9 => ?_)
  · obtain rfl : i = le := by omega
    obtain ⟨la, hmk⟩ := hRd.last
    exact q_return dX3_readRuns_86 rfl (hE n la c l G hmk hL hF)
  · refine q_aload_n dX3_readRuns_12 rfl rfl ?_
    refine q_aload_n dX3_readRuns_13 rfl rfl ?_
    refine q_iload_n dX3_readRuns_14 rfl ?_
    refine q_iv (As := [_]) dX3_readRuns_15 ml_X3_59 mt_X3_cellAt mi_X3_cellAt se_X3_cellAt hl rfl rfl (Nat.le_of_ble_eq_true rfl) (Nat.le_of_ble_eq_true rfl) (Nat.zero_le _) (Nat.zero_le _) (Nat.le_of_ble_eq_true rfl) (q_C.mono (c_X3_cellAt hl) (fun v G1 sz1 hq => ?_))
    obtain ⟨rfl, rfl, rfl⟩ := hq
    refine w_ld dX3_readRuns_18 hb rfl ((hc i (by omega)).1) (by omega) rfl ?_
    refine s_istore dX3_readRuns_19 (by decide) rfl ?_
    refine s_iinc dX3_readRuns_21 rfl (s_inc1 _) (by decide) rfl ?_
    have hmid := hRd.mid c9
    refine q_iload_n dX3_readRuns_24 rfl ?_
    refine q_iconst (v := nI 1) dX3_readRuns_25 (by decide) ?_
    refine q_iadd dX3_readRuns_26 (nI_add _ _) ?_
    refine q_aload_n dX3_readRuns_27 rfl rfl ?_
    refine q_get dX3_readRuns_28 fl_X3_18 hl rfl ?_
    refine n_icmp_eq (tgt := 48) dX3_readRuns_31 (by decide) (by omega) (by omega) (fun c31 => ?_) (fun c31 => ?_)
    · have hov : i + 1 = le ∨ (fun i => S (fi + i * sr)) (i + 1) ≠ (fun i => S (fi + i * sr)) i := Or.inl c31
      refine q_iconst (v := nI 1) dX3_readRuns_48 (by decide) ?_
      refine q_goto (tgt := 53) dX3_readRuns_49 (by decide) ?_
      refine s_istore dX3_readRuns_53 (by decide) rfl ?_
      refine q_iload dX3_readRuns_55 rfl ?_
      refine q_if_eq (tgt := 73) dX3_readRuns_57 (by decide) (fun h => absurd h (by decide)) (fun _ => ?_)
      refine q_iload dX3_readRuns_60 rfl ?_
      refine n_if_eq (tgt := 73) dX3_readRuns_62 (by decide) (by have := (hc i (by omega)).2; omega) (fun c62 => ?_) (fun c62 => ?_)
      · refine q_iload dX3_readRuns_73 rfl ?_
        refine q_if_eq (tgt := 80) dX3_readRuns_75 (by decide) (fun h => absurd h (by decide)) (fun _ => ?_)
        refine q_iconst (v := nI 0) dX3_readRuns_78 (by decide) ?_
        refine s_istore_n dX3_readRuns_79 (by decide) rfl ?_
        refine s_iinc dX3_readRuns_80 rfl (s_inc1 _) (by decide) rfl ?_
        refine q_goto (tgt := 4) dX3_readRuns_83 (by decide) ?_
        exact ih _ (by omega) (i + 1) 0 n c l G _ _ rfl (by omega) (by omega) (hmid.zero c62 hov) hL hb hF
      · refine q_aload_n dX3_readRuns_65 rfl rfl ?_
        refine q_iload dX3_readRuns_66 rfl ?_
        refine q_iload_n dX3_readRuns_68 rfl ?_
        obtain ⟨c1, l1, hRd2, hmk, hcg⟩ := hmid.over c62 hov
        obtain ⟨-, j2, j3, -⟩ := mk_inv (C := 3) (i + 1) _ _ c1 l1 (fun k hk => (hc k (by omega)).2) hmk
        refine q_iv (As := [_, _]) dX3_readRuns_69 ml_X3_63 mt_X3_append mi_X3_append se_X3_append hl rfl rfl (Nat.le_of_ble_eq_true rfl) (Nat.le_of_ble_eq_true rfl) (Nat.zero_le _) (Nat.zero_le _) (Nat.le_of_ble_eq_true rfl) (q_C.mono (c_X3_append hL (show 1 ≤ S (fi + i * sr) by omega) (by have := (hc i (by omega)).2; omega)) (fun v G sz1 hq => ?_))
        obtain ⟨rfl, hN, hv⟩ := hq
        have hS2 := ln_S_cg (n + 1) hcg
        rcases hv with ⟨m, hm, hm1, hS, rfl, hL⟩ | ⟨hno, -⟩
        · have hmm : m = sx + 1 := ap_m hm (by omega) hS le10
          rw [hmm] at hL
          have hL := hL.cg hcg
          have hb := (hN _ (by omega)).trans hb
          have hF : ∀ b, b < a ∨ a + 4 ≤ b → G b = G0 b := fun b hb => (hN b hb).trans (hF b hb)
          refine q_pop dX3_readRuns_72 rfl ?_
          refine q_iload dX3_readRuns_73 rfl ?_
          refine q_if_eq (tgt := 80) dX3_readRuns_75 (by decide) (fun h => absurd h (by decide)) (fun _ => ?_)
          refine q_iconst (v := nI 0) dX3_readRuns_78 (by decide) ?_
          refine s_istore_n dX3_readRuns_79 (by decide) rfl ?_
          refine s_iinc dX3_readRuns_80 rfl (s_inc1 _) (by decide) rfl ?_
          refine q_goto (tgt := 4) dX3_readRuns_83 (by decide) ?_
          exact ih _ (by omega) (i + 1) 0 (n + 1) c1 l1 G _ _ rfl (by omega) (by omega) hRd2 hL hb hF
        · exact absurd ⟨_, rfl, by omega, by rw [hS2]; omega⟩ hno
    · refine q_aload_n dX3_readRuns_34 rfl rfl ?_
      refine q_aload_n dX3_readRuns_35 rfl rfl ?_
      refine q_iload_n dX3_readRuns_36 rfl ?_
      refine q_iconst (v := nI 1) dX3_readRuns_37 (by decide) ?_
      refine q_iadd dX3_readRuns_38 (nI_add _ _) ?_
      refine q_iv (As := [_]) dX3_readRuns_39 ml_X3_59 mt_X3_cellAt mi_X3_cellAt se_X3_cellAt hl rfl rfl (Nat.le_of_ble_eq_true rfl) (Nat.le_of_ble_eq_true rfl) (Nat.zero_le _) (Nat.zero_le _) (Nat.le_of_ble_eq_true rfl) (q_C.mono (c_X3_cellAt hl) (fun v G1 sz1 hq => ?_))
      obtain ⟨rfl, rfl, rfl⟩ := hq
      refine w_ld dX3_readRuns_42 hb rfl ((hc (i + 1) (by omega)).1) (by omega) rfl ?_
      refine q_iload dX3_readRuns_43 rfl ?_
      refine n_icmp_eq (tgt := 52) dX3_readRuns_45 (by decide) (by have := (hc (i + 1) (by omega)).2; omega) (by have := (hc i (by omega)).2; omega) (fun c45 => ?_) (fun c45 => ?_)
      · refine q_iconst (v := nI 0) dX3_readRuns_52 (by decide) ?_
        refine s_istore dX3_readRuns_53 (by decide) rfl ?_
        refine q_iload dX3_readRuns_55 rfl ?_
        refine q_if_eq (tgt := 73) dX3_readRuns_57 (by decide) (fun _ => ?_) (fun h => absurd h (by decide))
        refine q_iload dX3_readRuns_73 rfl ?_
        refine q_if_eq (tgt := 80) dX3_readRuns_75 (by decide) (fun _ => ?_) (fun h => absurd h (by decide))
        refine s_iinc dX3_readRuns_80 rfl (s_inc1 _) (by decide) rfl ?_
        refine q_goto (tgt := 4) dX3_readRuns_83 (by decide) ?_
        exact ih _ (by omega) (i + 1) (sx + 1) n c l G _ _ rfl (by omega) (by omega) (hmid.go (by omega) (by omega) c45) hL hb hF
      · have hov : i + 1 = le ∨ (fun i => S (fi + i * sr)) (i + 1) ≠ (fun i => S (fi + i * sr)) i := Or.inr c45
        refine q_iconst (v := nI 1) dX3_readRuns_48 (by decide) ?_
        refine q_goto (tgt := 53) dX3_readRuns_49 (by decide) ?_
        refine s_istore dX3_readRuns_53 (by decide) rfl ?_
        refine q_iload dX3_readRuns_55 rfl ?_
        refine q_if_eq (tgt := 73) dX3_readRuns_57 (by decide) (fun h => absurd h (by decide)) (fun _ => ?_)
        refine q_iload dX3_readRuns_60 rfl ?_
        refine n_if_eq (tgt := 73) dX3_readRuns_62 (by decide) (by have := (hc i (by omega)).2; omega) (fun c62 => ?_) (fun c62 => ?_)
        · refine q_iload dX3_readRuns_73 rfl ?_
          refine q_if_eq (tgt := 80) dX3_readRuns_75 (by decide) (fun h => absurd h (by decide)) (fun _ => ?_)
          refine q_iconst (v := nI 0) dX3_readRuns_78 (by decide) ?_
          refine s_istore_n dX3_readRuns_79 (by decide) rfl ?_
          refine s_iinc dX3_readRuns_80 rfl (s_inc1 _) (by decide) rfl ?_
          refine q_goto (tgt := 4) dX3_readRuns_83 (by decide) ?_
          exact ih _ (by omega) (i + 1) 0 n c l G _ _ rfl (by omega) (by omega) (hmid.zero c62 hov) hL hb hF
        · refine q_aload_n dX3_readRuns_65 rfl rfl ?_
          refine q_iload dX3_readRuns_66 rfl ?_
          refine q_iload_n dX3_readRuns_68 rfl ?_
          obtain ⟨c1, l1, hRd2, hmk, hcg⟩ := hmid.over c62 hov
          obtain ⟨-, j2, j3, -⟩ := mk_inv (C := 3) (i + 1) _ _ c1 l1 (fun k hk => (hc k (by omega)).2) hmk
          refine q_iv (As := [_, _]) dX3_readRuns_69 ml_X3_63 mt_X3_append mi_X3_append se_X3_append hl rfl rfl (Nat.le_of_ble_eq_true rfl) (Nat.le_of_ble_eq_true rfl) (Nat.zero_le _) (Nat.zero_le _) (Nat.le_of_ble_eq_true rfl) (q_C.mono (c_X3_append hL (show 1 ≤ S (fi + i * sr) by omega) (by have := (hc i (by omega)).2; omega)) (fun v G sz1 hq => ?_))
          obtain ⟨rfl, hN, hv⟩ := hq
          have hS2 := ln_S_cg (n + 1) hcg
          rcases hv with ⟨m, hm, hm1, hS, rfl, hL⟩ | ⟨hno, -⟩
          · have hmm : m = sx + 1 := ap_m hm (by omega) hS le10
            rw [hmm] at hL
            have hL := hL.cg hcg
            have hb := (hN _ (by omega)).trans hb
            have hF : ∀ b, b < a ∨ a + 4 ≤ b → G b = G0 b := fun b hb => (hN b hb).trans (hF b hb)
            refine q_pop dX3_readRuns_72 rfl ?_
            refine q_iload dX3_readRuns_73 rfl ?_
            refine q_if_eq (tgt := 80) dX3_readRuns_75 (by decide) (fun h => absurd h (by decide)) (fun _ => ?_)
            refine q_iconst (v := nI 0) dX3_readRuns_78 (by decide) ?_
            refine s_istore_n dX3_readRuns_79 (by decide) rfl ?_
            refine s_iinc dX3_readRuns_80 rfl (s_inc1 _) (by decide) rfl ?_
            refine q_goto (tgt := 4) dX3_readRuns_83 (by decide) ?_
            exact ih _ (by omega) (i + 1) 0 (n + 1) c1 l1 G _ _ rfl (by omega) (by omega) hRd2 hL hb hF
          · exact absurd ⟨_, rfl, by omega, by rw [hS2]; omega⟩ hno

set_option maxHeartbeats 4000000 in
set_option maxRecDepth 100000 in
theorem c_X3_readRuns {T : q_T} {G0 : q_G} {sz a fi sr le cr b N : Nat} {S : Nat → Nat} (hL : ∀ c l, Lin T G0 a fi sr le cr c l 0) (hb : G0 b = some (q_ia T N (fun i => nI (S i)))) (hd : b < a ∨ a + 4 ≤ b) (le10 : le ≤ 10) (hN1 : N ≤ 1000) (hc : ∀ i, i < le → fi + i * sr < N ∧ S (fi + i * sr) ≤ 3) : q_C T mX3_readRuns 4 88 0 0 [.ref a, .ref b] G0 sz (fun v G' sz' => sz = sz' ∧ v = none ∧ (∃ n la c l, mk_s (fun i => S (fi + i * sr)) le = (n, la, c, l) ∧ Lin T G' a fi sr le cr c l n) ∧ ∀ b, b < a ∨ a + 4 ≤ b → G' b = G0 b) := by
  refine q_C.of (by decide) rfl (by simp [Value.category]) (Nat.le_of_ble_eq_true rfl) ?_
  refine q_iconst (v := nI 0) dX3_readRuns_0 (by decide) ?_
  refine s_istore_n dX3_readRuns_1 (by decide) rfl ?_
  refine q_iconst (v := nI 0) dX3_readRuns_2 (by decide) ?_
  refine s_istore_n dX3_readRuns_3 (by decide) rfl ?_
  exact l_readRuns hd le10 hN1 hc (fun n la c l G h1 h2 h3 => ⟨rfl, rfl, ⟨n, la, c, l, h1, h2⟩, h3⟩) _ 0 0 0 _ _ _ _ _ rfl (Nat.zero_le _) (Nat.le_refl _) Rd.first (hL _ _) hb (fun _ _ => rfl)
