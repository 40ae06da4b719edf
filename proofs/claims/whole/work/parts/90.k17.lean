/-! THE CLASS: grading -/
abbrev gd_ob (s n : Nat) : List Value := [.int (nI n), .ref (s + 4), .ref (s + 9), .ref (s + 10)]
def Pf (A : md_A) (p : Nat) (S : Nat → Nat) : Prop := ∀ x, x < A 1 p * A 2 p → S x < 1 <<< (A 3 p + 1)
def Gy (T : q_T) (G0 : q_G) (s : Nat) (G : q_G) (n : Nat) : Prop := Scn T G s ∧ (∃ W, G (s + 4) = some (q_ob 8 [.ref s, .int (nI W)])) ∧ G (s + 8) = some (q_ob 2 (gd_ob s n)) ∧ (∃ S1 : Nat → Nat, G (s + 9) = some (q_ia T 100 (fun i => nI (S1 i)))) ∧ (∃ S2 : Nat → Nat, G (s + 10) = some (q_ia T 100 (fun i => nI (S2 i)))) ∧ n ≤ 400 ∧ ∀ b, b ≠ s + 1 ∧ b ≠ s + 2 ∧ b ≠ s + 4 ∧ b ≠ s + 8 ∧ b ≠ s + 9 ∧ b ≠ s + 10 → G b = G0 b
/-- where a grading stands: S the sets, n probes -/
def Gd (T : q_T) (G0 : q_G) (s u D p : Nat) (A : md_A) (G : q_G) (S : Nat → Nat) (n : Nat) : Prop := Scn T G s ∧ (∃ W, G (s + 4) = some (q_ob 8 [.ref s, .int (nI W)])) ∧ PuzL T G u A p D ∧ G (s + 8) = some (q_ob 2 (gd_ob s n)) ∧ (∃ S1 : Nat → Nat, G (s + 9) = some (q_ia T 100 (fun i => nI (S1 i))) ∧ pz_on A p S1 S ∧ ∀ k, k < A 1 p + A 2 p → Rst A p S1 k) ∧ (∃ S2 : Nat → Nat, G (s + 10) = some (q_ia T 100 (fun i => nI (S2 i)))) ∧ n ≤ 400 ∧ Ps A p S ∧ Pn A p S ∧ Pf A p S ∧ ∀ b, b ≠ s + 1 ∧ b ≠ s + 2 ∧ b ≠ s + 4 ∧ b ≠ s + 8 ∧ b ≠ s + 9 ∧ b ≠ s + 10 → G b = G0 b
theorem Gd.y {T : q_T} {G0 : q_G} {s u D p : Nat} {A : md_A} {G : q_G} {S : Nat → Nat} {n : Nat} (h : Gd T G0 s u D p A G S n) : Gy T G0 s G n := ⟨h.1, h.2.1, h.2.2.2.1, h.2.2.2.2.1.imp (fun _ h => h.1), h.2.2.2.2.2.1, h.2.2.2.2.2.2.1, h.2.2.2.2.2.2.2.2.2.2⟩
theorem gr_v_skip {A : md_A} {p c n k : Nat} {S : Nat → Nat} {Q : gr_Q} {v : Nat} (h : gr_v A p c v Q = (S, n, k, 0)) : ∀ d, (∀ w, v ≤ w → w < v + d → (S c).testBit w = false) → gr_v A p c (v + d) Q = (S, n, k, 0)
  | 0, _ => h
  | d + 1, hb => by
    show gr_p1 A p c (v + d) (gr_v A p c (v + d) Q) = _
    rw [gr_v_skip h d (fun w h1 h2 => hb w h1 (by omega))]
    exact gr_p1_skip (Or.inr (hb (v + d) (by omega) (by omega)))
theorem one_and {s : Nat} (h : s < 16) (h1 : 1 ≤ s) : ln_pop s = 1 ↔ s &&& (s - 1) = 0 := by
  have key : ∀ s, s < 16 → 1 ≤ s → (ln_pop s = 1 ↔ s &&& (s - 1) = 0) := by decide +kernel
  exact key s h h1
theorem full_bit {s c v : Nat} (h : s < 1 <<< (c + 1)) (hv : c < v) : s.testBit v = false := Nat.testBit_lt_two_pow (Nat.lt_of_lt_of_le h (by rw [Nat.shiftLeft_eq, Nat.one_mul]; exact Nat.pow_le_pow_right (by decide) hv))
theorem Pf.sub {A : md_A} {p : Nat} {S S1 : Nat → Nat} (h : Pf A p S) (hs : pz_sub A p S1 S) : Pf A p S1 := fun x hx => by
  have h1 := hs x hx
  refine Nat.lt_of_le_of_lt ?_ (h x hx)
  rw [← h1]
  first | exact Nat.and_le_right | exact Nat.and_le_left
theorem Pf.df {A : md_A} {p c v : Nat} {S : Nat → Nat} (h : Pf A p S) (hc : c < A 1 p * A 2 p) : Pf A p (va_up S c (ln_df (S c) (1 <<< v))) := fun x hx => by
  unfold va_up
  split
  · exact Nat.lt_of_le_of_lt Nat.and_le_left (h c hc)
  · exact h x hx
theorem pz_st_on {A : md_A} {p : Nat} {S S' : Nat → Nat} (hz : Pz A p) (h : pz_on A p S S') : (pz_st A p 401 S = none → pz_st A p 401 S' = none) ∧ ∀ r S1, pz_st A p 401 S = some (r, S1) → ∃ S2, pz_st A p 401 S' = some (r, S2) ∧ pz_on A p S1 S2 := by
  rcases pz_on_st hz 401 S S' h with ⟨a, b⟩ | ⟨r, X, Y, a, b, c⟩
  · exact ⟨fun _ => b, fun r S1 e => by rw [a] at e; cases e⟩
  · exact ⟨fun e => (by rw [a] at e; cases e), fun r1 S1 e => by rw [a] at e; cases e; exact ⟨Y, b, c⟩⟩

set_option maxHeartbeats 4000000 in
set_option maxRecDepth 100000 in
theorem l_pass_v {T : q_T} {G0 : q_G} {sz s u D p : Nat} {A : md_A} {E : q_E} {c n0 : Nat} {Q : gr_Q} (hz : Pz A p) (hsu : s + 11 ≤ u) (hc : c < A 1 p * A 2 p) (hx : ∀ n k S G, gr_v A p c 4 Q = (S, n, k, 0) → n0 + k ≤ n → Gd T G0 s u D p A G S n → q_R T mX1_passOfProbes 4 104 177 [some (.ref (s + 8)), some (.ref u), some (.int (nI k)), some (.int (nI c)), some (.int (nI (A 3 p + 1)))] [] G sz 0 0 E) (hE1 : ∀ n k S G, gr_v A p c 4 Q = (S, n, k, 1) → Gy T G0 s G n → E (some (.int (-3))) G sz) (hE2 : ∀ n k S G, gr_v A p c 4 Q = (S, n, k, 2) → Gy T G0 s G n → E (some (.int (-2))) G sz) : ∀ (mZ : Nat) (v n k : Nat) (S : Nat → Nat) (G : q_G), mZ = A 3 p + 1 - v → (v ≤ A 3 p + 1) → (gr_v A p c v Q = (S, n, k, 0)) → (n0 + k ≤ n) → (Gd T G0 s u D p A G S n) → q_R T mX1_passOfProbes 4 104 15 [some (.ref (s + 8)), some (.ref u), some (.int (nI k)), some (.int (nI c)), some (.int (nI v))] [] G sz 0 0 E := by
  intro mZ
  induction mZ using Nat.strongRecOn with | ind mZ ih => ?_
  intro v n k S G hm hv hQ hnk H
  obtain ⟨hS, hT, hPl, he, ⟨S1, hs, hon, hrst⟩, ⟨S2, ht⟩, hn400, hps, hpn, hpf, hF⟩ := H
  have hu := hPl.1
  have hwh := pz_size hz
  have hc3 := hz.2.2.2.1
  refine q_iload dX1_passOfProbes_15 rfl ?_
  refine q_aload_n dX1_passOfProbes_17 rfl rfl ?_
  refine q_get dX1_passOfProbes_18 fl_X1_59 hu rfl ?_
  refine n_icmp_gt (tgt := 177) dX1_passOfProbes_21 (by decide) (by omega) (by omega) (fun c21 => ?_) (fun c21 => ?_)
  · obtain rfl : v = A 3 p + 1 := by omega
    have hQ4 := gr_v_skip hQ (4 - (A 3 p + 1)) (fun w h1 h2 => full_bit (hpf c hc) (by omega))
    rw [show A 3 p + 1 + (4 - (A 3 p + 1)) = 4 by omega] at hQ4
    exact hx n k S G hQ4 hnk ⟨hS, hT, hPl, he, ⟨S1, hs, hon, hrst⟩, ⟨S2, ht⟩, hn400, hps, hpn, hpf, hF⟩
  · refine q_aload_n dX1_passOfProbes_24 rfl rfl ?_
    refine q_get dX1_passOfProbes_25 fl_X1_15 he rfl ?_
    refine q_iload_n dX1_passOfProbes_28 rfl ?_
    refine w_ld (v := S c) dX1_passOfProbes_29 hs rfl (by omega) (by omega) (hon c hc) ?_
    refine q_iload dX1_passOfProbes_30 rfl ?_
    refine q_isN (As := [_, _]) dX1_passOfProbes_32 mn_X1_62 mt_X8_holds ms_X8_holds rfl (Nat.le_of_ble_eq_true rfl) (Nat.le_of_ble_eq_true rfl) (Nat.zero_le _) (Nat.zero_le _) (Nat.le_of_ble_eq_true rfl) (q_C.mono (c_X8_holds (hps c hc) (by omega)) (fun v G1 sz1 hq => ?_))
    obtain ⟨⟨hq32, rfl⟩ | ⟨hq32, rfl⟩, rfl, rfl⟩ := hq
    · refine q_if_eq (tgt := 171) dX1_passOfProbes_35 (by decide) (fun h => absurd h (by decide)) (fun _ => ?_)
      refine q_aload_n dX1_passOfProbes_38 rfl rfl ?_
      refine q_get dX1_passOfProbes_39 fl_X1_15 he rfl ?_
      refine q_iload_n dX1_passOfProbes_42 rfl ?_
      refine w_ld (v := S c) dX1_passOfProbes_43 hs rfl (by omega) (by omega) (hon c hc) ?_
      refine q_isN (As := [_]) dX1_passOfProbes_44 mn_X1_66 mt_X8_isOne ms_X8_isOne rfl (Nat.le_of_ble_eq_true rfl) (Nat.le_of_ble_eq_true rfl) (Nat.zero_le _) (Nat.zero_le _) (Nat.le_of_ble_eq_true rfl) (q_C.mono (c_X8_isOne (hps c hc)) (fun v G1 sz1 hq => ?_))
      obtain ⟨⟨hq44, rfl⟩ | ⟨hq44, rfl⟩, rfl, rfl⟩ := hq
      · refine q_if_eq (tgt := 53) dX1_passOfProbes_47 (by decide) (fun h => absurd h (by decide)) (fun _ => ?_)
        refine q_goto (tgt := 171) dX1_passOfProbes_50 (by decide) ?_
        refine s_iinc dX1_passOfProbes_171 rfl (s_inc1 _) (by decide) rfl ?_
        refine q_goto (tgt := 15) dX1_passOfProbes_174 (by decide) ?_
        exact ih _ (by omega) (v + 1) n k S G rfl (by omega) (show gr_p1 A p c v (gr_v A p c v Q) = _ by rw [hQ]; exact gr_p1_skip (Or.inl ((one_and (hps c hc) (hpn c hc)).mp hq44))) hnk ⟨hS, hT, hPl, he, ⟨S1, hs, hon, hrst⟩, ⟨S2, ht⟩, hn400, hps, hpn, hpf, hF⟩
      · refine q_if_eq (tgt := 53) dX1_passOfProbes_47 (by decide) (fun _ => ?_) (fun h => absurd h (by decide))
        have hno : ¬ (S c &&& (S c - 1) = 0) := fun h => hq44 ((one_and (hps c hc) (hpn c hc)).mpr h)
        refine q_aload_n dX1_passOfProbes_53 rfl rfl ?_
        refine q_get dX1_passOfProbes_54 fl_X1_22 he rfl ?_
        refine q_sipush (v := nI 400) dX1_passOfProbes_57 (by decide) ?_
        refine n_icmp_lt (tgt := 66) dX1_passOfProbes_60 (by decide) (by omega) (by omega) (fun c60 => ?_) (fun c60 => ?_)
        · have hne : n ≠ 400 := by omega
          refine q_aload_n dX1_passOfProbes_66 rfl rfl ?_
          refine q_dup dX1_passOfProbes_67 rfl ?_
          refine q_get dX1_passOfProbes_68 fl_X1_22 he rfl ?_
          refine q_iconst (v := nI 1) dX1_passOfProbes_71 (by decide) ?_
          refine q_iadd dX1_passOfProbes_72 (nI_add _ _) ?_
          refine w_put (fs2 := gd_ob s (n + 1)) dX1_passOfProbes_73 fl_X1_22 fp_X1_22 he (Nat.le_of_ble_eq_true rfl) rfl rfl rfl (fun G he hN => ?_)
          have hu := (hN _ (by omega)).trans hu
          have hs := (hN _ (by omega)).trans hs
          have ht := (hN _ (by omega)).trans ht
          have hS := hS.fr (fun b b1 b2 => hN b (by omega))
          have hT := hT.imp (fun W h => (hN _ (by omega)).trans h)
          have hPl := hPl.fr (fun b b1 b2 => hN b (by omega))
          have hF : ∀ b, b ≠ s + 1 ∧ b ≠ s + 2 ∧ b ≠ s + 4 ∧ b ≠ s + 8 ∧ b ≠ s + 9 ∧ b ≠ s + 10 → G b = G0 b := fun b hb => (hN b (by omega)).trans (hF b hb)
          refine q_aload_n dX1_passOfProbes_76 rfl rfl ?_
          refine q_get dX1_passOfProbes_77 fl_X1_15 he rfl ?_
          refine q_iconst (v := nI 0) dX1_passOfProbes_80 (by decide) ?_
          refine q_aload_n dX1_passOfProbes_81 rfl rfl ?_
          refine q_get dX1_passOfProbes_82 fl_X1_19 he rfl ?_
          refine q_iconst (v := nI 0) dX1_passOfProbes_85 (by decide) ?_
          refine q_aload_n dX1_passOfProbes_86 rfl rfl ?_
          refine q_get dX1_passOfProbes_87 fl_X1_51 hu rfl ?_
          refine w_acopy dX1_passOfProbes_90 ml_X1_70 hs ht hwh hwh (by omega) (by omega) (Nat.le_of_ble_eq_true rfl) (Nat.le_of_ble_eq_true rfl) (Nat.le_of_ble_eq_true rfl) (fun G ht hN => ?_)
          have he := (hN _ (by omega)).trans he
          have hu := (hN _ (by omega)).trans hu
          have hs := (hN _ (by omega)).trans hs
          have hS := hS.fr (fun b b1 b2 => hN b (by omega))
          have hT := hT.imp (fun W h => (hN _ (by omega)).trans h)
          have hPl := hPl.fr (fun b b1 b2 => hN b (by omega))
          have hF : ∀ b, b ≠ s + 1 ∧ b ≠ s + 2 ∧ b ≠ s + 4 ∧ b ≠ s + 8 ∧ b ≠ s + 9 ∧ b ≠ s + 10 → G b = G0 b := fun b hb => (hN b (by omega)).trans (hF b hb)
          refine q_aload_n dX1_passOfProbes_93 rfl rfl ?_
          refine q_get dX1_passOfProbes_94 fl_X1_19 he rfl ?_
          refine q_iload_n dX1_passOfProbes_97 rfl ?_
          refine q_iconst (v := nI 1) dX1_passOfProbes_98 (by decide) ?_
          refine q_iload dX1_passOfProbes_99 rfl ?_
          refine q_ishl dX1_passOfProbes_101 (n_shl (by omega) rfl) ?_
          refine w_st (k := c) (v := 1 <<< v) dX1_passOfProbes_102 ht rfl (by omega) (by omega) rfl (fun G ht hN => ?_)
          have he := (hN _ (by omega)).trans he
          have hu := (hN _ (by omega)).trans hu
          have hs := (hN _ (by omega)).trans hs
          have hS := hS.fr (fun b b1 b2 => hN b (by omega))
          have hT := hT.imp (fun W h => (hN _ (by omega)).trans h)
          have hPl := hPl.fr (fun b b1 b2 => hN b (by omega))
          have hF : ∀ b, b ≠ s + 1 ∧ b ≠ s + 2 ∧ b ≠ s + 4 ∧ b ≠ s + 8 ∧ b ≠ s + 9 ∧ b ≠ s + 10 → G b = G0 b := fun b hb => (hN b (by omega)).trans (hF b hb)
          refine q_aload_n dX1_passOfProbes_103 rfl rfl ?_
          refine q_get dX1_passOfProbes_104 fl_X1_9 he rfl ?_
          refine q_aload_n dX1_passOfProbes_107 rfl rfl ?_
          refine q_aload_n dX1_passOfProbes_108 rfl rfl ?_
          refine q_get dX1_passOfProbes_109 fl_X1_19 he rfl ?_
          refine q_aload_n dX1_passOfProbes_112 rfl rfl ?_
          refine q_iload_n dX1_passOfProbes_113 rfl ?_
          refine q_iv (As := [_]) dX1_passOfProbes_114 ml_X1_76 mt_X4_linesThrough mi_X4_linesThrough se_X4_linesThrough hu rfl rfl (Nat.le_of_ble_eq_true rfl) (Nat.le_of_ble_eq_true rfl) (Nat.zero_le _) (Nat.zero_le _) (Nat.le_of_ble_eq_true rfl) (q_C.mono (c_X4_linesThrough hu hz.2.1 hz.2.2.1.2 hc) (fun v G1 sz1 hq => ?_))
          obtain ⟨rfl, rfl, rfl⟩ := hq
          obtain ⟨W, hTW⟩ := hT
          have hSB : ∀ x, x < A 1 p * A 2 p → x ≠ c → va_up (fun i => if i < A 1 p * A 2 p then S1 i else S2 i) c (1 <<< v) x = S1 x := fun x hx hne => by rw [va_up_n _ _ hne, if_pos hx]
          have hon2 : pz_on A p (va_up (fun i => if i < A 1 p * A 2 p then S1 i else S2 i) c (1 <<< v)) (va_up S c (1 <<< v)) := fun x hx => if e : x = c then (by rw [e, va_up_s, va_up_s]) else (by rw [hSB x hx e, va_up_n _ _ e]; exact hon x hx)
          have hpsT := pz_on_ps hon2.symm (sr_child_ok (c := c) (v := v) hps hpn (by omega)).1
          refine q_iv (As := [_, _, _]) dX1_passOfProbes_117 ml_X1_41 mt_X7_bringToRest mi_X7_bringToRest se_X7_bringToRest hTW rfl rfl (Nat.le_of_ble_eq_true rfl) (Nat.le_of_ble_eq_true rfl) (Nat.zero_le _) (Nat.zero_le _) (Nat.le_of_ble_eq_true rfl) (q_C.mono (c_X7_bringToRest hS ⟨W, hTW⟩ hPl ht hpsT (Wt.child hz hrst hc hSB) hz ⟨hwh, by omega⟩ (by omega) (by omega) (by omega)) (fun v G sz1 hq => ?_))
          obtain ⟨rfl, hN, hS, hT, S5, ht, hv⟩ := hq
          have he := (hN _ (by omega)).trans he
          have hu := (hN _ (by omega)).trans hu
          have hs := (hN _ (by omega)).trans hs
          have hPl := hPl.fr (fun b b1 b2 => hN b (by omega))
          have hF : ∀ b, b ≠ s + 1 ∧ b ≠ s + 2 ∧ b ≠ s + 4 ∧ b ≠ s + 8 ∧ b ≠ s + 9 ∧ b ≠ s + 10 → G b = G0 b := fun b hb => (hN b (by omega)).trans (hF b hb)
          have hso := pz_st_on hz hon2
          rcases hv with ⟨hst117, rfl⟩ | ⟨r, S6, hst117, rfl, ho6, hr6⟩
          · have hnone := hso.1 hst117
            refine q_bipush (v := -2) dX1_passOfProbes_120 (by decide) ?_
            refine q_icmp_eq (tgt := 128) dX1_passOfProbes_122 (by decide) (fun _ => ?_) (fun h => absurd h (by decide))
            refine s_iinc dX1_passOfProbes_128 rfl (s_inc1 _) (by decide) rfl ?_
            refine q_aload_n dX1_passOfProbes_131 rfl rfl ?_
            refine q_get dX1_passOfProbes_132 fl_X1_15 he rfl ?_
            refine q_iload_n dX1_passOfProbes_135 rfl ?_
            refine q_dup2 dX1_passOfProbes_136 rfl rfl ?_
            refine w_ld (v := S1 c) dX1_passOfProbes_137 hs rfl (by omega) (by omega) rfl ?_
            refine q_iconst (v := nI 1) dX1_passOfProbes_138 (by decide) ?_
            refine q_iload dX1_passOfProbes_139 rfl ?_
            refine q_ishl dX1_passOfProbes_141 (n_shl (by omega) rfl) ?_
            refine q_iconst (v := -1) dX1_passOfProbes_142 (by decide) ?_
            refine q_ixor dX1_passOfProbes_143 rfl ?_
            refine q_iand dX1_passOfProbes_144 (ln_df_i (by rw [hon c hc]; exact hps c hc) (shl_lt (by omega))) ?_
            refine w_st (k := c) (v := ln_df (S1 c) (1 <<< v)) dX1_passOfProbes_145 hs rfl (by omega) (by omega) rfl (fun G hs hN => ?_)
            have he := (hN _ (by omega)).trans he
            have hu := (hN _ (by omega)).trans hu
            have ht := (hN _ (by omega)).trans ht
            have hS := hS.fr (fun b b1 b2 => hN b (by omega))
            have hT := hT.imp (fun W h => (hN _ (by omega)).trans h)
            have hPl := hPl.fr (fun b b1 b2 => hN b (by omega))
            have hF : ∀ b, b ≠ s + 1 ∧ b ≠ s + 2 ∧ b ≠ s + 4 ∧ b ≠ s + 8 ∧ b ≠ s + 9 ∧ b ≠ s + 10 → G b = G0 b := fun b hb => (hN b (by omega)).trans (hF b hb)
            refine q_aload_n dX1_passOfProbes_146 rfl rfl ?_
            refine q_get dX1_passOfProbes_147 fl_X1_9 he rfl ?_
            refine q_aload_n dX1_passOfProbes_150 rfl rfl ?_
            refine q_aload_n dX1_passOfProbes_151 rfl rfl ?_
            refine q_get dX1_passOfProbes_152 fl_X1_15 he rfl ?_
            refine q_aload_n dX1_passOfProbes_155 rfl rfl ?_
            refine q_iload_n dX1_passOfProbes_156 rfl ?_
            refine q_iv (As := [_]) dX1_passOfProbes_157 ml_X1_76 mt_X4_linesThrough mi_X4_linesThrough se_X4_linesThrough hu rfl rfl (Nat.le_of_ble_eq_true rfl) (Nat.le_of_ble_eq_true rfl) (Nat.zero_le _) (Nat.zero_le _) (Nat.le_of_ble_eq_true rfl) (q_C.mono (c_X4_linesThrough hu hz.2.1 hz.2.2.1.2 hc) (fun v G1 sz1 hq => ?_))
            obtain ⟨rfl, rfl, rfl⟩ := hq
            obtain ⟨W, hTW⟩ := hT
            have hdf : S1 c = S c := hon c hc
            have hSB : ∀ x, x < A 1 p * A 2 p → x ≠ c → va_up S1 c (ln_df (S1 c) (1 <<< v)) x = S1 x := fun x hx hne => va_up_n _ _ hne
            have hon2 : pz_on A p (va_up S1 c (ln_df (S1 c) (1 <<< v))) (va_up S c (ln_df (S c) (1 <<< v))) := fun x hx => if e : x = c then (by rw [e, va_up_s, va_up_s, hdf]) else (by rw [va_up_n _ _ e, va_up_n _ _ e]; exact hon x hx)
            obtain ⟨hpl, hpnl⟩ := gr_less (v := v) hps hpn hc (by omega) hno
            have hpsL := pz_on_ps hon2.symm hpl
            refine q_iv (As := [_, _, _]) dX1_passOfProbes_160 ml_X1_41 mt_X7_bringToRest mi_X7_bringToRest se_X7_bringToRest hTW rfl rfl (Nat.le_of_ble_eq_true rfl) (Nat.le_of_ble_eq_true rfl) (Nat.zero_le _) (Nat.zero_le _) (Nat.le_of_ble_eq_true rfl) (q_C.mono (c_X7_bringToRest hS ⟨W, hTW⟩ hPl hs hpsL (Wt.child hz hrst hc hSB) hz ⟨hwh, by omega⟩ (by omega) (by omega) (by omega)) (fun v G sz1 hq => ?_))
            obtain ⟨rfl, hN, hS, hT, S5, hs, hv⟩ := hq
            have he := (hN _ (by omega)).trans he
            have hu := (hN _ (by omega)).trans hu
            have ht := (hN _ (by omega)).trans ht
            have hPl := hPl.fr (fun b b1 b2 => hN b (by omega))
            have hF : ∀ b, b ≠ s + 1 ∧ b ≠ s + 2 ∧ b ≠ s + 4 ∧ b ≠ s + 8 ∧ b ≠ s + 9 ∧ b ≠ s + 10 → G b = G0 b := fun b hb => (hN b (by omega)).trans (hF b hb)
            have hso := pz_st_on hz hon2
            rcases hv with ⟨hst160, rfl⟩ | ⟨r, S6, hst160, rfl, ho6, hr6⟩
            · have hnone2 := hso.1 hst160
              refine q_bipush (v := -2) dX1_passOfProbes_163 (by decide) ?_
              refine q_icmp_ne (tgt := 171) dX1_passOfProbes_165 (by decide) (fun h => absurd h (by decide)) (fun _ => ?_)
              refine q_bipush (v := -2) dX1_passOfProbes_168 (by decide) ?_
              exact q_ireturn dX1_passOfProbes_170 rfl rfl (hE2 (n + 1) (k + 1) S G (by have h1 := gr_v_on (q := Q) (a := v + 1) (4 - (v + 1)) (by rw [show gr_v A p c (v + 1) Q = (S, n + 1, k + 1, 2) from (show gr_p1 A p c v (gr_v A p c v Q) = _ by rw [hQ]; exact gr_p1_brk hno hq32 hne hnone hnone2)]; exact (by decide : (2 : Nat) ≠ 0)); rw [show v + 1 + (4 - (v + 1)) = 4 by omega] at h1; rw [h1]; show gr_p1 A p c v (gr_v A p c v Q) = _; rw [hQ]; exact gr_p1_brk hno hq32 hne hnone hnone2) ⟨hS, hT, he, ⟨_, hs⟩, ⟨_, ht⟩, by omega, hF⟩)
            · obtain ⟨ip, it, ir, -⟩ := pz_st_inv hz 401 _ hpsL r S6 hst160
              have htl := pz_tot_le hz hpsL
              obtain ⟨S7, hst7, ho7⟩ := hso.2 r S6 hst160
              refine q_bipush (v := -2) dX1_passOfProbes_163 (by decide) ?_
              refine q_icmp_ne (tgt := 171) dX1_passOfProbes_165 (by decide) (fun c165 => ?_) (fun c165 => absurd c165 (nI_nm2 (by omega)))
              refine s_iinc dX1_passOfProbes_171 rfl (s_inc1 _) (by decide) rfl ?_
              refine q_goto (tgt := 15) dX1_passOfProbes_174 (by decide) ?_
              have hm7 := pz_st_more hz 401 _ hpl hpnl r S7 hst7
              have hi7 := (pz_st_inv hz 401 _ hpl r S7 hst7).1
              exact ih _ (by omega) (v + 1) (n + 1) (k + 1) S7 G rfl (by omega) (show gr_p1 A p c v (gr_v A p c v Q) = _ by rw [hQ]; exact gr_p1_took hno hq32 hne hnone hst7) (by omega) ⟨hS, hT, hPl, he, ⟨S5, hs, ho6.trans ho7, hr6⟩, ⟨_, ht⟩, by omega, hi7, hm7.1, (hpf.df (v := v) hc).sub hm7.2, hF⟩
          · obtain ⟨ip, it, ir, -⟩ := pz_st_inv hz 401 _ hpsT r S6 hst117
            have htl := pz_tot_le hz hpsT
            obtain ⟨S7, hst7, ho7⟩ := hso.2 r S6 hst117
            refine q_bipush (v := -2) dX1_passOfProbes_120 (by decide) ?_
            refine q_icmp_eq (tgt := 128) dX1_passOfProbes_122 (by decide) (fun c122 => absurd c122 (nI_nm2 (by omega))) (fun c122 => ?_)
            refine q_goto (tgt := 171) dX1_passOfProbes_125 (by decide) ?_
            refine s_iinc dX1_passOfProbes_171 rfl (s_inc1 _) (by decide) rfl ?_
            refine q_goto (tgt := 15) dX1_passOfProbes_174 (by decide) ?_
            exact ih _ (by omega) (v + 1) (n + 1) k S G rfl (by omega) (show gr_p1 A p c v (gr_v A p c v Q) = _ by rw [hQ]; exact gr_p1_fine hno hq32 hne hst7) (by omega) ⟨hS, hT, hPl, he, ⟨S1, hs, hon, hrst⟩, ⟨S5, ht⟩, by omega, hps, hpn, hpf, hF⟩
        · refine q_bipush (v := -3) dX1_passOfProbes_63 (by decide) ?_
          exact q_ireturn dX1_passOfProbes_65 rfl rfl (hE1 n k S G (by have h1 := gr_v_on (q := Q) (a := v + 1) (4 - (v + 1)) (by rw [show gr_v A p c (v + 1) Q = (S, 400, k, 1) from (show gr_p1 A p c v (gr_v A p c v Q) = _ by rw [hQ, show n = 400 by omega]; exact gr_p1_much hno hq32)]; exact (by decide : (1 : Nat) ≠ 0)); rw [show v + 1 + (4 - (v + 1)) = 4 by omega] at h1; rw [h1, show n = 400 by omega]; show gr_p1 A p c v (gr_v A p c v Q) = _; rw [hQ, show n = 400 by omega]; exact gr_p1_much hno hq32) ⟨hS, hT, he, ⟨S1, hs⟩, ⟨S2, ht⟩, hn400, hF⟩)
    · refine q_if_eq (tgt := 171) dX1_passOfProbes_35 (by decide) (fun _ => ?_) (fun h => absurd h (by decide))
      refine s_iinc dX1_passOfProbes_171 rfl (s_inc1 _) (by decide) rfl ?_
      refine q_goto (tgt := 15) dX1_passOfProbes_174 (by decide) ?_
      exact ih _ (by omega) (v + 1) n k S G rfl (by omega) (show gr_p1 A p c v (gr_v A p c v Q) = _ by rw [hQ]; exact gr_p1_skip (Or.inr hq32)) hnk ⟨hS, hT, hPl, he, ⟨S1, hs, hon, hrst⟩, ⟨S2, ht⟩, hn400, hps, hpn, hpf, hF⟩

set_option maxHeartbeats 4000000 in
set_option maxRecDepth 100000 in
theorem l_pass_c {T : q_T} {G0 : q_G} {sz s u D p : Nat} {A : md_A} {E : q_E} {n0 : Nat} {S0 : Nat → Nat} (hz : Pz A p) (hsu : s + 11 ≤ u) (hE0 : ∀ n k S G, gr_c A p (A 1 p * A 2 p) (S0, n0, 0, 0) = (S, n, k, 0) → n0 + k ≤ n → Gd T G0 s u D p A G S n → E (some (.int (nI k))) G sz) (hE1 : ∀ n k S G, gr_c A p (A 1 p * A 2 p) (S0, n0, 0, 0) = (S, n, k, 1) → Gy T G0 s G n → E (some (.int (-3))) G sz) (hE2 : ∀ n k S G, gr_c A p (A 1 p * A 2 p) (S0, n0, 0, 0) = (S, n, k, 2) → Gy T G0 s G n → E (some (.int (-2))) G sz) : ∀ (mZ : Nat) (c n k : Nat) (S : Nat → Nat) (G : q_G) (x4 : Option Value), mZ = A 1 p * A 2 p - c → (c ≤ A 1 p * A 2 p) → (gr_c A p c (S0, n0, 0, 0) = (S, n, k, 0)) → (n0 + k ≤ n) → (Gd T G0 s u D p A G S n) → q_R T mX1_passOfProbes 4 104 4 [some (.ref (s + 8)), some (.ref u), some (.int (nI k)), some (.int (nI c)), x4] [] G sz 0 0 E := by
  intro mZ
  induction mZ using Nat.strongRecOn with | ind mZ ih => ?_
  intro c n k S G x4 hm hcw hQ hnk H
  have hu := H.2.2.1.1
  have hwh := pz_size hz
  refine q_iload_n dX1_passOfProbes_4 rfl ?_
  refine q_aload_n dX1_passOfProbes_5 rfl rfl ?_
  refine q_get dX1_passOfProbes_6 fl_X1_51 hu rfl ?_
  refine n_icmp_ge (tgt := 183) dX1_passOfProbes_9 (by decide) (by omega) (by omega) (fun c9 => ?_) (fun c9 => ?_)
  · obtain rfl : c = A 1 p * A 2 p := by omega
    refine q_iload_n dX1_passOfProbes_183 rfl ?_
    exact q_ireturn dX1_passOfProbes_184 rfl rfl (hE0 n k S G hQ hnk H)
  · refine q_iconst (v := nI 0) dX1_passOfProbes_12 (by decide) ?_
    refine s_istore dX1_passOfProbes_13 (by decide) rfl ?_
    refine l_pass_v (Q := (S, n, k, 0)) hz hsu (by omega) (fun n1 k1 S3 G hv4 hnk1 H => ?_) (fun n1 k1 S3 G hv4 hy => hE1 n1 k1 S3 G (by have h1 := gr_c_on (q := (S0, n0, 0, 0)) (a := c + 1) (A 1 p * A 2 p - (c + 1)) (by rw [show gr_c A p (c + 1) (S0, n0, 0, 0) = (S3, n1, k1, 1) from (show gr_v A p c 4 (gr_c A p c (S0, n0, 0, 0)) = _ by rw [hQ]; exact hv4)]; exact (by decide : (1 : Nat) ≠ 0)); rw [show c + 1 + (A 1 p * A 2 p - (c + 1)) = A 1 p * A 2 p by omega] at h1; rw [h1]; show gr_v A p c 4 (gr_c A p c (S0, n0, 0, 0)) = _; rw [hQ]; exact hv4) hy) (fun n1 k1 S3 G hv4 hy => hE2 n1 k1 S3 G (by have h1 := gr_c_on (q := (S0, n0, 0, 0)) (a := c + 1) (A 1 p * A 2 p - (c + 1)) (by rw [show gr_c A p (c + 1) (S0, n0, 0, 0) = (S3, n1, k1, 2) from (show gr_v A p c 4 (gr_c A p c (S0, n0, 0, 0)) = _ by rw [hQ]; exact hv4)]; exact (by decide : (2 : Nat) ≠ 0)); rw [show c + 1 + (A 1 p * A 2 p - (c + 1)) = A 1 p * A 2 p by omega] at h1; rw [h1]; show gr_v A p c 4 (gr_c A p c (S0, n0, 0, 0)) = _; rw [hQ]; exact hv4) hy) _ 0 n k S G rfl (Nat.zero_le _) rfl hnk H
    refine s_iinc dX1_passOfProbes_177 rfl (s_inc1 _) (by decide) rfl ?_
    refine q_goto (tgt := 4) dX1_passOfProbes_180 (by decide) ?_
    exact ih _ (by omega) (c + 1) n1 k1 S3 G _ rfl (by omega) (show gr_v A p c 4 (gr_c A p c (S0, n0, 0, 0)) = _ by rw [hQ]; exact hv4) hnk1 H

set_option maxHeartbeats 4000000 in
set_option maxRecDepth 100000 in
theorem c_X1_passOfProbes {T : q_T} {G0 G : q_G} {sz s u D p n : Nat} {A : md_A} {S0 : Nat → Nat} (hz : Pz A p) (hsu : s + 11 ≤ u) (H : Gd T G0 s u D p A G S0 n) : q_C T mX1_passOfProbes 4 104 0 0 [.ref (s + 8), .ref u] G sz (fun v G' sz' => sz = sz' ∧ ∃ S1 n1 k e, gr_c A p (A 1 p * A 2 p) (S0, n, 0, 0) = (S1, n1, k, e) ∧ ((e = 0 ∧ v = some (.int (nI k)) ∧ n + k ≤ n1 ∧ Gd T G0 s u D p A G' S1 n1) ∨ (e = 1 ∧ v = some (.int (-3)) ∧ Gy T G0 s G' n1) ∨ (e = 2 ∧ v = some (.int (-2)) ∧ Gy T G0 s G' n1))) := by
  refine q_C.of (by decide) rfl (by simp [Value.category]) (Nat.le_of_ble_eq_true rfl) ?_
  refine q_iconst (v := nI 0) dX1_passOfProbes_0 (by decide) ?_
  refine s_istore_n dX1_passOfProbes_1 (by decide) rfl ?_
  refine q_iconst (v := nI 0) dX1_passOfProbes_2 (by decide) ?_
  refine s_istore_n dX1_passOfProbes_3 (by decide) rfl ?_
  exact l_pass_c hz hsu (fun n k S G h1 h2 h3 => ⟨rfl, S, n, k, 0, h1, Or.inl ⟨rfl, rfl, h2, h3⟩⟩) (fun n k S G h1 h2 => ⟨rfl, S, n, k, 1, h1, Or.inr (Or.inl ⟨rfl, rfl, h2⟩)⟩) (fun n k S G h1 h2 => ⟨rfl, S, n, k, 2, h1, Or.inr (Or.inr ⟨rfl, rfl, h2⟩)⟩) _ 0 n 0 S0 G _ rfl (Nat.zero_le _) rfl (Nat.le_refl _) H
