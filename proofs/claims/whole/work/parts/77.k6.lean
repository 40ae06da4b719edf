set_option maxHeartbeats 4000000 in
set_option maxRecDepth 100000 in
theorem l_addPlace {T : q_T} {G0 : q_G} {sz a fi sr le cr n S Q g j e k : Nat} {P : Nat → Nat} {E : q_E} (hk : k < 4) (hQ : Q ≤ 30) (hE : ∀ (P1 : Nat → Nat) (G : q_G), (∀ s, s < 16 → P1 s = (if s.testBit k = true then P s ||| 1 <<< Q else P s)) → (G a = some (q_ob 4 (li_ob a (fi) (sr) (le) (cr) (n) (S) (Q) (g) (j) (e))) ∧ G (a + 3) = some (q_ia T 16 (fun i => nI (P1 i))) ∧ ∀ b, b ≠ a + 3 → G b = G0 b) → E none G sz) : ∀ (mZ : Nat) (c : Nat) (P1 : Nat → Nat) (G : q_G), mZ = 16 - c → (c ≤ 16) → (∀ s, s < c → s < 16 → P1 s = (if s.testBit k = true then P s ||| 1 <<< Q else P s)) → (∀ s, c ≤ s → P1 s = P s) → (G a = some (q_ob 4 (li_ob a (fi) (sr) (le) (cr) (n) (S) (Q) (g) (j) (e))) ∧ G (a + 3) = some (q_ia T 16 (fun i => nI (P1 i))) ∧ ∀ b, b ≠ a + 3 → G b = G0 b) → q_R T mX3_addPlace 1 21 2 [some (.ref a), some (.int (nI k)), some (.int (nI c))] [] G sz 0 0 E := by
  intro mZ
  induction mZ using Nat.strongRecOn with | ind mZ ih => ?_
  intro c P1 G hm hc h3 h0 hw
  obtain ⟨hl, hp, hF⟩ := hw
  refine q_iload_n dX3_addPlace_2 rfl ?_
  refine q_bipush (v := nI 16) dX3_addPlace_3 (by decide) ?_
  refine n_icmp_ge (tgt := 37) dX3_addPlace_5 (by decide) (by omega) (by omega) (fun c5 => ?_) (fun c5 => ?_)
  · exact q_return dX3_addPlace_37 rfl (hE P1 G (fun s hs => h3 s (by omega) hs) ⟨hl, hp, hF⟩)
  · refine q_iload_n dX3_addPlace_8 rfl ?_
    refine q_iload_n dX3_addPlace_9 rfl ?_
    refine q_isN (As := [_, _]) dX3_addPlace_10 mn_X3_67 mt_X8_holds ms_X8_holds rfl (Nat.le_of_ble_eq_true rfl) (Nat.le_of_ble_eq_true rfl) (Nat.zero_le _) (Nat.zero_le _) (Nat.le_of_ble_eq_true rfl) (q_C.mono (c_X8_holds (by omega) hk) (fun v G1 sz1 hq => ?_))
    obtain ⟨⟨hq10, rfl⟩ | ⟨hq10, rfl⟩, rfl, rfl⟩ := hq
    · refine q_if_eq (tgt := 31) dX3_addPlace_13 (by decide) (fun h => absurd h (by decide)) (fun _ => ?_)
      refine q_aload_n dX3_addPlace_16 rfl rfl ?_
      refine q_get dX3_addPlace_17 fl_X3_31 hl rfl ?_
      refine q_iload_n dX3_addPlace_20 rfl ?_
      refine q_dup2 dX3_addPlace_21 rfl rfl ?_
      refine w_ld dX3_addPlace_22 hp rfl (by omega) (by omega) rfl ?_
      refine q_iconst (v := nI 1) dX3_addPlace_23 (by decide) ?_
      refine q_aload_n dX3_addPlace_24 rfl rfl ?_
      refine q_get dX3_addPlace_25 fl_X3_40 hl rfl ?_
      refine q_ishl dX3_addPlace_28 (n_shl (by omega) rfl) ?_
      refine q_ior dX3_addPlace_29 (n_or _ _) ?_
      refine w_st dX3_addPlace_30 hp rfl (by omega) (by omega) rfl (fun G hp hN => ?_)
      have hl := (hN _ (by omega)).trans hl
      have hF : ∀ b, b ≠ a + 3 → G b = G0 b := fun b hb => (hN b (by omega)).trans (hF b hb)
      refine s_iinc dX3_addPlace_31 rfl (s_inc1 _) (by decide) rfl ?_
      refine q_goto (tgt := 2) dX3_addPlace_34 (by decide) ?_
      exact ih _ (by omega) (c + 1) _ G rfl (by omega) (fun s h1 h2 => if h : s = c then (by rw [h, va_up_s, if_pos hq10, h0 c (by omega)]) else (by rw [va_up_n _ _ h]; exact h3 s (by omega) h2)) (fun s h1 => by rw [va_up_n _ _ (by omega)]; exact h0 s (by omega)) ⟨hl, hp, hF⟩
    · refine q_if_eq (tgt := 31) dX3_addPlace_13 (by decide) (fun _ => ?_) (fun h => absurd h (by decide))
      refine s_iinc dX3_addPlace_31 rfl (s_inc1 _) (by decide) rfl ?_
      refine q_goto (tgt := 2) dX3_addPlace_34 (by decide) ?_
      exact ih _ (by omega) (c + 1) P1 G rfl (by omega) (fun s h1 h2 => if h : s = c then (by rw [h, hq10, if_neg (by decide)]; exact h0 c (by omega)) else h3 s (by omega) h2) (fun s h1 => h0 s (by omega)) ⟨hl, hp, hF⟩

set_option maxHeartbeats 4000000 in
set_option maxRecDepth 100000 in
theorem c_X3_addPlace {T : q_T} {G0 : q_G} {sz a fi sr le cr n S Q g j e k : Nat} {P : Nat → Nat} (hl : G0 a = some (q_ob 4 (li_ob a (fi) (sr) (le) (cr) (n) (S) (Q) (g) (j) (e)))) (hp : G0 (a + 3) = some (q_ia T 16 (fun i => nI (P i)))) (hk : k < 4) (hQ : Q ≤ 30) : q_C T mX3_addPlace 1 21 0 0 [.ref a, .int (nI k)] G0 sz (fun v G' sz' => sz = sz' ∧ v = none ∧ ∃ P1 : Nat → Nat, (∀ s, s < 16 → P1 s = (if s.testBit k = true then P s ||| 1 <<< Q else P s)) ∧ G' (a + 3) = some (q_ia T 16 (fun i => nI (P1 i))) ∧ ∀ b, b ≠ a + 3 → G' b = G0 b) := by
  refine q_C.of (by decide) rfl (by simp [Value.category]) (Nat.le_of_ble_eq_true rfl) ?_
  refine q_iconst (v := nI 0) dX3_addPlace_0 (by decide) ?_
  refine s_istore_n dX3_addPlace_1 (by decide) rfl ?_
  exact l_addPlace hk hQ (fun P1 G h1 h2 => ⟨rfl, rfl, P1, h1, h2.2.1, h2.2.2⟩) _ 0 P _ rfl (Nat.zero_le _) (fun _ h => absurd h (Nat.not_lt_zero _)) (fun _ _ => rfl) ⟨hl, hp, fun _ _ => rfl⟩

set_option maxHeartbeats 4000000 in
set_option maxRecDepth 100000 in
theorem c_X3_addGap {T : q_T} {G0 : q_G} {sz a fi sr le cr n S Q g j e : Nat} {P : Nat → Nat} (hl : G0 a = some (q_ob 4 (li_ob a (fi) (sr) (le) (cr) (n) (S) (Q) (g) (j) (e)))) (hp : G0 (a + 3) = some (q_ia T 16 (fun i => nI (P i)))) (hQ : Q ≤ 30) : q_C T mX3_addGap 2 43 0 0 [.ref a] G0 sz (fun v G' sz' => sz = sz' ∧ v = none ∧ G' a = some (q_ob 4 (li_ob a (fi) (sr) (le) (cr) (n) (S) (Q) (g ||| 1 <<< Q) (j) (e))) ∧ (∃ P1 : Nat → Nat, (∀ s, s < 16 → P1 s = (if s.testBit 0 = true then P s ||| 1 <<< Q else P s)) ∧ G' (a + 3) = some (q_ia T 16 (fun i => nI (P1 i)))) ∧ ∀ b, b ≠ a ∧ b ≠ a + 3 → G' b = G0 b) := by
  refine q_C.of (by decide) rfl (by simp [Value.category]) (Nat.le_of_ble_eq_true rfl) ?_
  have hF : ∀ b, b ≠ a ∧ b ≠ a + 3 → G0 b = G0 b := fun _ _ => rfl
  refine q_aload_n dX3_addGap_0 rfl rfl ?_
  refine q_dup dX3_addGap_1 rfl ?_
  refine q_get dX3_addGap_2 fl_X3_43 hl rfl ?_
  refine q_iconst (v := nI 1) dX3_addGap_5 (by decide) ?_
  refine q_aload_n dX3_addGap_6 rfl rfl ?_
  refine q_get dX3_addGap_7 fl_X3_40 hl rfl ?_
  refine q_ishl dX3_addGap_10 (n_shl (by omega) rfl) ?_
  refine q_ior dX3_addGap_11 (n_or _ _) ?_
  refine w_put (fs2 := li_ob a (fi) (sr) (le) (cr) (n) (S) (Q) (g ||| 1 <<< Q) (j) (e)) dX3_addGap_12 fl_X3_43 fp_X3_43 hl (Nat.le_of_ble_eq_true rfl) rfl rfl rfl (fun G hl hN => ?_)
  have hp := (hN _ (by omega)).trans hp
  have hF : ∀ b, b ≠ a ∧ b ≠ a + 3 → G b = G0 b := fun b hb => (hN b (by omega)).trans (hF b hb)
  refine q_aload_n dX3_addGap_15 rfl rfl ?_
  refine q_iconst (v := nI 0) dX3_addGap_16 (by decide) ?_
  refine q_iv (As := [_]) dX3_addGap_17 ml_X3_55 mt_X3_addPlace mi_X3_addPlace se_X3_addPlace hl rfl rfl (Nat.le_of_ble_eq_true rfl) (Nat.le_of_ble_eq_true rfl) (Nat.zero_le _) (Nat.zero_le _) (Nat.le_of_ble_eq_true rfl) (q_C.mono (c_X3_addPlace hl hp (by omega) hQ) (fun v G sz1 hq => ?_))
  obtain ⟨rfl, rfl, P1, hP1, hp, hN⟩ := hq
  have hl := (hN _ (by omega)).trans hl
  have hF : ∀ b, b ≠ a ∧ b ≠ a + 3 → G b = G0 b := fun b hb => (hN b (by omega)).trans (hF b hb)
  exact q_return dX3_addGap_20 rfl ⟨rfl, rfl, hl, ⟨P1, hP1, hp⟩, hF⟩

theorem ap_bit {c l : Nat → Nat} {n k i s : Nat} {P1 P2 : Nat → Nat} (h : Bt (P1 s) (fun q => pl_of c l n s q || (decide (pl_p l n < q ∧ q ≤ pl_p l n + i) && s.testBit k))) (h2 : P2 s = (if s.testBit k = true then P1 s ||| 1 <<< (pl_p l n + i + 1) else P1 s)) : Bt (P2 s) (fun q => pl_of c l n s q || (decide (pl_p l n < q ∧ q ≤ pl_p l n + (i + 1)) && s.testBit k)) := by
  by_cases hb : s.testBit k = true
  · rw [if_pos hb] at h2
    rw [h2]
    refine (h.or (Bt.one _)).to (fun q => ?_)
    rw [hb, Bool.and_true, Bool.and_true, Bool.or_assoc]
    congr 1
    rw [Bool.eq_iff_iff]
    simp only [Bool.or_eq_true, decide_eq_true_eq]
    omega
  · rw [if_neg hb] at h2
    rw [Bool.not_eq_true] at hb
    rw [h2]
    refine h.to (fun q => ?_)
    rw [hb, Bool.and_false, Bool.and_false]
theorem ap_gap {c l : Nat → Nat} {n k m s : Nat} {P1 P2 : Nat → Nat} (h : Bt (P1 s) (fun q => pl_of c l n s q || (decide (pl_p l n < q ∧ q ≤ pl_p l n + m) && s.testBit k))) (h2 : P2 s = (if s.testBit 0 = true then P1 s ||| 1 <<< (pl_p l n + m + 1) else P1 s)) : Bt (P2 s) (fun q => (pl_of c l n s q || (decide (pl_p l n < q ∧ q ≤ pl_p l n + m) && s.testBit k)) || (decide (q = pl_p l n + m + 1) && s.testBit 0)) := by
  by_cases hb : s.testBit 0 = true
  · rw [if_pos hb] at h2
    rw [h2]
    refine (h.or (Bt.one _)).to (fun q => ?_)
    rw [hb, Bool.and_true]
  · rw [if_neg hb] at h2
    rw [Bool.not_eq_true] at hb
    rw [h2]
    refine h.to (fun q => ?_)
    rw [hb, Bool.and_false, Bool.or_false]

set_option maxHeartbeats 4000000 in
set_option maxRecDepth 100000 in
theorem l_append {T : q_T} {G0 : q_G} {sz a fi sr le cr n S g j e k m : Nat} {c l C Ln : Nat → Nat} {E : q_E} {x3 : Option Value} {x4 : Int32} (hk : k < 4) (hm : pl_p l n + m ≤ 30) (hx : ∀ (P1 : Nat → Nat) (G : q_G), (∀ s, s < 16 → Bt (P1 s) (fun q => pl_of c l n s q || (decide (pl_p l n < q ∧ q ≤ pl_p l n + m) && s.testBit k))) → (G a = some (q_ob 4 (li_ob a (fi) (sr) (le) (cr) (n) (S) (pl_p l n + m) (g) (j) (e))) ∧ G (a + 1) = some (q_ia T le (fun i => nI (C i))) ∧ G (a + 2) = some (q_ia T le (fun i => nI (Ln i))) ∧ G (a + 3) = some (q_ia T 16 (fun i => nI (P1 i))) ∧ ∀ b, b < a ∨ a + 4 ≤ b → G b = G0 b) → q_R T mX3_append 3 63 120 [some (.ref a), some (.int (nI k)), some (.int (nI m)), x3, some (.int x4), some (.int (nI m))] [] G sz 0 0 E) : ∀ (mZ : Nat) (i : Nat) (P1 : Nat → Nat) (G : q_G), mZ = m - i → (i ≤ m) → (∀ s, s < 16 → Bt (P1 s) (fun q => pl_of c l n s q || (decide (pl_p l n < q ∧ q ≤ pl_p l n + i) && s.testBit k))) → (G a = some (q_ob 4 (li_ob a (fi) (sr) (le) (cr) (n) (S) (pl_p l n + i) (g) (j) (e))) ∧ G (a + 1) = some (q_ia T le (fun i => nI (C i))) ∧ G (a + 2) = some (q_ia T le (fun i => nI (Ln i))) ∧ G (a + 3) = some (q_ia T 16 (fun i => nI (P1 i))) ∧ ∀ b, b < a ∨ a + 4 ≤ b → G b = G0 b) → q_R T mX3_append 3 63 93 [some (.ref a), some (.int (nI k)), some (.int (nI m)), x3, some (.int x4), some (.int (nI i))] [] G sz 0 0 E := by
  intro mZ
  induction mZ using Nat.strongRecOn with | ind mZ ih => ?_
  intro i P1 G hm hi hPb hw
  obtain ⟨hl, hC, hLn, hp, hF⟩ := hw
  refine q_iload dX3_append_93 rfl ?_
  refine q_iload_n dX3_append_95 rfl ?_
  refine n_icmp_ge (tgt := 120) dX3_append_96 (by decide) (by omega) (by omega) (fun c96 => ?_) (fun c96 => ?_)
  · obtain rfl : i = m := by omega
    exact hx P1 G hPb ⟨hl, hC, hLn, hp, hF⟩
  · refine q_aload_n dX3_append_99 rfl rfl ?_
    refine q_dup dX3_append_100 rfl ?_
    refine q_get dX3_append_101 fl_X3_40 hl rfl ?_
    refine q_iconst (v := nI 1) dX3_append_104 (by decide) ?_
    refine q_iadd dX3_append_105 (nI_add _ _) ?_
    refine w_put (fs2 := li_ob a (fi) (sr) (le) (cr) (n) (S) (pl_p l n + i + 1) (g) (j) (e)) dX3_append_106 fl_X3_40 fp_X3_40 hl (Nat.le_of_ble_eq_true rfl) rfl rfl rfl (fun G hl hN => ?_)
    have hC := (hN _ (by omega)).trans hC
    have hLn := (hN _ (by omega)).trans hLn
    have hp := (hN _ (by omega)).trans hp
    have hF : ∀ b, b < a ∨ a + 4 ≤ b → G b = G0 b := fun b hb => (hN b (by omega)).trans (hF b hb)
    refine q_aload_n dX3_append_109 rfl rfl ?_
    refine q_iload_n dX3_append_110 rfl ?_
    refine q_iv (As := [_]) dX3_append_111 ml_X3_55 mt_X3_addPlace mi_X3_addPlace se_X3_addPlace hl rfl rfl (Nat.le_of_ble_eq_true rfl) (Nat.le_of_ble_eq_true rfl) (Nat.zero_le _) (Nat.zero_le _) (Nat.le_of_ble_eq_true rfl) (q_C.mono (c_X3_addPlace hl hp (by omega) (by omega)) (fun v G sz1 hq => ?_))
    obtain ⟨rfl, rfl, P1, hP1, hp, hN⟩ := hq
    have hl := (hN _ (by omega)).trans hl
    have hC := (hN _ (by omega)).trans hC
    have hLn := (hN _ (by omega)).trans hLn
    have hF : ∀ b, b < a ∨ a + 4 ≤ b → G b = G0 b := fun b hb => (hN b (by omega)).trans (hF b hb)
    refine s_iinc dX3_append_114 rfl (s_inc1 _) (by decide) rfl ?_
    refine q_goto (tgt := 93) dX3_append_117 (by decide) ?_
    exact ih _ (by omega) (i + 1) P1 G rfl (by omega) (fun s hs => ap_bit (hPb s hs) (hP1 s hs)) ⟨hl, hC, hLn, hp, hF⟩

set_option maxHeartbeats 4000000 in
set_option maxRecDepth 100000 in
theorem l_append2 {T : q_T} {G G0 : q_G} {sz a fi sr le cr n g j j1 e k m ap : Nat} {c l C Ln P : Nat → Nat} {E : q_E} {x3 x5 : Option Value} (hk1 : 1 ≤ k) (hk3 : k < 4) (hm1 : 1 ≤ m) (hap : (if n = 0 then 0 else if k = c (n - 1) then 1 else 0) = ap) (hfit : ln_S c l n 0 + ap + m ≤ le) (hB0 : Lb c l n g j e P) (hr0 : Lr c l n le) (hcl0 : ∀ i, i < n → C i = c i ∧ Ln i = l i) (hj1 : (0 < n ∧ c (n - 1) ≠ k ∧ j1 = j ||| 1 <<< (pl_p l n - 1)) ∨ (¬ (0 < n ∧ c (n - 1) ≠ k) ∧ j1 = j)) (hl : G a = some (q_ob 4 (li_ob a (fi) (sr) (le) (cr) (n) (ln_S c l n 0) (pl_p l n) (g) (j1) (e)))) (hC : G (a + 1) = some (q_ia T le (fun i => nI (C i)))) (hLn : G (a + 2) = some (q_ia T le (fun i => nI (Ln i)))) (hp : G (a + 3) = some (q_ia T 16 (fun i => nI (P i)))) (hF : ∀ b, b < a ∨ a + 4 ≤ b → G b = G0 b) (hE : ∀ G, Lin T G a fi sr le cr (va_up c n k) (va_up l n m) (n + 1) → (∀ b, b < a ∨ a + 4 ≤ b → G b = G0 b) → E (some (.int (nI 1))) G sz) : q_R T mX3_append 3 63 90 [some (.ref a), some (.int (nI k)), some (.int (nI m)), x3, some (.int (nI ap)), x5] [] G sz 0 0 E := by
  obtain ⟨n10, p20, l1, c3⟩ := hr0.bd
  have le10 := hr0.2.2
  have hP := hB0.2.2.2
  have nS := pl_p_S (c := c) (l := l) (n := n) l1
  have hpm : pl_p l n + m ≤ 30 := by omega
  refine q_iconst (v := nI 0) dX3_append_90 (by decide) ?_
  refine s_istore dX3_append_91 (by decide) rfl ?_
  refine l_append (S := ln_S c l n 0) (j := j1) (e := e) (g := g) (C := C) (Ln := Ln) (c := c) (l := l) hk3 (by omega) (fun P1 G hPb hw => ?_) _ 0 P _ rfl (Nat.zero_le _) (fun s hs => (hP s hs).to (fun q => by rw [decide_eq_false (by omega)]; simp)) ⟨hl, hC, hLn, hp, hF⟩
  obtain ⟨hl, hC, hLn, hp, hF⟩ := hw
  refine q_aload_n dX3_append_120 rfl rfl ?_
  refine q_iconst (v := nI 3) dX3_append_121 (by decide) ?_
  refine q_aload_n dX3_append_122 rfl rfl ?_
  refine q_get dX3_append_123 fl_X3_40 hl rfl ?_
  refine q_ishl dX3_append_126 (n_shl (by omega) rfl) ?_
  refine w_put (fs2 := li_ob a (fi) (sr) (le) (cr) (n) (ln_S c l n 0) (pl_p l n + m) (g) (j1) (3 <<< (pl_p l n + m))) dX3_append_127 fl_X3_49 fp_X3_49 hl (Nat.le_of_ble_eq_true rfl) rfl rfl rfl (fun G hl hN => ?_)
  have hC := (hN _ (by omega)).trans hC
  have hLn := (hN _ (by omega)).trans hLn
  have hp := (hN _ (by omega)).trans hp
  have hF : ∀ b, b < a ∨ a + 4 ≤ b → G b = G0 b := fun b hb => (hN b (by omega)).trans (hF b hb)
  refine q_aload_n dX3_append_130 rfl rfl ?_
  refine q_dup dX3_append_131 rfl ?_
  refine q_get dX3_append_132 fl_X3_40 hl rfl ?_
  refine q_iconst (v := nI 1) dX3_append_135 (by decide) ?_
  refine q_iadd dX3_append_136 (nI_add _ _) ?_
  refine w_put (fs2 := li_ob a (fi) (sr) (le) (cr) (n) (ln_S c l n 0) (pl_p l n + m + 1) (g) (j1) (3 <<< (pl_p l n + m))) dX3_append_137 fl_X3_40 fp_X3_40 hl (Nat.le_of_ble_eq_true rfl) rfl rfl rfl (fun G hl hN => ?_)
  have hC := (hN _ (by omega)).trans hC
  have hLn := (hN _ (by omega)).trans hLn
  have hp := (hN _ (by omega)).trans hp
  have hF : ∀ b, b < a ∨ a + 4 ≤ b → G b = G0 b := fun b hb => (hN b (by omega)).trans (hF b hb)
  refine q_aload_n dX3_append_140 rfl rfl ?_
  refine q_iv (As := []) dX3_append_141 ml_X3_52 mt_X3_addGap mi_X3_addGap se_X3_addGap hl rfl rfl (Nat.le_of_ble_eq_true rfl) (Nat.le_of_ble_eq_true rfl) (Nat.zero_le _) (Nat.zero_le _) (Nat.le_of_ble_eq_true rfl) (q_C.mono (c_X3_addGap hl hp (by omega)) (fun v G sz1 hq => ?_))
  obtain ⟨rfl, rfl, hl, ⟨P2, hP2, hp⟩, hN⟩ := hq
  have hC := (hN _ (by omega)).trans hC
  have hLn := (hN _ (by omega)).trans hLn
  have hF : ∀ b, b < a ∨ a + 4 ≤ b → G b = G0 b := fun b hb => (hN b (by omega)).trans (hF b hb)
  refine q_aload_n dX3_append_144 rfl rfl ?_
  refine q_dup dX3_append_145 rfl ?_
  refine q_get dX3_append_146 fl_X3_37 hl rfl ?_
  refine q_iload dX3_append_149 rfl ?_
  refine q_iload_n dX3_append_151 rfl ?_
  refine q_iadd dX3_append_152 (nI_add _ _) ?_
  refine q_iadd dX3_append_153 (nI_add _ _) ?_
  refine w_put (fs2 := li_ob a (fi) (sr) (le) (cr) (n) (ln_S c l n 0 + (ap + m)) (pl_p l n + m + 1) (g ||| 1 <<< (pl_p l n + m + 1)) (j1) (3 <<< (pl_p l n + m))) dX3_append_154 fl_X3_37 fp_X3_37 hl (Nat.le_of_ble_eq_true rfl) rfl rfl rfl (fun G hl hN => ?_)
  have hC := (hN _ (by omega)).trans hC
  have hLn := (hN _ (by omega)).trans hLn
  have hp := (hN _ (by omega)).trans hp
  have hF : ∀ b, b < a ∨ a + 4 ≤ b → G b = G0 b := fun b hb => (hN b (by omega)).trans (hF b hb)
  refine q_aload_n dX3_append_157 rfl rfl ?_
  refine q_get dX3_append_158 fl_X3_24 hl rfl ?_
  refine q_aload_n dX3_append_161 rfl rfl ?_
  refine q_get dX3_append_162 fl_X3_34 hl rfl ?_
  refine q_iload_n dX3_append_165 rfl ?_
  refine w_st dX3_append_166 hC rfl (by omega) (by omega) rfl (fun G hC hN => ?_)
  have hl := (hN _ (by omega)).trans hl
  have hLn := (hN _ (by omega)).trans hLn
  have hp := (hN _ (by omega)).trans hp
  have hF : ∀ b, b < a ∨ a + 4 ≤ b → G b = G0 b := fun b hb => (hN b (by omega)).trans (hF b hb)
  refine q_aload_n dX3_append_167 rfl rfl ?_
  refine q_get dX3_append_168 fl_X3_28 hl rfl ?_
  refine q_aload_n dX3_append_171 rfl rfl ?_
  refine q_get dX3_append_172 fl_X3_34 hl rfl ?_
  refine q_iload_n dX3_append_175 rfl ?_
  refine w_st dX3_append_176 hLn rfl (by omega) (by omega) rfl (fun G hLn hN => ?_)
  have hl := (hN _ (by omega)).trans hl
  have hC := (hN _ (by omega)).trans hC
  have hp := (hN _ (by omega)).trans hp
  have hF : ∀ b, b < a ∨ a + 4 ≤ b → G b = G0 b := fun b hb => (hN b (by omega)).trans (hF b hb)
  refine q_aload_n dX3_append_177 rfl rfl ?_
  refine q_dup dX3_append_178 rfl ?_
  refine q_get dX3_append_179 fl_X3_34 hl rfl ?_
  refine q_iconst (v := nI 1) dX3_append_182 (by decide) ?_
  refine q_iadd dX3_append_183 (nI_add _ _) ?_
  refine w_put (fs2 := li_ob a (fi) (sr) (le) (cr) (n + 1) (ln_S c l n 0 + (ap + m)) (pl_p l n + m + 1) (g ||| 1 <<< (pl_p l n + m + 1)) (j1) (3 <<< (pl_p l n + m))) dX3_append_184 fl_X3_34 fp_X3_34 hl (Nat.le_of_ble_eq_true rfl) rfl rfl rfl (fun G hl hN => ?_)
  have hC := (hN _ (by omega)).trans hC
  have hLn := (hN _ (by omega)).trans hLn
  have hp := (hN _ (by omega)).trans hp
  have hF : ∀ b, b < a ∨ a + 4 ≤ b → G b = G0 b := fun b hb => (hN b (by omega)).trans (hF b hb)
  have hB : Lb (va_up c n k) (va_up l n m) (n + 1) (g ||| 1 <<< (pl_p l n + m + 1)) j1 (3 <<< (pl_p l n + m)) P2 := Lb.app hB0 hj1 (fun s hs => ap_gap (hPb s hs) (hP2 s hs))
  have hR : Lr (va_up c n k) (va_up l n m) (n + 1) le := hr0.app ⟨hk1, by omega⟩ hm1 (by rw [ln_S_app]; omega)
  have hcl : ∀ i, i < n + 1 → va_up C n k i = va_up c n k i ∧ va_up Ln n m i = va_up l n m i := fun i hi => if h : i = n then (by rw [h, va_up_s, va_up_s, va_up_s, va_up_s]; exact ⟨rfl, rfl⟩) else (by rw [va_up_n _ _ h, va_up_n _ _ h, va_up_n _ _ h, va_up_n _ _ h]; exact hcl0 i (by omega))
  have hl2 : G a = some (q_ob 4 (li_ob a fi sr le cr (n + 1) (ln_S (va_up c n k) (va_up l n m) (n + 1) 0) (pl_p (va_up l n m) (n + 1)) (g ||| 1 <<< (pl_p l n + m + 1)) j1 (3 <<< (pl_p l n + m)))) := by rw [hl, ln_S_app, pl_p_app, hap, Nat.add_assoc (ln_S c l n 0)]
  refine q_iconst (v := nI 1) dX3_append_187 (by decide) ?_
  exact q_ireturn dX3_append_188 rfl (by decide +kernel) (hE G ⟨_, _, _, _, _, _, hl2, hC, hLn, hp, hcl, hB, hR⟩ hF)

set_option maxHeartbeats 4000000 in
set_option maxRecDepth 100000 in
theorem c_X3_append {T : q_T} {G0 : q_G} {sz a fi sr le cr n k : Nat} {c l : Nat → Nat} {x : Int32} (hL : Lin T G0 a fi sr le cr c l n) (hk1 : 1 ≤ k) (hk3 : k < 4) : q_C T mX3_append 3 63 0 0 [.ref a, .int (nI k), .int x] G0 sz (fun v G' sz' => sz = sz' ∧ (∀ b, b < a ∨ a + 4 ≤ b → G' b = G0 b) ∧ ((∃ m, x = nI m ∧ 1 ≤ m ∧ ln_S (va_up c n k) (va_up l n m) (n + 1) 0 ≤ le ∧ v = some (.int (nI 1)) ∧ Lin T G' a fi sr le cr (va_up c n k) (va_up l n m) (n + 1)) ∨ ((¬ ∃ m, x = nI m ∧ 1 ≤ m ∧ ln_S (va_up c n k) (va_up l n m) (n + 1) 0 ≤ le) ∧ v = some (.int (nI 0)) ∧ Lin T G' a fi sr le cr c l n))) := by
  refine q_C.of (by decide) rfl (by simp [Value.category]) (Nat.le_of_ble_eq_true rfl) ?_
  obtain ⟨g, j, e, C, Ln, P, hl, hC, hLn, hp, hcl0, ⟨hg, hj, he, hP⟩, hr0⟩ := hL
  obtain ⟨n10, p20, l1, c3⟩ := hr0.bd
  have le10 := hr0.2.2
  have Sle := hr0.2.1
  have nS := pl_p_S (c := c) (l := l) (n := n) l1
  have hp1 : 0 < n → 1 ≤ pl_p l n := fun h => by have := pl_p_lt (l := l) h; omega
  have hF : ∀ b, b < a ∨ a + 4 ≤ b → G0 b = G0 b := fun _ _ => rfl
  refine q_aload_n dX3_append_0 rfl rfl ?_
  refine q_get dX3_append_1 fl_X3_34 hl rfl ?_
  refine n_if_le (tgt := 26) dX3_append_4 (by decide) (by omega) (fun c4 => ?_) (fun c4 => ?_)
  · refine q_iconst (v := nI 0) dX3_append_26 (by decide) ?_
    refine s_istore_n dX3_append_27 (by decide) rfl ?_
    refine q_aload_n dX3_append_28 rfl rfl ?_
    refine q_get dX3_append_29 fl_X3_34 hl rfl ?_
    refine n_if_eq (tgt := 39) dX3_append_32 (by decide) (by omega) (fun c32 => ?_) (fun c32 => ?_)
    · refine q_iconst (v := nI 0) dX3_append_39 (by decide) ?_
      refine q_goto (tgt := 44) dX3_append_40 (by decide) ?_
      refine s_istore dX3_append_44 (by decide) rfl ?_
      have hap : (if n = 0 then 0 else if k = c (n - 1) then 1 else 0) = 0 := by rw [if_pos (by omega)]
      refine q_iload_n dX3_append_46 rfl ?_
      refine q_iconst (v := nI 1) dX3_append_47 (by decide) ?_
      refine q_icmp_lt (tgt := 67) dX3_append_48 (by decide) (fun c48 => ?_) (fun c48 => ?_)
      · have hno : ¬ ∃ m, x = nI m ∧ 1 ≤ m ∧ ln_S (va_up c n k) (va_up l n m) (n + 1) 0 ≤ le := by
          rintro ⟨m, h1, h2, h3⟩
          rw [ln_S_app, hap] at h3
          exact absurd c48 (by rw [h1]; exact nI_nlt h2 (by omega))
        refine q_iconst (v := nI 0) dX3_append_67 (by decide) ?_
        exact q_ireturn dX3_append_68 rfl (by decide +kernel) ⟨rfl, hF, Or.inr ⟨hno, rfl, ⟨_, _, _, _, _, _, hl, hC, hLn, hp, hcl0, ⟨hg, hj, he, hP⟩, hr0⟩⟩⟩
      · refine q_iload_n dX3_append_51 rfl ?_
        refine q_aload_n dX3_append_52 rfl rfl ?_
        refine q_get dX3_append_53 fl_X3_18 hl rfl ?_
        refine q_aload_n dX3_append_56 rfl rfl ?_
        refine q_get dX3_append_57 fl_X3_37 hl rfl ?_
        refine q_isub dX3_append_60 (pk_sub (by omega)) ?_
        refine q_iload dX3_append_61 rfl ?_
        refine q_isub dX3_append_63 (pk_sub (by omega)) ?_
        refine q_icmp_le (tgt := 69) dX3_append_64 (by decide) (fun c64 => ?_) (fun c64 => ?_)
        · obtain ⟨m, hm, rfl⟩ := nI_of2 (nI_toInt (by omega)) (fun h => c48 (Int32.lt_trans h (by decide))) c64
          have hm1 : 1 ≤ m := by rcases Nat.eq_zero_or_pos m with h | h; exact absurd (by rw [h]; decide) c48; exact h
          refine q_iload_n dX3_append_69 rfl ?_
          refine q_if_eq (tgt := 90) dX3_append_70 (by decide) (fun _ => ?_) (fun h => absurd h (by decide))
          exact l_append2 (j := j) (ap := 0) hk1 hk3 hm1 hap (by omega) ⟨hg, hj, he, hP⟩ hr0 hcl0 (Or.inr ⟨by omega, rfl⟩) hl hC hLn hp hF (fun G h1 h2 => ⟨rfl, h2, Or.inl ⟨m, rfl, hm1, by rw [ln_S_app, hap]; omega, rfl, h1⟩⟩)
        · have hno : ¬ ∃ m, x = nI m ∧ 1 ≤ m ∧ ln_S (va_up c n k) (va_up l n m) (n + 1) 0 ≤ le := by
            rintro ⟨m, h1, h2, h3⟩
            rw [ln_S_app, hap] at h3
            exact c64 (by rw [h1]; exact nI_le (by omega) (by omega))
          refine q_iconst (v := nI 0) dX3_append_67 (by decide) ?_
          exact q_ireturn dX3_append_68 rfl (by decide +kernel) ⟨rfl, hF, Or.inr ⟨hno, rfl, ⟨_, _, _, _, _, _, hl, hC, hLn, hp, hcl0, ⟨hg, hj, he, hP⟩, hr0⟩⟩⟩
    · refine q_iload_n dX3_append_35 rfl ?_
      refine q_if_eq (tgt := 43) dX3_append_36 (by decide) (fun _ => ?_) (fun h => absurd h (by decide))
      refine q_iconst (v := nI 1) dX3_append_43 (by decide) ?_
      refine s_istore dX3_append_44 (by decide) rfl ?_
      have hap : (if n = 0 then 0 else if k = c (n - 1) then 1 else 0) = 1 := by rw [if_neg (by omega), if_pos (by omega)]
      by_cases hle : ln_S c l n 0 + 1 ≤ le
      · refine q_iload_n dX3_append_46 rfl ?_
        refine q_iconst (v := nI 1) dX3_append_47 (by decide) ?_
        refine q_icmp_lt (tgt := 67) dX3_append_48 (by decide) (fun c48 => ?_) (fun c48 => ?_)
        · have hno : ¬ ∃ m, x = nI m ∧ 1 ≤ m ∧ ln_S (va_up c n k) (va_up l n m) (n + 1) 0 ≤ le := by
            rintro ⟨m, h1, h2, h3⟩
            rw [ln_S_app, hap] at h3
            exact absurd c48 (by rw [h1]; exact nI_nlt h2 (by omega))
          refine q_iconst (v := nI 0) dX3_append_67 (by decide) ?_
          exact q_ireturn dX3_append_68 rfl (by decide +kernel) ⟨rfl, hF, Or.inr ⟨hno, rfl, ⟨_, _, _, _, _, _, hl, hC, hLn, hp, hcl0, ⟨hg, hj, he, hP⟩, hr0⟩⟩⟩
        · refine q_iload_n dX3_append_51 rfl ?_
          refine q_aload_n dX3_append_52 rfl rfl ?_
          refine q_get dX3_append_53 fl_X3_18 hl rfl ?_
          refine q_aload_n dX3_append_56 rfl rfl ?_
          refine q_get dX3_append_57 fl_X3_37 hl rfl ?_
          refine q_isub dX3_append_60 (pk_sub (by omega)) ?_
          refine q_iload dX3_append_61 rfl ?_
          refine q_isub dX3_append_63 (pk_sub (by omega)) ?_
          refine q_icmp_le (tgt := 69) dX3_append_64 (by decide) (fun c64 => ?_) (fun c64 => ?_)
          · obtain ⟨m, hm, rfl⟩ := nI_of2 (nI_toInt (by omega)) (fun h => c48 (Int32.lt_trans h (by decide))) c64
            have hm1 : 1 ≤ m := by rcases Nat.eq_zero_or_pos m with h | h; exact absurd (by rw [h]; decide) c48; exact h
            refine q_iload_n dX3_append_69 rfl ?_
            refine q_if_eq (tgt := 90) dX3_append_70 (by decide) (fun _ => ?_) (fun h => absurd h (by decide))
            exact l_append2 (j := j) (ap := 1) hk1 hk3 hm1 hap (by omega) ⟨hg, hj, he, hP⟩ hr0 hcl0 (Or.inr ⟨by omega, rfl⟩) hl hC hLn hp hF (fun G h1 h2 => ⟨rfl, h2, Or.inl ⟨m, rfl, hm1, by rw [ln_S_app, hap]; omega, rfl, h1⟩⟩)
          · have hno : ¬ ∃ m, x = nI m ∧ 1 ≤ m ∧ ln_S (va_up c n k) (va_up l n m) (n + 1) 0 ≤ le := by
              rintro ⟨m, h1, h2, h3⟩
              rw [ln_S_app, hap] at h3
              exact c64 (by rw [h1]; exact nI_le (by omega) (by omega))
            refine q_iconst (v := nI 0) dX3_append_67 (by decide) ?_
            exact q_ireturn dX3_append_68 rfl (by decide +kernel) ⟨rfl, hF, Or.inr ⟨hno, rfl, ⟨_, _, _, _, _, _, hl, hC, hLn, hp, hcl0, ⟨hg, hj, he, hP⟩, hr0⟩⟩⟩
      · refine q_iload_n dX3_append_46 rfl ?_
        refine q_iconst (v := nI 1) dX3_append_47 (by decide) ?_
        refine q_icmp_lt (tgt := 67) dX3_append_48 (by decide) (fun c48 => ?_) (fun c48 => ?_)
        · have hno : ¬ ∃ m, x = nI m ∧ 1 ≤ m ∧ ln_S (va_up c n k) (va_up l n m) (n + 1) 0 ≤ le := by
            rintro ⟨m, h1, h2, h3⟩
            rw [ln_S_app, hap] at h3
            exact absurd c48 (by rw [h1]; exact nI_nlt h2 (by omega))
          refine q_iconst (v := nI 0) dX3_append_67 (by decide) ?_
          exact q_ireturn dX3_append_68 rfl (by decide +kernel) ⟨rfl, hF, Or.inr ⟨hno, rfl, ⟨_, _, _, _, _, _, hl, hC, hLn, hp, hcl0, ⟨hg, hj, he, hP⟩, hr0⟩⟩⟩
        · refine q_iload_n dX3_append_51 rfl ?_
          refine q_aload_n dX3_append_52 rfl rfl ?_
          refine q_get dX3_append_53 fl_X3_18 hl rfl ?_
          refine q_aload_n dX3_append_56 rfl rfl ?_
          refine q_get dX3_append_57 fl_X3_37 hl rfl ?_
          refine q_isub dX3_append_60 (pk_sub (by omega)) ?_
          refine q_iload dX3_append_61 rfl ?_
          refine q_isub dX3_append_63 (show nI (le - ln_S c l n 0) - nI 1 = -1 by rw [show le - ln_S c l n 0 = 0 by omega]; decide) ?_
          refine q_icmp_le (tgt := 69) dX3_append_64 (by decide) (fun c64 => ?_) (fun c64 => ?_)
          · exact absurd (Int32.le_trans (Int32.not_lt.mp c48) c64) (by decide)
          · have hno : ¬ ∃ m, x = nI m ∧ 1 ≤ m ∧ ln_S (va_up c n k) (va_up l n m) (n + 1) 0 ≤ le := by
              rintro ⟨m, h1, h2, h3⟩
              rw [ln_S_app, hap] at h3
              omega
            refine q_iconst (v := nI 0) dX3_append_67 (by decide) ?_
            exact q_ireturn dX3_append_68 rfl (by decide +kernel) ⟨rfl, hF, Or.inr ⟨hno, rfl, ⟨_, _, _, _, _, _, hl, hC, hLn, hp, hcl0, ⟨hg, hj, he, hP⟩, hr0⟩⟩⟩
  · refine q_aload_n dX3_append_7 rfl rfl ?_
    refine q_get dX3_append_8 fl_X3_24 hl rfl ?_
    refine q_aload_n dX3_append_11 rfl rfl ?_
    refine q_get dX3_append_12 fl_X3_34 hl rfl ?_
    refine q_iconst (v := nI 1) dX3_append_15 (by decide) ?_
    refine q_isub dX3_append_16 (pk_sub (by omega)) ?_
    refine w_ld (k := n - 1) (v := c (n - 1)) dX3_append_17 hC rfl (by omega) (by omega) ((hcl0 (n - 1) (by omega)).1) ?_
    refine q_iload_n dX3_append_18 rfl ?_
    refine n_icmp_eq (tgt := 26) dX3_append_19 (by decide) (by have := hr0.1 (n - 1) (by omega); omega) (by omega) (fun c19 => ?_) (fun c19 => ?_)
    · refine q_iconst (v := nI 0) dX3_append_26 (by decide) ?_
      refine s_istore_n dX3_append_27 (by decide) rfl ?_
      refine q_aload_n dX3_append_28 rfl rfl ?_
      refine q_get dX3_append_29 fl_X3_34 hl rfl ?_
      refine n_if_eq (tgt := 39) dX3_append_32 (by decide) (by omega) (fun c32 => ?_) (fun c32 => ?_)
      · refine q_iconst (v := nI 0) dX3_append_39 (by decide) ?_
        refine q_goto (tgt := 44) dX3_append_40 (by decide) ?_
        refine s_istore dX3_append_44 (by decide) rfl ?_
        have hap : (if n = 0 then 0 else if k = c (n - 1) then 1 else 0) = 0 := by rw [if_pos (by omega)]
        refine q_iload_n dX3_append_46 rfl ?_
        refine q_iconst (v := nI 1) dX3_append_47 (by decide) ?_
        refine q_icmp_lt (tgt := 67) dX3_append_48 (by decide) (fun c48 => ?_) (fun c48 => ?_)
        · have hno : ¬ ∃ m, x = nI m ∧ 1 ≤ m ∧ ln_S (va_up c n k) (va_up l n m) (n + 1) 0 ≤ le := by
            rintro ⟨m, h1, h2, h3⟩
            rw [ln_S_app, hap] at h3
            exact absurd c48 (by rw [h1]; exact nI_nlt h2 (by omega))
          refine q_iconst (v := nI 0) dX3_append_67 (by decide) ?_
          exact q_ireturn dX3_append_68 rfl (by decide +kernel) ⟨rfl, hF, Or.inr ⟨hno, rfl, ⟨_, _, _, _, _, _, hl, hC, hLn, hp, hcl0, ⟨hg, hj, he, hP⟩, hr0⟩⟩⟩
        · refine q_iload_n dX3_append_51 rfl ?_
          refine q_aload_n dX3_append_52 rfl rfl ?_
          refine q_get dX3_append_53 fl_X3_18 hl rfl ?_
          refine q_aload_n dX3_append_56 rfl rfl ?_
          refine q_get dX3_append_57 fl_X3_37 hl rfl ?_
          refine q_isub dX3_append_60 (pk_sub (by omega)) ?_
          refine q_iload dX3_append_61 rfl ?_
          refine q_isub dX3_append_63 (pk_sub (by omega)) ?_
          refine q_icmp_le (tgt := 69) dX3_append_64 (by decide) (fun c64 => ?_) (fun c64 => ?_)
          · obtain ⟨m, hm, rfl⟩ := nI_of2 (nI_toInt (by omega)) (fun h => c48 (Int32.lt_trans h (by decide))) c64
            have hm1 : 1 ≤ m := by rcases Nat.eq_zero_or_pos m with h | h; exact absurd (by rw [h]; decide) c48; exact h
            refine q_iload_n dX3_append_69 rfl ?_
            refine q_if_eq (tgt := 90) dX3_append_70 (by decide) (fun _ => ?_) (fun h => absurd h (by decide))
            exact l_append2 (j := j) (ap := 0) hk1 hk3 hm1 hap (by omega) ⟨hg, hj, he, hP⟩ hr0 hcl0 (Or.inr ⟨by omega, rfl⟩) hl hC hLn hp hF (fun G h1 h2 => ⟨rfl, h2, Or.inl ⟨m, rfl, hm1, by rw [ln_S_app, hap]; omega, rfl, h1⟩⟩)
          · have hno : ¬ ∃ m, x = nI m ∧ 1 ≤ m ∧ ln_S (va_up c n k) (va_up l n m) (n + 1) 0 ≤ le := by
              rintro ⟨m, h1, h2, h3⟩
              rw [ln_S_app, hap] at h3
              exact c64 (by rw [h1]; exact nI_le (by omega) (by omega))
            refine q_iconst (v := nI 0) dX3_append_67 (by decide) ?_
            exact q_ireturn dX3_append_68 rfl (by decide +kernel) ⟨rfl, hF, Or.inr ⟨hno, rfl, ⟨_, _, _, _, _, _, hl, hC, hLn, hp, hcl0, ⟨hg, hj, he, hP⟩, hr0⟩⟩⟩
      · refine q_iload_n dX3_append_35 rfl ?_
        refine q_if_eq (tgt := 43) dX3_append_36 (by decide) (fun _ => ?_) (fun h => absurd h (by decide))
        refine q_iconst (v := nI 1) dX3_append_43 (by decide) ?_
        refine s_istore dX3_append_44 (by decide) rfl ?_
        have hap : (if n = 0 then 0 else if k = c (n - 1) then 1 else 0) = 1 := by rw [if_neg (by omega), if_pos (by omega)]
        by_cases hle : ln_S c l n 0 + 1 ≤ le
        · refine q_iload_n dX3_append_46 rfl ?_
          refine q_iconst (v := nI 1) dX3_append_47 (by decide) ?_
          refine q_icmp_lt (tgt := 67) dX3_append_48 (by decide) (fun c48 => ?_) (fun c48 => ?_)
          · have hno : ¬ ∃ m, x = nI m ∧ 1 ≤ m ∧ ln_S (va_up c n k) (va_up l n m) (n + 1) 0 ≤ le := by
              rintro ⟨m, h1, h2, h3⟩
              rw [ln_S_app, hap] at h3
              exact absurd c48 (by rw [h1]; exact nI_nlt h2 (by omega))
            refine q_iconst (v := nI 0) dX3_append_67 (by decide) ?_
            exact q_ireturn dX3_append_68 rfl (by decide +kernel) ⟨rfl, hF, Or.inr ⟨hno, rfl, ⟨_, _, _, _, _, _, hl, hC, hLn, hp, hcl0, ⟨hg, hj, he, hP⟩, hr0⟩⟩⟩
          · refine q_iload_n dX3_append_51 rfl ?_
            refine q_aload_n dX3_append_52 rfl rfl ?_
            refine q_get dX3_append_53 fl_X3_18 hl rfl ?_
            refine q_aload_n dX3_append_56 rfl rfl ?_
            refine q_get dX3_append_57 fl_X3_37 hl rfl ?_
            refine q_isub dX3_append_60 (pk_sub (by omega)) ?_
            refine q_iload dX3_append_61 rfl ?_
            refine q_isub dX3_append_63 (pk_sub (by omega)) ?_
            refine q_icmp_le (tgt := 69) dX3_append_64 (by decide) (fun c64 => ?_) (fun c64 => ?_)
            · obtain ⟨m, hm, rfl⟩ := nI_of2 (nI_toInt (by omega)) (fun h => c48 (Int32.lt_trans h (by decide))) c64
              have hm1 : 1 ≤ m := by rcases Nat.eq_zero_or_pos m with h | h; exact absurd (by rw [h]; decide) c48; exact h
              refine q_iload_n dX3_append_69 rfl ?_
              refine q_if_eq (tgt := 90) dX3_append_70 (by decide) (fun _ => ?_) (fun h => absurd h (by decide))
              exact l_append2 (j := j) (ap := 1) hk1 hk3 hm1 hap (by omega) ⟨hg, hj, he, hP⟩ hr0 hcl0 (Or.inr ⟨by omega, rfl⟩) hl hC hLn hp hF (fun G h1 h2 => ⟨rfl, h2, Or.inl ⟨m, rfl, hm1, by rw [ln_S_app, hap]; omega, rfl, h1⟩⟩)
            · have hno : ¬ ∃ m, x = nI m ∧ 1 ≤ m ∧ ln_S (va_up c n k) (va_up l n m) (n + 1) 0 ≤ le := by
                rintro ⟨m, h1, h2, h3⟩
                rw [ln_S_app, hap] at h3
                exact c64 (by rw [h1]; exact nI_le (by omega) (by omega))
              refine q_iconst (v := nI 0) dX3_append_67 (by decide) ?_
              exact q_ireturn dX3_append_68 rfl (by decide +kernel) ⟨rfl, hF, Or.inr ⟨hno, rfl, ⟨_, _, _, _, _, _, hl, hC, hLn, hp, hcl0, ⟨hg, hj, he, hP⟩, hr0⟩⟩⟩
        · refine q_iload_n dX3_append_46 rfl ?_
          refine q_iconst (v := nI 1) dX3_append_47 (by decide) ?_
          refine q_icmp_lt (tgt := 67) dX3_append_48 (by decide) (fun c48 => ?_) (fun c48 => ?_)
          · have hno : ¬ ∃ m, x = nI m ∧ 1 ≤ m ∧ ln_S (va_up c n k) (va_up l n m) (n + 1) 0 ≤ le := by
              rintro ⟨m, h1, h2, h3⟩
              rw [ln_S_app, hap] at h3
              exact absurd c48 (by rw [h1]; exact nI_nlt h2 (by omega))
            refine q_iconst (v := nI 0) dX3_append_67 (by decide) ?_
            exact q_ireturn dX3_append_68 rfl (by decide +kernel) ⟨rfl, hF, Or.inr ⟨hno, rfl, ⟨_, _, _, _, _, _, hl, hC, hLn, hp, hcl0, ⟨hg, hj, he, hP⟩, hr0⟩⟩⟩
          · refine q_iload_n dX3_append_51 rfl ?_
            refine q_aload_n dX3_append_52 rfl rfl ?_
            refine q_get dX3_append_53 fl_X3_18 hl rfl ?_
            refine q_aload_n dX3_append_56 rfl rfl ?_
            refine q_get dX3_append_57 fl_X3_37 hl rfl ?_
            refine q_isub dX3_append_60 (pk_sub (by omega)) ?_
            refine q_iload dX3_append_61 rfl ?_
            refine q_isub dX3_append_63 (show nI (le - ln_S c l n 0) - nI 1 = -1 by rw [show le - ln_S c l n 0 = 0 by omega]; decide) ?_
            refine q_icmp_le (tgt := 69) dX3_append_64 (by decide) (fun c64 => ?_) (fun c64 => ?_)
            · exact absurd (Int32.le_trans (Int32.not_lt.mp c48) c64) (by decide)
            · have hno : ¬ ∃ m, x = nI m ∧ 1 ≤ m ∧ ln_S (va_up c n k) (va_up l n m) (n + 1) 0 ≤ le := by
                rintro ⟨m, h1, h2, h3⟩
                rw [ln_S_app, hap] at h3
                omega
              refine q_iconst (v := nI 0) dX3_append_67 (by decide) ?_
              exact q_ireturn dX3_append_68 rfl (by decide +kernel) ⟨rfl, hF, Or.inr ⟨hno, rfl, ⟨_, _, _, _, _, _, hl, hC, hLn, hp, hcl0, ⟨hg, hj, he, hP⟩, hr0⟩⟩⟩
    · refine q_iconst (v := nI 1) dX3_append_22 (by decide) ?_
      refine q_goto (tgt := 27) dX3_append_23 (by decide) ?_
      refine s_istore_n dX3_append_27 (by decide) rfl ?_
      refine q_aload_n dX3_append_28 rfl rfl ?_
      refine q_get dX3_append_29 fl_X3_34 hl rfl ?_
      refine n_if_eq (tgt := 39) dX3_append_32 (by decide) (by omega) (fun c32 => ?_) (fun c32 => ?_)
      · refine q_iconst (v := nI 0) dX3_append_39 (by decide) ?_
        refine q_goto (tgt := 44) dX3_append_40 (by decide) ?_
        refine s_istore dX3_append_44 (by decide) rfl ?_
        have hap : (if n = 0 then 0 else if k = c (n - 1) then 1 else 0) = 0 := by rw [if_neg (by omega), if_neg (by omega)]
        refine q_iload_n dX3_append_46 rfl ?_
        refine q_iconst (v := nI 1) dX3_append_47 (by decide) ?_
        refine q_icmp_lt (tgt := 67) dX3_append_48 (by decide) (fun c48 => ?_) (fun c48 => ?_)
        · have hno : ¬ ∃ m, x = nI m ∧ 1 ≤ m ∧ ln_S (va_up c n k) (va_up l n m) (n + 1) 0 ≤ le := by
            rintro ⟨m, h1, h2, h3⟩
            rw [ln_S_app, hap] at h3
            exact absurd c48 (by rw [h1]; exact nI_nlt h2 (by omega))
          refine q_iconst (v := nI 0) dX3_append_67 (by decide) ?_
          exact q_ireturn dX3_append_68 rfl (by decide +kernel) ⟨rfl, hF, Or.inr ⟨hno, rfl, ⟨_, _, _, _, _, _, hl, hC, hLn, hp, hcl0, ⟨hg, hj, he, hP⟩, hr0⟩⟩⟩
        · refine q_iload_n dX3_append_51 rfl ?_
          refine q_aload_n dX3_append_52 rfl rfl ?_
          refine q_get dX3_append_53 fl_X3_18 hl rfl ?_
          refine q_aload_n dX3_append_56 rfl rfl ?_
          refine q_get dX3_append_57 fl_X3_37 hl rfl ?_
          refine q_isub dX3_append_60 (pk_sub (by omega)) ?_
          refine q_iload dX3_append_61 rfl ?_
          refine q_isub dX3_append_63 (pk_sub (by omega)) ?_
          refine q_icmp_le (tgt := 69) dX3_append_64 (by decide) (fun c64 => ?_) (fun c64 => ?_)
          · obtain ⟨m, hm, rfl⟩ := nI_of2 (nI_toInt (by omega)) (fun h => c48 (Int32.lt_trans h (by decide))) c64
            have hm1 : 1 ≤ m := by rcases Nat.eq_zero_or_pos m with h | h; exact absurd (by rw [h]; decide) c48; exact h
            refine q_iload_n dX3_append_69 rfl ?_
            refine q_if_eq (tgt := 90) dX3_append_70 (by decide) (fun h => absurd h (by decide)) (fun _ => ?_)
            refine q_aload_n dX3_append_73 rfl rfl ?_
            refine q_dup dX3_append_74 rfl ?_
            refine q_get dX3_append_75 fl_X3_46 hl rfl ?_
            refine q_iconst (v := nI 1) dX3_append_78 (by decide) ?_
            refine q_aload_n dX3_append_79 rfl rfl ?_
            refine q_get dX3_append_80 fl_X3_40 hl rfl ?_
            refine q_iconst (v := nI 1) dX3_append_83 (by decide) ?_
            refine q_isub dX3_append_84 (pk_sub (hp1 (by omega))) ?_
            refine q_ishl dX3_append_85 (n_shl (by omega) rfl) ?_
            refine q_ior dX3_append_86 (n_or _ _) ?_
            refine w_put (fs2 := li_ob a (fi) (sr) (le) (cr) (n) (ln_S c l n 0) (pl_p l n) (g) (j ||| 1 <<< (pl_p l n - 1)) (e)) dX3_append_87 fl_X3_46 fp_X3_46 hl (Nat.le_of_ble_eq_true rfl) rfl rfl rfl (fun G hl hN => ?_)
            have hC := (hN _ (by omega)).trans hC
            have hLn := (hN _ (by omega)).trans hLn
            have hp := (hN _ (by omega)).trans hp
            have hF : ∀ b, b < a ∨ a + 4 ≤ b → G b = G0 b := fun b hb => (hN b (by omega)).trans (hF b hb)
            exact l_append2 (j := j) (ap := 0) hk1 hk3 hm1 hap (by omega) ⟨hg, hj, he, hP⟩ hr0 hcl0 (Or.inl ⟨by omega, by omega, rfl⟩) hl hC hLn hp hF (fun G h1 h2 => ⟨rfl, h2, Or.inl ⟨m, rfl, hm1, by rw [ln_S_app, hap]; omega, rfl, h1⟩⟩)
          · have hno : ¬ ∃ m, x = nI m ∧ 1 ≤ m ∧ ln_S (va_up c n k) (va_up l n m) (n + 1) 0 ≤ le := by
              rintro ⟨m, h1, h2, h3⟩
              rw [ln_S_app, hap] at h3
              exact c64 (by rw [h1]; exact nI_le (by omega) (by omega))
            refine q_iconst (v := nI 0) dX3_append_67 (by decide) ?_
            exact q_ireturn dX3_append_68 rfl (by decide +kernel) ⟨rfl, hF, Or.inr ⟨hno, rfl, ⟨_, _, _, _, _, _, hl, hC, hLn, hp, hcl0, ⟨hg, hj, he, hP⟩, hr0⟩⟩⟩
      · refine q_iload_n dX3_append_35 rfl ?_
        refine q_if_eq (tgt := 43) dX3_append_36 (by decide) (fun h => absurd h (by decide)) (fun _ => ?_)
        refine q_iconst (v := nI 0) dX3_append_39 (by decide) ?_
        refine q_goto (tgt := 44) dX3_append_40 (by decide) ?_
        refine s_istore dX3_append_44 (by decide) rfl ?_
        have hap : (if n = 0 then 0 else if k = c (n - 1) then 1 else 0) = 0 := by rw [if_neg (by omega), if_neg (by omega)]
        refine q_iload_n dX3_append_46 rfl ?_
        refine q_iconst (v := nI 1) dX3_append_47 (by decide) ?_
        refine q_icmp_lt (tgt := 67) dX3_append_48 (by decide) (fun c48 => ?_) (fun c48 => ?_)
        · have hno : ¬ ∃ m, x = nI m ∧ 1 ≤ m ∧ ln_S (va_up c n k) (va_up l n m) (n + 1) 0 ≤ le := by
            rintro ⟨m, h1, h2, h3⟩
            rw [ln_S_app, hap] at h3
            exact absurd c48 (by rw [h1]; exact nI_nlt h2 (by omega))
          refine q_iconst (v := nI 0) dX3_append_67 (by decide) ?_
          exact q_ireturn dX3_append_68 rfl (by decide +kernel) ⟨rfl, hF, Or.inr ⟨hno, rfl, ⟨_, _, _, _, _, _, hl, hC, hLn, hp, hcl0, ⟨hg, hj, he, hP⟩, hr0⟩⟩⟩
        · refine q_iload_n dX3_append_51 rfl ?_
          refine q_aload_n dX3_append_52 rfl rfl ?_
          refine q_get dX3_append_53 fl_X3_18 hl rfl ?_
          refine q_aload_n dX3_append_56 rfl rfl ?_
          refine q_get dX3_append_57 fl_X3_37 hl rfl ?_
          refine q_isub dX3_append_60 (pk_sub (by omega)) ?_
          refine q_iload dX3_append_61 rfl ?_
          refine q_isub dX3_append_63 (pk_sub (by omega)) ?_
          refine q_icmp_le (tgt := 69) dX3_append_64 (by decide) (fun c64 => ?_) (fun c64 => ?_)
          · obtain ⟨m, hm, rfl⟩ := nI_of2 (nI_toInt (by omega)) (fun h => c48 (Int32.lt_trans h (by decide))) c64
            have hm1 : 1 ≤ m := by rcases Nat.eq_zero_or_pos m with h | h; exact absurd (by rw [h]; decide) c48; exact h
            refine q_iload_n dX3_append_69 rfl ?_
            refine q_if_eq (tgt := 90) dX3_append_70 (by decide) (fun h => absurd h (by decide)) (fun _ => ?_)
            refine q_aload_n dX3_append_73 rfl rfl ?_
            refine q_dup dX3_append_74 rfl ?_
            refine q_get dX3_append_75 fl_X3_46 hl rfl ?_
            refine q_iconst (v := nI 1) dX3_append_78 (by decide) ?_
            refine q_aload_n dX3_append_79 rfl rfl ?_
            refine q_get dX3_append_80 fl_X3_40 hl rfl ?_
            refine q_iconst (v := nI 1) dX3_append_83 (by decide) ?_
            refine q_isub dX3_append_84 (pk_sub (hp1 (by omega))) ?_
            refine q_ishl dX3_append_85 (n_shl (by omega) rfl) ?_
            refine q_ior dX3_append_86 (n_or _ _) ?_
            refine w_put (fs2 := li_ob a (fi) (sr) (le) (cr) (n) (ln_S c l n 0) (pl_p l n) (g) (j ||| 1 <<< (pl_p l n - 1)) (e)) dX3_append_87 fl_X3_46 fp_X3_46 hl (Nat.le_of_ble_eq_true rfl) rfl rfl rfl (fun G hl hN => ?_)
            have hC := (hN _ (by omega)).trans hC
            have hLn := (hN _ (by omega)).trans hLn
            have hp := (hN _ (by omega)).trans hp
            have hF : ∀ b, b < a ∨ a + 4 ≤ b → G b = G0 b := fun b hb => (hN b (by omega)).trans (hF b hb)
            exact l_append2 (j := j) (ap := 0) hk1 hk3 hm1 hap (by omega) ⟨hg, hj, he, hP⟩ hr0 hcl0 (Or.inl ⟨by omega, by omega, rfl⟩) hl hC hLn hp hF (fun G h1 h2 => ⟨rfl, h2, Or.inl ⟨m, rfl, hm1, by rw [ln_S_app, hap]; omega, rfl, h1⟩⟩)
          · have hno : ¬ ∃ m, x = nI m ∧ 1 ≤ m ∧ ln_S (va_up c n k) (va_up l n m) (n + 1) 0 ≤ le := by
              rintro ⟨m, h1, h2, h3⟩
              rw [ln_S_app, hap] at h3
              exact c64 (by rw [h1]; exact nI_le (by omega) (by omega))
            refine q_iconst (v := nI 0) dX3_append_67 (by decide) ?_
            exact q_ireturn dX3_append_68 rfl (by decide +kernel) ⟨rfl, hF, Or.inr ⟨hno, rfl, ⟨_, _, _, _, _, _, hl, hC, hLn, hp, hcl0, ⟨hg, hj, he, hP⟩, hr0⟩⟩⟩
