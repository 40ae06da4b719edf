/-! THE CLASS: how many fillings -/
theorem sb_1 (x q : Nat) : x >>> q &&& 1 = if x.testBit q = true then 1 else 0 := by
  rw [Nat.and_one_is_mod, Nat.testBit_eq_decide_div_mod_eq, Nat.shiftRight_eq_div_pow]
  rcases Nat.mod_two_eq_zero_or_one (x / 2 ^ q) with h | h <;> rw [h] <;> simp
def co_n (g j al : Nat) (Y : Nat → Nat) (q : Nat) : Nat := (al >>> q &&& 1) * ((g >>> q &&& 1) * Y q + (if 1 ≤ q then Y (q - 1) else 0) + (if 2 ≤ q then (j >>> (q - 2) &&& 1) * Y (q - 2) else 0))
theorem co_c {c l : Nat → Nat} {n i g j al q : Nat} {may Y : Nat → Nat} (hg : Bt g (pl_gap l n)) (hj : Bt j (pl_jmp c l n)) (ha : Bt al (pl_ok c l n may i)) (hY : ∀ q, q ≤ pl_p l n → Y q = pl_c c l n may i q) (hq : q ≤ pl_p l n) : co_n g j al Y q = pl_c c l n may (i + 1) q := by
  unfold co_n
  rw [sb_1, sb_1, sb_1, ha q, hg q, hj (q - 2), hY q hq]
  show _ = (if pl_ok c l n may i q = true then (if 1 ≤ q then pl_c c l n may i (q - 1) else 0) + (if pl_gap l n q = true then pl_c c l n may i q else 0) + (if 2 ≤ q ∧ pl_jmp c l n (q - 2) = true then pl_c c l n may i (q - 2) else 0) else 0)
  have e1 : (if 1 ≤ q then Y (q - 1) else 0) = (if 1 ≤ q then pl_c c l n may i (q - 1) else 0) := by rw [hY (q - 1) (by omega)]
  have e2 : (if pl_gap l n q = true then 1 else 0) * pl_c c l n may i q = (if pl_gap l n q = true then pl_c c l n may i q else 0) := by split <;> simp
  have e3 : (if 2 ≤ q then (if pl_jmp c l n (q - 2) = true then 1 else 0) * Y (q - 2) else 0) = (if 2 ≤ q ∧ pl_jmp c l n (q - 2) = true then pl_c c l n may i (q - 2) else 0) := by
    rw [hY (q - 2) (by omega)]
    by_cases h2 : 2 ≤ q
    · by_cases h3 : pl_jmp c l n (q - 2) = true
      · rw [if_pos h2, if_pos h3, if_pos ⟨h2, h3⟩, Nat.one_mul]
      · rw [if_pos h2, if_neg h3, if_neg (fun g => h3 g.2), Nat.zero_mul]
    · rw [if_neg h2, if_neg (fun g => h2 g.1)]
  rw [e1, e2, e3]
  split
  · rw [Nat.one_mul]; omega
  · rw [Nat.zero_mul]

set_option maxHeartbeats 4000000 in
set_option maxRecDepth 100000 in
theorem l_countOn {T : q_T} {G0 : q_G} {sz s a fi sr le cr n Z Q g j e al : Nat} {Y : Nat → Nat} {E : q_E} (hds : a + 4 ≤ s ∨ s + 4 ≤ a) (hQ : Q ≤ 20) (hgl : g < 2 ^ 31) (hjl : j < 2 ^ 31) (hal : al < 2 ^ 31) (hE : ∀ (Y1 : Nat → Nat) (G : q_G), (∀ q, q ≤ Q → Y1 q = co_n g j al Y q) → (G s = some (q_ob 6 [.ref (s + 1), .ref (s + 2), .ref (s + 3)]) ∧ G (s + 3) = some (q_ia T 21 (fun i => nI (Y1 i))) ∧ G a = some (q_ob 4 (li_ob a fi sr le cr n Z Q g j e)) ∧ ∀ b, b ≠ s + 3 → G b = G0 b) → E none G sz) : ∀ (mZ : Nat) (d : Nat) (Y1 : Nat → Nat) (G : q_G) (x4 : Option Value), mZ = d → (d ≤ Q + 1) → (∀ q, q < d → Y1 q = Y q) → (∀ q, d ≤ q → q ≤ Q → Y1 q = co_n g j al Y q) → (G s = some (q_ob 6 [.ref (s + 1), .ref (s + 2), .ref (s + 3)]) ∧ G (s + 3) = some (q_ia T 21 (fun i => nI (Y1 i))) ∧ G a = some (q_ob 4 (li_ob a fi sr le cr n Z Q g j e)) ∧ ∀ b, b ≠ s + 3 → G b = G0 b) → q_R T mX5_countOn 0 0 5 [some (.ref s), some (.ref a), some (.int (nI al)), some (.int (nI d - 1)), x4] [] G sz 0 0 E := by
  intro mZ
  induction mZ using Nat.strongRecOn with | ind mZ ih => ?_
  intro d Y1 G x4 hm hd h1 h2 hw
  obtain ⟨hs, ht, hl, hF⟩ := hw
  rcases d with _ | q
  · refine q_iload_n dX5_countOn_5 rfl ?_
    refine q_if_lt (tgt := 93) dX5_countOn_6 (by decide) (fun _ => ?_) (fun h => absurd (by decide) h)
    exact q_return dX5_countOn_93 rfl (hE Y1 G (fun q hq => h2 q (Nat.zero_le _) hq) ⟨hs, ht, hl, hF⟩)
  rw [nI_pred]
  refine q_iload_n dX5_countOn_5 rfl ?_
  refine n_if_lt (tgt := 93) dX5_countOn_6 (by decide) (by omega) ?_
  refine q_aload_n dX5_countOn_9 rfl rfl ?_
  refine q_get dX5_countOn_10 fl_X5_21 hl rfl ?_
  refine q_iload_n dX5_countOn_13 rfl ?_
  refine q_iushr dX5_countOn_14 (n_ushr (by omega) (by omega)) ?_
  refine q_iconst (v := nI 1) dX5_countOn_15 (by decide) ?_
  refine q_iand dX5_countOn_16 (n_and _ _) ?_
  refine q_aload_n dX5_countOn_17 rfl rfl ?_
  refine q_get dX5_countOn_18 fl_X5_18 hs rfl ?_
  refine q_iload_n dX5_countOn_21 rfl ?_
  refine w_ld dX5_countOn_22 ht rfl (by omega) (by omega) rfl ?_
  refine q_imul dX5_countOn_23 (pk_mul _ _) ?_
  refine s_istore dX5_countOn_24 (by decide) rfl ?_
  refine q_iload_n dX5_countOn_26 rfl ?_
  refine q_iconst (v := nI 1) dX5_countOn_27 (by decide) ?_
  refine n_icmp_lt (tgt := 44) dX5_countOn_28 (by decide) (by omega) (by omega) (fun c28 => ?_) (fun c28 => ?_)
  · refine q_iload_n dX5_countOn_44 rfl ?_
    refine q_iconst (v := nI 2) dX5_countOn_45 (by decide) ?_
    refine n_icmp_lt (tgt := 73) dX5_countOn_46 (by decide) (by omega) (by omega) (fun c46 => ?_) (fun c46 => ?_)
    · refine q_aload_n dX5_countOn_73 rfl rfl ?_
      refine q_get dX5_countOn_74 fl_X5_18 hs rfl ?_
      refine q_iload_n dX5_countOn_77 rfl ?_
      refine q_iload_n dX5_countOn_78 rfl ?_
      refine q_iload_n dX5_countOn_79 rfl ?_
      refine q_iushr dX5_countOn_80 (n_ushr (by omega) (by omega)) ?_
      refine q_iconst (v := nI 1) dX5_countOn_81 (by decide) ?_
      refine q_iand dX5_countOn_82 (n_and _ _) ?_
      refine q_iload dX5_countOn_83 rfl ?_
      refine q_imul dX5_countOn_85 (pk_mul _ _) ?_
      refine w_st dX5_countOn_86 ht rfl (by omega) (by omega) rfl (fun G ht hN => ?_)
      have hs := (hN _ (by omega)).trans hs
      have hl := (hN _ (by omega)).trans hl
      have hF : ∀ b, b ≠ s + 3 → G b = G0 b := fun b hb => (hN b (by omega)).trans (hF b hb)
      refine s_iinc dX5_countOn_87 rfl (s_decm _) (by decide) rfl ?_
      refine q_goto (tgt := 5) dX5_countOn_90 (by decide) ?_
      exact ih _ (by omega) q _ G _ rfl (by omega) (fun z hz => by rw [va_up_n _ _ (by omega)]; exact h1 z (by omega)) (fun z z1 z2 => if h : z = q then (by rw [h, va_up_s]; unfold co_n; rw [if_neg (by omega), if_neg (by omega), h1 q (by omega)]; rfl) else (by rw [va_up_n _ _ h]; exact h2 z (by omega) z2)) ⟨hs, ht, hl, hF⟩
    · exact absurd c46 (by omega)
  · refine q_iload dX5_countOn_31 rfl ?_
    refine q_aload_n dX5_countOn_33 rfl rfl ?_
    refine q_get dX5_countOn_34 fl_X5_18 hs rfl ?_
    refine q_iload_n dX5_countOn_37 rfl ?_
    refine q_iconst (v := nI 1) dX5_countOn_38 (by decide) ?_
    refine q_isub dX5_countOn_39 (pk_sub (by omega)) ?_
    refine w_ld dX5_countOn_40 ht rfl (by omega) (by omega) rfl ?_
    refine q_iadd dX5_countOn_41 (nI_add _ _) ?_
    refine s_istore dX5_countOn_42 (by decide) rfl ?_
    refine q_iload_n dX5_countOn_44 rfl ?_
    refine q_iconst (v := nI 2) dX5_countOn_45 (by decide) ?_
    refine n_icmp_lt (tgt := 73) dX5_countOn_46 (by decide) (by omega) (by omega) (fun c46 => ?_) (fun c46 => ?_)
    · refine q_aload_n dX5_countOn_73 rfl rfl ?_
      refine q_get dX5_countOn_74 fl_X5_18 hs rfl ?_
      refine q_iload_n dX5_countOn_77 rfl ?_
      refine q_iload_n dX5_countOn_78 rfl ?_
      refine q_iload_n dX5_countOn_79 rfl ?_
      refine q_iushr dX5_countOn_80 (n_ushr (by omega) (by omega)) ?_
      refine q_iconst (v := nI 1) dX5_countOn_81 (by decide) ?_
      refine q_iand dX5_countOn_82 (n_and _ _) ?_
      refine q_iload dX5_countOn_83 rfl ?_
      refine q_imul dX5_countOn_85 (pk_mul _ _) ?_
      refine w_st dX5_countOn_86 ht rfl (by omega) (by omega) rfl (fun G ht hN => ?_)
      have hs := (hN _ (by omega)).trans hs
      have hl := (hN _ (by omega)).trans hl
      have hF : ∀ b, b ≠ s + 3 → G b = G0 b := fun b hb => (hN b (by omega)).trans (hF b hb)
      refine s_iinc dX5_countOn_87 rfl (s_decm _) (by decide) rfl ?_
      refine q_goto (tgt := 5) dX5_countOn_90 (by decide) ?_
      exact ih _ (by omega) q _ G _ rfl (by omega) (fun z hz => by rw [va_up_n _ _ (by omega)]; exact h1 z (by omega)) (fun z z1 z2 => if h : z = q then (by rw [h, va_up_s]; unfold co_n; rw [if_pos (by omega), if_neg (by omega), h1 q (by omega), h1 (q - 1) (by omega)]; rfl) else (by rw [va_up_n _ _ h]; exact h2 z (by omega) z2)) ⟨hs, ht, hl, hF⟩
    · refine q_iload dX5_countOn_49 rfl ?_
      refine q_aload_n dX5_countOn_51 rfl rfl ?_
      refine q_get dX5_countOn_52 fl_X5_27 hl rfl ?_
      refine q_iload_n dX5_countOn_55 rfl ?_
      refine q_iconst (v := nI 2) dX5_countOn_56 (by decide) ?_
      refine q_isub dX5_countOn_57 (pk_sub (by omega)) ?_
      refine q_iushr dX5_countOn_58 (n_ushr (by omega) (by omega)) ?_
      refine q_iconst (v := nI 1) dX5_countOn_59 (by decide) ?_
      refine q_iand dX5_countOn_60 (n_and _ _) ?_
      refine q_aload_n dX5_countOn_61 rfl rfl ?_
      refine q_get dX5_countOn_62 fl_X5_18 hs rfl ?_
      refine q_iload_n dX5_countOn_65 rfl ?_
      refine q_iconst (v := nI 2) dX5_countOn_66 (by decide) ?_
      refine q_isub dX5_countOn_67 (pk_sub (by omega)) ?_
      refine w_ld dX5_countOn_68 ht rfl (by omega) (by omega) rfl ?_
      refine q_imul dX5_countOn_69 (pk_mul _ _) ?_
      refine q_iadd dX5_countOn_70 (nI_add _ _) ?_
      refine s_istore dX5_countOn_71 (by decide) rfl ?_
      refine q_aload_n dX5_countOn_73 rfl rfl ?_
      refine q_get dX5_countOn_74 fl_X5_18 hs rfl ?_
      refine q_iload_n dX5_countOn_77 rfl ?_
      refine q_iload_n dX5_countOn_78 rfl ?_
      refine q_iload_n dX5_countOn_79 rfl ?_
      refine q_iushr dX5_countOn_80 (n_ushr (by omega) (by omega)) ?_
      refine q_iconst (v := nI 1) dX5_countOn_81 (by decide) ?_
      refine q_iand dX5_countOn_82 (n_and _ _) ?_
      refine q_iload dX5_countOn_83 rfl ?_
      refine q_imul dX5_countOn_85 (pk_mul _ _) ?_
      refine w_st dX5_countOn_86 ht rfl (by omega) (by omega) rfl (fun G ht hN => ?_)
      have hs := (hN _ (by omega)).trans hs
      have hl := (hN _ (by omega)).trans hl
      have hF : ∀ b, b ≠ s + 3 → G b = G0 b := fun b hb => (hN b (by omega)).trans (hF b hb)
      refine s_iinc dX5_countOn_87 rfl (s_decm _) (by decide) rfl ?_
      refine q_goto (tgt := 5) dX5_countOn_90 (by decide) ?_
      exact ih _ (by omega) q _ G _ rfl (by omega) (fun z hz => by rw [va_up_n _ _ (by omega)]; exact h1 z (by omega)) (fun z z1 z2 => if h : z = q then (by rw [h, va_up_s]; unfold co_n; rw [if_pos (by omega), if_pos (by omega), h1 q (by omega), h1 (q - 1) (by omega), h1 (q - 2) (by omega)]) else (by rw [va_up_n _ _ h]; exact h2 z (by omega) z2)) ⟨hs, ht, hl, hF⟩

set_option maxHeartbeats 4000000 in
set_option maxRecDepth 100000 in
theorem c_X5_countOn {T : q_T} {G0 : q_G} {sz s a fi sr le cr n Z Q g j e al : Nat} {Y : Nat → Nat} (hs : G0 s = some (q_ob 6 [.ref (s + 1), .ref (s + 2), .ref (s + 3)])) (ht : G0 (s + 3) = some (q_ia T 21 (fun i => nI (Y i)))) (hl : G0 a = some (q_ob 4 (li_ob a fi sr le cr n Z Q g j e))) (hds : a + 4 ≤ s ∨ s + 4 ≤ a) (hQ : Q ≤ 20) (hgl : g < 2 ^ 31) (hjl : j < 2 ^ 31) (hal : al < 2 ^ 31) : q_C T mX5_countOn 0 0 0 0 [.ref s, .ref a, .int (nI al)] G0 sz (fun v G' sz' => sz = sz' ∧ v = none ∧ ∃ Y1 : Nat → Nat, (∀ q, q ≤ Q → Y1 q = co_n g j al Y q) ∧ G' (s + 3) = some (q_ia T 21 (fun i => nI (Y1 i))) ∧ ∀ b, b ≠ s + 3 → G' b = G0 b) := by
  refine q_C.of (by decide) rfl (by simp [Value.category]) (Nat.le_of_ble_eq_true rfl) ?_
  refine q_aload_n dX5_countOn_0 rfl rfl ?_
  refine q_get dX5_countOn_1 fl_X5_57 hl rfl ?_
  refine s_istore_n dX5_countOn_4 (by decide) rfl ?_
  rw [show nI Q = nI (Q + 1) - 1 from (nI_pred Q).symm]
  exact l_countOn hds hQ hgl hjl hal (fun Y1 G h1 h2 => ⟨rfl, rfl, Y1, h1, h2.2.1, h2.2.2.2⟩) _ (Q + 1) Y _ _ rfl (Nat.le_refl _) (fun _ _ => rfl) (fun q h1 h2 => absurd h1 (by omega)) ⟨hs, ht, hl, fun _ _ => rfl⟩

set_option maxHeartbeats 4000000 in
set_option maxRecDepth 100000 in
theorem l_cF1 {T : q_T} {G0 : q_G} {sz s a b N fi sr le cr n Z g j e : Nat} {c l S P : Nat → Nat} {E : q_E} (hds : a + 4 ≤ s ∨ s + 4 ≤ a) (hdb : b < s ∨ s + 4 ≤ b) (hN1 : N ≤ 1000) (hc : ∀ i, i < le → fi + i * sr < N ∧ S (fi + i * sr) < 16) (hB : Lb c l n g j e P) (hr0 : Lr c l n le) (hx : ∀ (Y : Nat → Nat) (G : q_G), (∀ q, q ≤ pl_p l n → Y q = pl_c c l n (fun i => S (fi + i * sr)) le q) → (G s = some (q_ob 6 [.ref (s + 1), .ref (s + 2), .ref (s + 3)]) ∧ G (s + 3) = some (q_ia T 21 (fun i => nI (Y i))) ∧ G a = some (q_ob 4 (li_ob a fi sr le cr n Z (pl_p l n) g j e)) ∧ G (a + 3) = some (q_ia T 16 (fun i => nI (P i))) ∧ G b = some (q_ia T N (fun i => nI (S i))) ∧ ∀ b, b ≠ s + 3 → G b = G0 b) → q_R T mX5_countFillings 1 24 48 [some (.ref s), some (.ref a), some (.ref b), some (.int (nI le)), none] [] G sz 0 0 E) : ∀ (mZ : Nat) (i : Nat) (Y : Nat → Nat) (G : q_G), mZ = le - i → (i ≤ le) → (∀ q, q ≤ pl_p l n → Y q = pl_c c l n (fun i => S (fi + i * sr)) i q) → (G s = some (q_ob 6 [.ref (s + 1), .ref (s + 2), .ref (s + 3)]) ∧ G (s + 3) = some (q_ia T 21 (fun i => nI (Y i))) ∧ G a = some (q_ob 4 (li_ob a fi sr le cr n Z (pl_p l n) g j e)) ∧ G (a + 3) = some (q_ia T 16 (fun i => nI (P i))) ∧ G b = some (q_ia T N (fun i => nI (S i))) ∧ ∀ b, b ≠ s + 3 → G b = G0 b) → q_R T mX5_countFillings 1 24 17 [some (.ref s), some (.ref a), some (.ref b), some (.int (nI i)), none] [] G sz 0 0 E := by
  intro mZ
  induction mZ using Nat.strongRecOn with | ind mZ ih => ?_
  intro i Y G hm hi hY hw
  obtain ⟨hg, hj, he, hP⟩ := hB
  obtain ⟨n10, p20, l1, c3⟩ := hr0.bd
  have le10 := hr0.2.2
  have glt : g < 2 ^ 21 := Bt_lt hg (fun q hq => by
    rw [← Bool.not_eq_true]
    intro h
    obtain ⟨r, h1, h2⟩ := (pl_gap_iff l n q).mp h
    have := pl_p_le (l := l) h1
    omega)
  have jlt : j < 2 ^ 21 := Bt_lt hj (fun q hq => by
    rw [← Bool.not_eq_true]
    intro h
    obtain ⟨r, -, h1, -, h2⟩ := (pl_jmp_iff c l n q).mp h
    have := pl_p_le (l := l) (Nat.le_of_lt h1)
    omega)
  have elt : e < 2 ^ 21 := Bt_lt he (fun q hq => decide_eq_false (fun h => by omega))
  obtain ⟨hs, ht, hl, hp, hb, hF⟩ := hw
  refine q_iload_n dX5_countFillings_17 rfl ?_
  refine q_aload_n dX5_countFillings_18 rfl rfl ?_
  refine q_get dX5_countFillings_19 fl_X5_30 hl rfl ?_
  refine n_icmp_ge (tgt := 48) dX5_countFillings_22 (by decide) (by omega) (by omega) (fun c22 => ?_) (fun c22 => ?_)
  · obtain rfl : i = le := by omega
    exact hx Y G hY ⟨hs, ht, hl, hp, hb, hF⟩
  · refine q_aload_n dX5_countFillings_25 rfl rfl ?_
    refine q_aload_n dX5_countFillings_26 rfl rfl ?_
    refine q_aload_n dX5_countFillings_27 rfl rfl ?_
    refine q_get dX5_countFillings_28 fl_X5_33 hl rfl ?_
    refine q_aload_n dX5_countFillings_31 rfl rfl ?_
    refine q_aload_n dX5_countFillings_32 rfl rfl ?_
    refine q_iload_n dX5_countFillings_33 rfl ?_
    refine q_iv (As := [_]) dX5_countFillings_34 ml_X5_36 mt_X3_cellAt mi_X3_cellAt se_X3_cellAt hl rfl rfl (Nat.le_of_ble_eq_true rfl) (Nat.le_of_ble_eq_true rfl) (Nat.zero_le _) (Nat.zero_le _) (Nat.le_of_ble_eq_true rfl) (q_C.mono (c_X3_cellAt hl) (fun v G1 sz1 hq => ?_))
    obtain ⟨rfl, rfl, rfl⟩ := hq
    refine w_ld dX5_countFillings_37 hb rfl (hc i (by omega)).1 (by omega) rfl ?_
    refine w_ld dX5_countFillings_38 hp rfl (hc i (by omega)).2 (by omega) rfl ?_
    have hal : P (S (fi + i * sr)) < 2 ^ 21 := Bt_lt (hP _ (hc i (by omega)).2) (fun q hq => by unfold pl_of; rw [decide_eq_false (by omega)]; rfl)
    refine q_iv (As := [_, _]) dX5_countFillings_39 ml_X5_53 mt_X5_countOn mi_X5_countOn se_X5_countOn hs rfl rfl (Nat.le_of_ble_eq_true rfl) (Nat.le_of_ble_eq_true rfl) (Nat.zero_le _) (Nat.zero_le _) (Nat.le_of_ble_eq_true rfl) (q_C.mono (c_X5_countOn hs ht hl hds p20 (by omega) (by omega) (by omega)) (fun v G sz1 hq => ?_))
    obtain ⟨rfl, rfl, Y1, hY1, ht, hN⟩ := hq
    have hs := (hN _ (by omega)).trans hs
    have hl := (hN _ (by omega)).trans hl
    have hp := (hN _ (by omega)).trans hp
    have hb := (hN _ (by omega)).trans hb
    have hF : ∀ b, b ≠ s + 3 → G b = G0 b := fun b hb => (hN b (by omega)).trans (hF b hb)
    refine s_iinc dX5_countFillings_42 rfl (s_inc1 _) (by decide) rfl ?_
    refine q_goto (tgt := 17) dX5_countFillings_45 (by decide) ?_
    exact ih _ (by omega) (i + 1) _ G rfl (by omega) (fun q hq => (hY1 q hq).trans (co_c (may := (fun i => S (fi + i * sr))) hg hj (hP _ (hc i (by omega)).2) hY hq)) ⟨hs, ht, hl, hp, hb, hF⟩

set_option maxHeartbeats 4000000 in
set_option maxRecDepth 100000 in
theorem l_cF2 {T : q_T} {G G0 : q_G} {sz s a b N fi sr le cr n Z g j e : Nat} {c l S P Y : Nat → Nat} {E : q_E} (hds : a + 4 ≤ s ∨ s + 4 ≤ a) (hdb : b < s ∨ s + 4 ≤ b) (hN1 : N ≤ 1000) (hc : ∀ i, i < le → fi + i * sr < N ∧ S (fi + i * sr) < 16) (hB : Lb c l n g j e P) (hr0 : Lr c l n le) (hY : ∀ q, q ≤ pl_p l n → Y q = pl_c c l n (fun i => S (fi + i * sr)) le q) (hw : G s = some (q_ob 6 [.ref (s + 1), .ref (s + 2), .ref (s + 3)]) ∧ G (s + 3) = some (q_ia T 21 (fun i => nI (Y i))) ∧ G a = some (q_ob 4 (li_ob a fi sr le cr n Z (pl_p l n) g j e)) ∧ G (a + 3) = some (q_ia T 16 (fun i => nI (P i))) ∧ G b = some (q_ia T N (fun i => nI (S i))) ∧ ∀ b, b ≠ s + 3 → G b = G0 b) (hE : E (some (.int (nI (ln_W c l n le (fun i => S (fi + i * sr)))))) G sz) : ∀ (mZ : Nat) (q u : Nat), mZ = pl_p l n + 1 - q → (q ≤ pl_p l n + 1) → (u = ln_sum (fun q => (if pl_end l n q = true then 1 else 0) * pl_c c l n (fun i => S (fi + i * sr)) le q) 0 q) → q_R T mX5_countFillings 1 24 53 [some (.ref s), some (.ref a), some (.ref b), some (.int (nI u)), some (.int (nI q))] [] G sz 0 0 E := by
  intro mZ
  induction mZ using Nat.strongRecOn with | ind mZ ih => ?_
  intro q u hm hq hu
  obtain ⟨hg, hj, he, hP⟩ := hB
  obtain ⟨n10, p20, l1, c3⟩ := hr0.bd
  have le10 := hr0.2.2
  have glt : g < 2 ^ 21 := Bt_lt hg (fun q hq => by
    rw [← Bool.not_eq_true]
    intro h
    obtain ⟨r, h1, h2⟩ := (pl_gap_iff l n q).mp h
    have := pl_p_le (l := l) h1
    omega)
  have jlt : j < 2 ^ 21 := Bt_lt hj (fun q hq => by
    rw [← Bool.not_eq_true]
    intro h
    obtain ⟨r, -, h1, -, h2⟩ := (pl_jmp_iff c l n q).mp h
    have := pl_p_le (l := l) (Nat.le_of_lt h1)
    omega)
  have elt : e < 2 ^ 21 := Bt_lt he (fun q hq => decide_eq_false (fun h => by omega))
  obtain ⟨hs, ht, hl, hp, hb, hF⟩ := hw
  refine q_iload dX5_countFillings_53 rfl ?_
  refine q_aload_n dX5_countFillings_55 rfl rfl ?_
  refine q_get dX5_countFillings_56 fl_X5_57 hl rfl ?_
  refine n_icmp_gt (tgt := 88) dX5_countFillings_59 (by decide) (by omega) (by omega) (fun c59 => ?_) (fun c59 => ?_)
  · obtain rfl : q = pl_p l n + 1 := by omega
    refine q_iload_n dX5_countFillings_88 rfl ?_
    exact q_ireturn dX5_countFillings_89 rfl rfl (by rw [hu, ← pl_W_sum l1]; exact hE)
  · refine q_iload_n dX5_countFillings_62 rfl ?_
    refine q_aload_n dX5_countFillings_63 rfl rfl ?_
    refine q_get dX5_countFillings_64 fl_X5_40 hl rfl ?_
    refine q_iload dX5_countFillings_67 rfl ?_
    refine q_iushr dX5_countFillings_69 (n_ushr (by omega) (by omega)) ?_
    refine q_iconst (v := nI 1) dX5_countFillings_70 (by decide) ?_
    refine q_iand dX5_countFillings_71 (n_and _ _) ?_
    refine q_aload_n dX5_countFillings_72 rfl rfl ?_
    refine q_get dX5_countFillings_73 fl_X5_18 hs rfl ?_
    refine q_iload dX5_countFillings_76 rfl ?_
    refine w_ld (v := pl_c c l n (fun i => S (fi + i * sr)) le q) dX5_countFillings_78 ht rfl (by omega) (by omega) (hY q (by omega)) ?_
    refine q_imul dX5_countFillings_79 (pk_mul _ _) ?_
    refine q_iadd dX5_countFillings_80 (nI_add _ _) ?_
    refine s_istore_n dX5_countFillings_81 (by decide) rfl ?_
    refine s_iinc dX5_countFillings_82 rfl (s_inc1 _) (by decide) rfl ?_
    refine q_goto (tgt := 53) dX5_countFillings_85 (by decide) ?_
    exact ih _ (by omega) (q + 1) _ rfl (by omega) (by rw [ln_sum_snoc, hu, Nat.zero_add, sb_1, he q])

theorem nI_fill0 {n v : Nat} {F : Nat → Nat} : (fun i => if i < n then nI v else nI (F i)) = fun i => nI ((fun i => if i < n then v else F i) i) := fl_n

set_option maxHeartbeats 4000000 in
set_option maxRecDepth 100000 in
theorem c_X5_countFillings {T : q_T} {G0 : q_G} {sz s a b N fi sr le cr n : Nat} {c l S : Nat → Nat} (hS : Scn T G0 s) (hL : Lin T G0 a fi sr le cr c l n) (hb : G0 b = some (q_ia T N (fun i => nI (S i)))) (hds : a + 4 ≤ s ∨ s + 4 ≤ a) (hdb : b < s ∨ s + 4 ≤ b) (hN1 : N ≤ 1000) (hc : ∀ i, i < le → fi + i * sr < N ∧ S (fi + i * sr) < 16) : q_C T mX5_countFillings 1 24 0 0 [.ref s, .ref a, .ref b] G0 sz (fun v G' sz' => sz = sz' ∧ v = some (.int (nI (ln_W c l n le (fun i => S (fi + i * sr))))) ∧ (∀ b, b ≠ s + 3 → G' b = G0 b) ∧ ∃ Y : Nat → Nat, G' (s + 3) = some (q_ia T 21 (fun i => nI (Y i)))) := by
  refine q_C.of (by decide) rfl (by simp [Value.category]) (Nat.le_of_ble_eq_true rfl) ?_
  obtain ⟨hs, ⟨K, hk⟩, ⟨R, hr⟩, Y, ht⟩ := hS
  obtain ⟨g, j, e, C, Ln, P, hl, -, -, hp, -, ⟨hg, hj, he, hP⟩, hr0⟩ := hL
  obtain ⟨n10, p20, l1, c3⟩ := hr0.bd
  have hF : ∀ b, b ≠ s + 3 → G0 b = G0 b := fun _ _ => rfl
  refine q_aload_n dX5_countFillings_0 rfl rfl ?_
  refine q_get dX5_countFillings_1 fl_X5_18 hs rfl ?_
  refine q_iconst (v := nI 0) dX5_countFillings_4 (by decide) ?_
  refine q_is (As := [_, _]) dX5_countFillings_5 ml_X5_47 mt_J7_fill_53178 ms_J7_fill_53178 rfl (Nat.le_of_ble_eq_true rfl) (Nat.le_of_ble_eq_true rfl) (Nat.zero_le _) (Nat.zero_le _) (Nat.le_of_ble_eq_true rfl) (q_C.mono (c_fill (by omega) ht) (fun v G sz1 hq => ?_))
  obtain ⟨rfl, rfl, ht, hN⟩ := hq
  rw [nI_fill0] at ht
  have hs := (hN _ (by omega)).trans hs
  have hl := (hN _ (by omega)).trans hl
  have hp := (hN _ (by omega)).trans hp
  have hb := (hN _ (by omega)).trans hb
  have hF : ∀ b, b ≠ s + 3 → G b = G0 b := fun b hb => (hN b (by omega)).trans (hF b hb)
  refine q_aload_n dX5_countFillings_8 rfl rfl ?_
  refine q_get dX5_countFillings_9 fl_X5_18 hs rfl ?_
  refine q_iconst (v := nI 0) dX5_countFillings_12 (by decide) ?_
  refine q_iconst (v := nI 1) dX5_countFillings_13 (by decide) ?_
  refine w_st (k := 0) dX5_countFillings_14 ht rfl (by omega) (by omega) rfl (fun G ht hN => ?_)
  have hs := (hN _ (by omega)).trans hs
  have hl := (hN _ (by omega)).trans hl
  have hp := (hN _ (by omega)).trans hp
  have hb := (hN _ (by omega)).trans hb
  have hF : ∀ b, b ≠ s + 3 → G b = G0 b := fun b hb => (hN b (by omega)).trans (hF b hb)
  refine q_iconst (v := nI 0) dX5_countFillings_15 (by decide) ?_
  refine s_istore_n dX5_countFillings_16 (by decide) rfl ?_
  refine l_cF1 hds hdb hN1 hc ⟨hg, hj, he, hP⟩ hr0 (fun Y G hY hw => ?_) _ 0 _ G rfl (Nat.zero_le _) (fun q hq => ?_) ⟨hs, ht, hl, hp, hb, hF⟩
  · refine q_iconst (v := nI 0) dX5_countFillings_48 (by decide) ?_
    refine s_istore_n dX5_countFillings_49 (by decide) rfl ?_
    refine q_iconst (v := nI 0) dX5_countFillings_50 (by decide) ?_
    refine s_istore dX5_countFillings_51 (by decide) rfl ?_
    exact l_cF2 hds hdb hN1 hc ⟨hg, hj, he, hP⟩ hr0 hY hw ⟨rfl, rfl, hw.2.2.2.2.2, _, hw.2.1⟩ _ 0 0 rfl (Nat.zero_le _) rfl
  · by_cases h0 : q = 0
    · subst h0; rw [va_up_s]; rfl
    · rw [va_up_n _ _ h0]; show (if q < 21 then 0 else _) = (if q = 0 then 1 else 0); rw [if_pos (by omega), if_neg h0]
