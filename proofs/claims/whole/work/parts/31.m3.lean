set_option maxHeartbeats 4000000 in
set_option maxRecDepth 100000 in
theorem c_X9_first {T : q_T} {m : Nat} {G0 G : q_G} {I : md_I} {A : md_A} {sz : Nat} (hM : Mod T m G0 I A G) {u : Nat} {c l pl : Nat → Nat} (hu : u + 10 ≤ 6000) (hc : ∀ i, A 6 (u + i) = c i) (hl : ∀ i, A 7 (u + i) = l i) (hpl : ∀ i, A 15 i = pl i) {r : Nat} (hr : r < 10) : q_C T mX9_first 0 0 0 0 [.ref m, .int (nI u), .int (nI r)] G sz (fun v G' sz' => v = some (.int (nI (ln_fst c l pl r))) ∧ G = G' ∧ sz = sz') := by
  refine q_C.of (by decide) rfl (by simp [Value.category]) (Nat.le_of_ble_eq_true rfl) ?_
  refine q_iload_n dX9_first_0 rfl ?_
  refine n_if_ne (tgt := 6) dX9_first_1 (by decide) (by omega) (fun c1 => ?_) (fun c1 => ?_)
  · refine q_aload_n dX9_first_6 rfl rfl ?_
    refine q_mga 15 15 dX9_first_7 hM fl_X9_53 rfl ?_
    refine q_iload_n dX9_first_10 rfl ?_
    refine q_iconst (v := nI 1) dX9_first_11 (by decide) ?_
    refine q_isub dX9_first_12 (pk_sub (by omega)) ?_
    refine q_mld (k := 15) (v := nI (pl (r - 1))) dX9_first_13 hM (by decide) rfl (show _ < (11 : Nat) by omega) (congrArg nI (hpl (r - 1))) (fun b13 => ?_)
    refine q_aload_n dX9_first_14 rfl rfl ?_
    refine q_mga 7 7 dX9_first_15 hM fl_X9_29 rfl ?_
    refine q_iload_n dX9_first_18 rfl ?_
    refine q_iload_n dX9_first_19 rfl ?_
    refine q_iadd dX9_first_20 (nI_add _ _) ?_
    refine q_iconst (v := nI 1) dX9_first_21 (by decide) ?_
    refine q_isub dX9_first_22 (pk_sub (by omega)) ?_
    refine q_mld (k := 7) (v := nI (l (r - 1))) dX9_first_23 hM (by decide) rfl (show _ < (6000 : Nat) by omega) (congrArg nI (by rw [← hl, show u + (r - 1) = u + r - 1 by omega])) (fun b23 => ?_)
    refine q_iadd dX9_first_24 (nI_add _ _) ?_
    refine q_aload_n dX9_first_25 rfl rfl ?_
    refine q_mga 6 6 dX9_first_26 hM fl_X9_26 rfl ?_
    refine q_iload_n dX9_first_29 rfl ?_
    refine q_iload_n dX9_first_30 rfl ?_
    refine q_iadd dX9_first_31 (nI_add _ _) ?_
    refine q_mld (k := 6) (v := nI (c r)) dX9_first_32 hM (by decide) rfl (show _ < (6000 : Nat) by omega) (congrArg nI (hc r)) (fun b32 => ?_)
    refine q_aload_n dX9_first_33 rfl rfl ?_
    refine q_mga 6 6 dX9_first_34 hM fl_X9_26 rfl ?_
    refine q_iload_n dX9_first_37 rfl ?_
    refine q_iload_n dX9_first_38 rfl ?_
    refine q_iadd dX9_first_39 (nI_add _ _) ?_
    refine q_iconst (v := nI 1) dX9_first_40 (by decide) ?_
    refine q_isub dX9_first_41 (pk_sub (by omega)) ?_
    refine q_mld (k := 6) (v := nI (c (r - 1))) dX9_first_42 hM (by decide) rfl (show _ < (6000 : Nat) by omega) (congrArg nI (by rw [← hc, show u + (r - 1) = u + r - 1 by omega])) (fun b42 => ?_)
    refine n_icmp_ne (tgt := 50) dX9_first_43 (by decide) (by have := hc r; omega) (by have := hc (r - 1); rw [show u + (r - 1) = u + r - 1 by omega] at this; omega) (fun c43 => ?_) (fun c43 => ?_)
    · refine q_iconst (v := nI 0) dX9_first_50 (by decide) ?_
      refine q_iadd dX9_first_51 (nI_add _ _) ?_
      exact q_ireturn dX9_first_52 rfl rfl ⟨by rw [ln_fst, ln_e, ln_sp, if_neg c1, if_neg c1, if_neg c43], rfl, rfl⟩
    · refine q_iconst (v := nI 1) dX9_first_46 (by decide) ?_
      refine q_goto (tgt := 51) dX9_first_47 (by decide) ?_
      refine q_iadd dX9_first_51 (nI_add _ _) ?_
      exact q_ireturn dX9_first_52 rfl rfl ⟨by rw [ln_fst, ln_e, ln_sp, if_neg c1, if_neg c1, if_pos c43], rfl, rfl⟩
  · refine q_iconst (v := nI 0) dX9_first_4 (by decide) ?_
    exact q_ireturn dX9_first_5 rfl rfl ⟨by rw [c1]; rfl, rfl, rfl⟩

theorem md_st_up (A : md_A) (k : Nat) (f : Nat → Nat) (i v : Nat) : md_st (va_up A k f) k i v = va_up A k (va_up f i v) := by
  funext l j
  rw [md_st_at]
  unfold va_up
  by_cases h : l = k
  · subst h
    simp
  · simp [h]
theorem md_up_self (A : md_A) (k : Nat) : va_up A k (A k) = A := by
  funext l j
  unfold va_up
  split
  · next h => rw [h]
  · rfl
theorem md_fill_up (A : md_A) (k lo n v : Nat) : md_fill A k lo n v = va_up A k (fun j => if lo ≤ j ∧ j < lo + n then v else A k j) := rfl
theorem ln_S_mono (c l : Nat → Nat) (r : Nat) : ∀ k k', k ≤ k' → ln_S c l k r ≤ ln_S c l k' r := by
  intro k k' h
  obtain ⟨d, rfl⟩ := Nat.exists_eq_add_of_le h
  induction d with
  | zero => exact Nat.le_refl _
  | succ d ih => rw [← Nat.add_assoc, ln_S_snoc]; have := ih (by omega); omega

set_option maxHeartbeats 4000000 in
set_option maxRecDepth 100000 in
theorem l_X9_lays {T : q_T} {m : Nat} {G0 : q_G} {I : md_I} {A : md_A} {sz : Nat} {E : q_E} {u f n : Nat} {c l pl : Nat → Nat} (hu : u + 10 ≤ 6000) (hc : ∀ i, A 6 (u + i) = c i) (hl : ∀ i, A 7 (u + i) = l i) (hf : f ≤ n) (hn : n ≤ 10) (hb : ∀ k, k ≤ n - f → ln_e l pl f + ln_S c l k f ≤ 1000) (hx : ∀ G, Mod T m G0 I (va_up A 15 (ln_lay c l pl f (n - f))) G → q_R T mX9_lays 1 22 29 [some (.ref m), some (.int (nI u)), some (.int (nI f)), some (.int (nI n)), some (.int (nI (f + (n - f))))] [] G sz 0 0 E) : ∀ (k : Nat) (G : q_G), k ≤ n - f → Mod T m G0 I (va_up A 15 (ln_lay c l pl f k)) G → q_R T mX9_lays 1 22 3 [some (.ref m), some (.int (nI u)), some (.int (nI f)), some (.int (nI n)), some (.int (nI (f + k)))] [] G sz 0 0 E := by
  refine q_indN (fun k a => n - f - k) _ (fun k G ih => ?_)
  intro hk hM
  refine q_iload dX9_lays_3 rfl ?_
  refine q_iload_n dX9_lays_5 rfl ?_
  refine n_icmp_ge (tgt := 29) dX9_lays_6 (by decide) (by omega) (by omega) (fun c6 => ?_) (fun c6 => ?_)
  · obtain rfl : k = n - f := by omega
    exact hx G hM
  · refine q_aload_n dX9_lays_9 rfl rfl ?_
    refine q_mga 15 15 dX9_lays_10 hM fl_X9_53 rfl ?_
    refine q_iload dX9_lays_13 rfl ?_
    refine q_aload_n dX9_lays_15 rfl rfl ?_
    refine q_iload_n dX9_lays_16 rfl ?_
    refine q_iload dX9_lays_17 rfl ?_
    refine q_iv (As := [_, _]) dX9_lays_19 ml_X9_137 mt_X9_first mi_X9_first se_X9_first hM.1 rfl rfl (Nat.le_of_ble_eq_true rfl) (Nat.le_of_ble_eq_true rfl) (Nat.zero_le _) (Nat.zero_le _) (Nat.le_of_ble_eq_true rfl) (q_C.mono (c_X9_first (c := c) (l := l) (pl := ln_lay c l pl f k) hM hu hc hl (fun _ => rfl) (by omega)) (fun v G1 sz1 hq => ?_))
    obtain ⟨rfl, rfl, rfl⟩ := hq
    refine q_mst (k := 15) dX9_lays_22 hM (by decide) rfl (show _ < (11 : Nat) by omega) rfl (by have := ln_lay_e c l pl f k; have := hb k (by omega); have : ln_sp c (f + k) ≤ 1 := by { unfold ln_sp; split; omega; split <;> omega }; unfold ln_fst; omega) (fun G hM => ?_)
    refine s_iinc dX9_lays_23 rfl (s_inc1 _) (by decide) rfl ?_
    refine q_goto (tgt := 3) dX9_lays_26 (by decide) ?_
    exact ih (k + 1) G (by omega) (by omega) (by rw [md_st_up] at hM; exact hM)

set_option maxHeartbeats 4000000 in
set_option maxRecDepth 100000 in
theorem c_X9_lays {T : q_T} {m : Nat} {G0 G : q_G} {I : md_I} {A : md_A} {sz : Nat} (hM : Mod T m G0 I A G) {u f n : Nat} {c l pl : Nat → Nat} (hu : u + 10 ≤ 6000) (hc : ∀ i, A 6 (u + i) = c i) (hl : ∀ i, A 7 (u + i) = l i) (hpl : ∀ i, A 15 i = pl i) (hf : f ≤ n) (hn : n ≤ 10) (hb : ∀ k, k ≤ n - f → ln_e l pl f + ln_S c l k f ≤ 1000) : q_C T mX9_lays 1 22 0 0 [.ref m, .int (nI u), .int (nI f), .int (nI n)] G sz (fun v G' sz' => sz = sz' ∧ v = some (.int (nI (if ln_e l pl f + ln_S c l (n - f) f ≤ I 1 then 1 else 0))) ∧ Mod T m G0 I (va_up A 15 (ln_lay c l pl f (n - f))) G') := by
  refine q_C.of (by decide) rfl (by simp [Value.category]) (Nat.le_of_ble_eq_true rfl) ?_
  refine q_iload_n dX9_lays_0 rfl ?_
  refine s_istore dX9_lays_1 (by decide) rfl ?_
  refine l_X9_lays hu hc hl hf hn hb (fun G hM => ?_) 0 G (Nat.zero_le _) (by show Mod T m G0 I (va_up A 15 pl) G; rw [show pl = A 15 from funext (fun i => (hpl i).symm), md_up_self]; exact hM)
  refine q_iload_n dX9_lays_29 rfl ?_
  refine n_if_eq (tgt := 59) dX9_lays_30 (by decide) (by omega) (fun c30 => ?_) (fun c30 => ?_)
  · refine q_iconst (v := nI 1) dX9_lays_59 (by decide) ?_
    refine q_goto (tgt := 64) dX9_lays_60 (by decide) ?_
    exact q_ireturn dX9_lays_64 rfl (by decide +kernel) ⟨rfl, by rw [if_pos (by subst c30; have hf0 : f = 0 := (by omega); subst hf0; exact Nat.zero_le _)], hM⟩
  · refine q_aload_n dX9_lays_33 rfl rfl ?_
    refine q_mga 15 15 dX9_lays_34 hM fl_X9_53 rfl ?_
    refine q_iload_n dX9_lays_37 rfl ?_
    refine q_iconst (v := nI 1) dX9_lays_38 (by decide) ?_
    refine q_isub dX9_lays_39 (pk_sub (by omega)) ?_
    refine q_mld (k := 15) (v := nI (ln_lay c l pl f (n - f) (n - 1))) dX9_lays_40 hM (by decide) rfl (show _ < (11 : Nat) by omega) rfl (fun b40 => ?_)
    refine q_aload_n dX9_lays_41 rfl rfl ?_
    refine q_mga 7 7 dX9_lays_42 hM fl_X9_29 rfl ?_
    refine q_iload_n dX9_lays_45 rfl ?_
    refine q_iload_n dX9_lays_46 rfl ?_
    refine q_iadd dX9_lays_47 (nI_add _ _) ?_
    refine q_iconst (v := nI 1) dX9_lays_48 (by decide) ?_
    refine q_isub dX9_lays_49 (pk_sub (by omega)) ?_
    refine q_mld (k := 7) (v := nI (l (n - 1))) dX9_lays_50 hM (by decide) rfl (show _ < (6000 : Nat) by omega) (congrArg nI (by rw [← hl, show u + (n - 1) = u + n - 1 by omega]; rfl)) (fun b50 => ?_)
    refine q_iadd dX9_lays_51 (nI_add _ _) ?_
    refine q_aload_n dX9_lays_52 rfl rfl ?_
    refine q_mgi 1 dX9_lays_53 hM fl_X9_134 (by decide) (fun b53 => ?_)
    refine n_icmp_gt (tgt := 63) dX9_lays_56 (by decide) (by have := hb (n - f) (Nat.le_refl _); have h7 := ln_lay_e c l pl f (n - f); rw [show f + (n - f) = n by omega, ln_e, if_neg c30] at h7; omega) (by omega) (fun c56 => ?_) (fun c56 => ?_)
    · refine q_iconst (v := nI 0) dX9_lays_63 (by decide) ?_
      exact q_ireturn dX9_lays_64 rfl (by decide +kernel) ⟨rfl, by rw [if_neg (by rw [← ln_lay_e, show f + (n - f) = n by omega, ln_e, if_neg c30]; omega)], hM⟩
    · refine q_iconst (v := nI 1) dX9_lays_59 (by decide) ?_
      refine q_goto (tgt := 64) dX9_lays_60 (by decide) ?_
      exact q_ireturn dX9_lays_64 rfl (by decide +kernel) ⟨rfl, by rw [if_pos (by rw [← ln_lay_e, show f + (n - f) = n by omega, ln_e, if_neg c30]; omega)], hM⟩

/-- the colour of cell k when the first r runs lie at pl -/
def ln_fil (c l pl : Nat → Nat) : Nat → Nat → Nat
  | 0, _ => 0
  | r + 1, k => if pl r ≤ k ∧ k < pl r + l r then c r else ln_fil c l pl r k
theorem ln_fil_le {c l pl : Nat → Nat} {n b : Nat} (h : ∀ i, i < n → c i ≤ b) : ∀ r k, r ≤ n → ln_fil c l pl r k ≤ b := by
  intro r
  induction r with
  | zero => intro k _; exact Nat.zero_le _
  | succ r ih =>
    intro k hr
    show (if _ then _ else _) ≤ b
    split
    · exact h r (by omega)
    · exact ih k (by omega)
theorem ln_tb (a b : Nat) : a >>> b &&& 1 = if a.testBit b then 1 else 0 := by
  have h : a.testBit b = (1 &&& (a >>> b) != 0) := rfl
  rw [h, Nat.and_comm]
  have h2 : (a >>> b) &&& 1 = (a >>> b) % 2 := Nat.and_one_is_mod _
  rw [Nat.and_comm, h2]
  rcases Nat.mod_two_eq_zero_or_one (a >>> b) with h3 | h3 <;> rw [h3] <;> rfl
/-- the filling, on the first L cells of the array -/
def ln_F (c l pl : Nat → Nat) (L : Nat) (f0 : Nat → Nat) (r : Nat) : Nat → Nat := fun j => if j < L then ln_fil c l pl r j else f0 j
def ln_Fk (c l pl : Nat → Nat) (L : Nat) (f0 : Nat → Nat) (r k : Nat) : Nat → Nat := fun j => if pl r ≤ j ∧ j < pl r + k then c r else ln_F c l pl L f0 r j
theorem ln_Fk_0 (c l pl : Nat → Nat) (L : Nat) (f0 : Nat → Nat) (r : Nat) : ln_Fk c l pl L f0 r 0 = ln_F c l pl L f0 r := by
  funext j
  exact if_neg (by omega)
theorem ln_Fk_s (c l pl : Nat → Nat) (L : Nat) (f0 : Nat → Nat) (r k : Nat) : va_up (ln_Fk c l pl L f0 r k) (pl r + k) (c r) = ln_Fk c l pl L f0 r (k + 1) := by
  funext j
  unfold va_up ln_Fk
  by_cases h : j = pl r + k
  · rw [if_pos h, if_pos (by omega)]
  · rw [if_neg h]
    by_cases h2 : pl r ≤ j ∧ j < pl r + k
    · rw [if_pos h2, if_pos (by omega)]
    · rw [if_neg h2, if_neg (by omega)]
theorem ln_Fk_l (c l pl : Nat → Nat) (L : Nat) (f0 : Nat → Nat) (r : Nat) (h : pl r + l r ≤ L) : ln_Fk c l pl L f0 r (l r) = ln_F c l pl L f0 (r + 1) := by
  funext j
  unfold ln_Fk ln_F
  by_cases h1 : pl r ≤ j ∧ j < pl r + l r
  · rw [if_pos h1, if_pos (by omega)]
    exact (if_pos h1).symm
  · rw [if_neg h1]
    by_cases h2 : j < L
    · rw [if_pos h2, if_pos h2]
      exact (if_neg h1).symm
    · rw [if_neg h2, if_neg h2]
theorem ln_F_0 (c l pl : Nat → Nat) (L : Nat) (A : md_A) : md_fill A 14 0 L 0 = va_up A 14 (ln_F c l pl L (A 14) 0) := by
  unfold md_fill
  congr 1
  funext j
  unfold ln_F
  by_cases h : j < L
  · rw [if_pos (by omega), if_pos h]; rfl
  · rw [if_neg (by omega), if_neg h]
/-- all of the first L cells may be as they are filled -/
def ln_fits (may : Nat → Nat) (L : Nat) (f : Nat → Nat) : Bool := decide (∀ k, k < L → (may k).testBit (f k) = true)

set_option maxHeartbeats 4000000 in
set_option maxRecDepth 100000 in
theorem l_X9_fits3 {T : q_T} {m : Nat} {G0 : q_G} {I : md_I} {A : md_A} {sz : Nat} {E : q_E} {u n : Nat} {c l pl : Nat → Nat} (hu : u + 10 ≤ 6000) (hc : ∀ i, A 6 (u + i) = c i) (hl : ∀ i, A 7 (u + i) = l i) (hpl : ∀ i, A 15 i = pl i) (hn : n ≤ 10) (hL : I 1 ≤ 10) (hv : ∀ i, i < n → pl i + l i ≤ I 1) (hcc : ∀ i, i < n → c i ≤ 3) (hmay : ∀ k, k < I 1 → A 12 k < 16) (hx : ∀ G, Mod T m G0 I (va_up A 14 (ln_F c l pl (I 1) (A 14) n)) G → ∀ x : Nat, (∀ k, k < I 1 → (A 12 k).testBit (ln_fil c l pl n k) = true) → E (some (.int (nI 1))) G sz) (hx0 : ∀ G, Mod T m G0 I (va_up A 14 (ln_F c l pl (I 1) (A 14) n)) G → ∀ k, k < I 1 → (A 12 k).testBit (ln_fil c l pl n k) = false → E (some (.int (nI 0))) G sz) : ∀ (k : Nat) (G : q_G), ∀ x4 : Option Value, k ≤ I 1 → (∀ i, i < k → (A 12 i).testBit (ln_fil c l pl n i) = true) → Mod T m G0 I (va_up A 14 (ln_F c l pl (I 1) (A 14) n)) G → q_R T mX9_fits 0 0 82 [some (.ref m), some (.int (nI u)), some (.int (nI n)), some (.int (nI k)), x4] [] G sz 0 0 E := by
  refine q_indN (fun k a => I 1 - k) _ (fun k G ih => ?_)
  intro x4 hk hok hM
  refine q_iload_n dX9_fits_82 rfl ?_
  refine q_aload_n dX9_fits_83 rfl rfl ?_
  refine q_mgi 1 dX9_fits_84 hM fl_X9_134 (by decide) (fun b84 => ?_)
  refine n_icmp_ge (tgt := 116) dX9_fits_87 (by decide) (by omega) (by omega) (fun c87 => ?_) (fun c87 => ?_)
  · refine q_iconst (v := nI 1) dX9_fits_116 (by decide) ?_
    exact q_ireturn dX9_fits_117 rfl (by decide +kernel) (hx G hM 1 (fun i hi => hok i (by omega)))
  · refine q_aload_n dX9_fits_90 rfl rfl ?_
    refine q_mga 12 12 dX9_fits_91 hM fl_X9_44 rfl ?_
    refine q_iload_n dX9_fits_94 rfl ?_
    refine q_mld (k := 12) (v := nI (A 12 k)) dX9_fits_95 hM (by decide) rfl (show _ < (10 : Nat) by omega) rfl (fun b95 => ?_)
    refine q_aload_n dX9_fits_96 rfl rfl ?_
    refine q_mga 14 14 dX9_fits_97 hM fl_X9_50 rfl ?_
    refine q_iload_n dX9_fits_100 rfl ?_
    refine q_mld (k := 14) (v := nI (ln_fil c l pl n k)) dX9_fits_101 hM (by decide) rfl (show _ < (10 : Nat) by omega) (congrArg nI (if_pos c87)) (fun b101 => ?_)
    refine q_ishr dX9_fits_102 (n_shr (by have := hmay k c87; omega) (by have := ln_fil_le (pl := pl) (l := l) hcc n k (Nat.le_refl _); omega)) ?_
    refine q_iconst (v := nI 1) dX9_fits_103 (by decide) ?_
    refine q_iand dX9_fits_104 (n_and _ _) ?_
    refine n_if_ne (tgt := 110) dX9_fits_105 (by decide) (Nat.lt_of_le_of_lt Nat.and_le_right (by decide)) (fun c105 => ?_) (fun c105 => ?_)
    · refine s_iinc dX9_fits_110 rfl (s_inc1 _) (by decide) rfl ?_
      refine q_goto (tgt := 82) dX9_fits_113 (by decide) ?_
      exact ih (k + 1) G (by omega) _ (by omega) (fun i hi => by rcases Nat.lt_or_ge i k with h | h; exact hok i h; rw [show i = k by omega]; rw [ln_tb] at c105; cases h9 : (A 12 k).testBit (ln_fil c l pl n k) <;> simp_all) hM
    · refine q_iconst (v := nI 0) dX9_fits_108 (by decide) ?_
      exact q_ireturn dX9_fits_109 rfl (by decide +kernel) (hx0 G hM k c87 (by rw [ln_tb] at c105; cases h9 : (A 12 k).testBit (ln_fil c l pl n k) <;> simp_all))

set_option maxHeartbeats 4000000 in
set_option maxRecDepth 100000 in
theorem l_X9_fits2b {T : q_T} {m : Nat} {G0 : q_G} {I : md_I} {A : md_A} {sz : Nat} {E : q_E} {u n : Nat} {c l pl : Nat → Nat} (hu : u + 10 ≤ 6000) (hc : ∀ i, A 6 (u + i) = c i) (hl : ∀ i, A 7 (u + i) = l i) (hpl : ∀ i, A 15 i = pl i) (hn : n ≤ 10) (hL : I 1 ≤ 10) (hv : ∀ i, i < n → pl i + l i ≤ I 1) (hcc : ∀ i, i < n → c i ≤ 3) (hmay : ∀ k, k < I 1 → A 12 k < 16) {r : Nat} (hr : r < n) (hx : ∀ G, Mod T m G0 I (va_up A 14 (ln_F c l pl (I 1) (A 14) (r + 1))) G → q_R T mX9_fits 0 0 74 [some (.ref m), some (.int (nI u)), some (.int (nI n)), some (.int (nI r)), some (.int (nI (l r)))] [] G sz 0 0 E) : ∀ (k : Nat) (G : q_G), k ≤ l r → Mod T m G0 I (va_up A 14 (ln_Fk c l pl (I 1) (A 14) r k)) G → q_R T mX9_fits 0 0 33 [some (.ref m), some (.int (nI u)), some (.int (nI n)), some (.int (nI r)), some (.int (nI k))] [] G sz 0 0 E := by
  refine q_indN (fun k a => l r - k) _ (fun k G ih => ?_)
  intro hk hM
  refine q_iload dX9_fits_33 rfl ?_
  refine q_aload_n dX9_fits_35 rfl rfl ?_
  refine q_mga 7 7 dX9_fits_36 hM fl_X9_29 rfl ?_
  refine q_iload_n dX9_fits_39 rfl ?_
  refine q_iload_n dX9_fits_40 rfl ?_
  refine q_iadd dX9_fits_41 (nI_add _ _) ?_
  refine q_mld (k := 7) (v := nI (l r)) dX9_fits_42 hM (by decide) rfl (show _ < (6000 : Nat) by omega) (congrArg nI (hl r)) (fun b42 => ?_)
  refine n_icmp_ge (tgt := 74) dX9_fits_43 (by decide) (by have := hv r hr; omega) (by have := hv r hr; omega) (fun c43 => ?_) (fun c43 => ?_)
  · obtain rfl : k = l r := by omega
    exact hx G (by rw [ln_Fk_l _ _ _ _ _ _ (hv r hr)] at hM; exact hM)
  · refine q_aload_n dX9_fits_46 rfl rfl ?_
    refine q_mga 14 14 dX9_fits_47 hM fl_X9_50 rfl ?_
    refine q_aload_n dX9_fits_50 rfl rfl ?_
    refine q_mga 15 15 dX9_fits_51 hM fl_X9_53 rfl ?_
    refine q_iload_n dX9_fits_54 rfl ?_
    refine q_mld (k := 15) (v := nI (pl r)) dX9_fits_55 hM (by decide) rfl (show _ < (11 : Nat) by omega) (congrArg nI (hpl r)) (fun b55 => ?_)
    refine q_iload dX9_fits_56 rfl ?_
    refine q_iadd dX9_fits_58 (nI_add _ _) ?_
    refine q_aload_n dX9_fits_59 rfl rfl ?_
    refine q_mga 6 6 dX9_fits_60 hM fl_X9_26 rfl ?_
    refine q_iload_n dX9_fits_63 rfl ?_
    refine q_iload_n dX9_fits_64 rfl ?_
    refine q_iadd dX9_fits_65 (nI_add _ _) ?_
    refine q_mld (k := 6) (v := nI (c r)) dX9_fits_66 hM (by decide) rfl (show _ < (6000 : Nat) by omega) (congrArg nI (hc r)) (fun b66 => ?_)
    refine q_mst (k := 14) dX9_fits_67 hM (by decide) rfl (show _ < (10 : Nat) by (have := hv r hr; omega)) rfl (by have := hcc r hr; omega) (fun G hM => ?_)
    refine s_iinc dX9_fits_68 rfl (s_inc1 _) (by decide) rfl ?_
    refine q_goto (tgt := 33) dX9_fits_71 (by decide) ?_
    exact ih (k + 1) G (by omega) (by omega) (by rw [md_st_up, ln_Fk_s] at hM; exact hM)

set_option maxHeartbeats 4000000 in
set_option maxRecDepth 100000 in
theorem l_X9_fits2 {T : q_T} {m : Nat} {G0 : q_G} {I : md_I} {A : md_A} {sz : Nat} {E : q_E} {u n : Nat} {c l pl : Nat → Nat} (hu : u + 10 ≤ 6000) (hc : ∀ i, A 6 (u + i) = c i) (hl : ∀ i, A 7 (u + i) = l i) (hpl : ∀ i, A 15 i = pl i) (hn : n ≤ 10) (hL : I 1 ≤ 10) (hv : ∀ i, i < n → pl i + l i ≤ I 1) (hcc : ∀ i, i < n → c i ≤ 3) (hmay : ∀ k, k < I 1 → A 12 k < 16) (hx : ∀ (G : q_G) (x4 : Option Value), Mod T m G0 I (va_up A 14 (ln_F c l pl (I 1) (A 14) n)) G → q_R T mX9_fits 0 0 80 [some (.ref m), some (.int (nI u)), some (.int (nI n)), some (.int (nI n)), x4] [] G sz 0 0 E) : ∀ (r : Nat) (G : q_G), ∀ x4 : Option Value, r ≤ n → Mod T m G0 I (va_up A 14 (ln_F c l pl (I 1) (A 14) r)) G → q_R T mX9_fits 0 0 25 [some (.ref m), some (.int (nI u)), some (.int (nI n)), some (.int (nI r)), x4] [] G sz 0 0 E := by
  refine q_indN (fun r a => n - r) _ (fun r G ih => ?_)
  intro x4 hr hM
  refine q_iload_n dX9_fits_25 rfl ?_
  refine q_iload_n dX9_fits_26 rfl ?_
  refine n_icmp_ge (tgt := 80) dX9_fits_27 (by decide) (by omega) (by omega) (fun c27 => ?_) (fun c27 => ?_)
  · obtain rfl : r = n := by omega
    exact hx G _ hM
  · refine q_iconst (v := nI 0) dX9_fits_30 (by decide) ?_
    refine s_istore dX9_fits_31 (by decide) rfl ?_
    refine l_X9_fits2b hu hc hl hpl hn hL hv hcc hmay c27 (fun G hM => ?_) 0 G (Nat.zero_le _) (by rw [ln_Fk_0]; exact hM)
    refine s_iinc dX9_fits_74 rfl (s_inc1 _) (by decide) rfl ?_
    refine q_goto (tgt := 25) dX9_fits_77 (by decide) ?_
    exact ih (r + 1) G (by omega) _ (by omega) hM

set_option maxHeartbeats 4000000 in
set_option maxRecDepth 100000 in
theorem l_X9_fits1 {T : q_T} {m : Nat} {G0 : q_G} {I : md_I} {A : md_A} {sz : Nat} {E : q_E} {u n : Nat} (hL : I 1 ≤ 10) (hx : ∀ G, Mod T m G0 I (md_fill A 14 0 (I 1) 0) G → q_R T mX9_fits 0 0 23 [some (.ref m), some (.int (nI u)), some (.int (nI n)), some (.int (nI (I 1))), none] [] G sz 0 0 E) : ∀ (k : Nat) (G : q_G), k ≤ I 1 → Mod T m G0 I (md_fill A 14 0 k 0) G → q_R T mX9_fits 0 0 2 [some (.ref m), some (.int (nI u)), some (.int (nI n)), some (.int (nI k)), none] [] G sz 0 0 E := by
  refine q_indN (fun k a => I 1 - k) _ (fun k G ih => ?_)
  intro hk hM
  refine q_iload_n dX9_fits_2 rfl ?_
  refine q_aload_n dX9_fits_3 rfl rfl ?_
  refine q_mgi 1 dX9_fits_4 hM fl_X9_134 (by decide) (fun b4 => ?_)
  refine n_icmp_ge (tgt := 23) dX9_fits_7 (by decide) (by omega) (by omega) (fun c7 => ?_) (fun c7 => ?_)
  · obtain rfl : k = I 1 := by omega
    exact hx G hM
  · refine q_aload_n dX9_fits_10 rfl rfl ?_
    refine q_mga 14 14 dX9_fits_11 hM fl_X9_50 rfl ?_
    refine q_iload_n dX9_fits_14 rfl ?_
    refine q_iconst (v := nI 0) dX9_fits_15 (by decide) ?_
    refine q_mst (k := 14) dX9_fits_16 hM (by decide) rfl (show _ < (10 : Nat) by omega) rfl (by omega) (fun G hM => ?_)
    refine s_iinc dX9_fits_17 rfl (s_inc1 _) (by decide) rfl ?_
    refine q_goto (tgt := 2) dX9_fits_20 (by decide) ?_
    exact ih (k + 1) G (by omega) (by omega) (by rw [← md_fill_s, Nat.zero_add]; exact hM)

set_option maxHeartbeats 4000000 in
set_option maxRecDepth 100000 in
theorem c_X9_fits {T : q_T} {m : Nat} {G0 G : q_G} {I : md_I} {A : md_A} {sz : Nat} (hM : Mod T m G0 I A G) {u n : Nat} {c l pl : Nat → Nat} (hu : u + 10 ≤ 6000) (hc : ∀ i, A 6 (u + i) = c i) (hl : ∀ i, A 7 (u + i) = l i) (hpl : ∀ i, A 15 i = pl i) (hn : n ≤ 10) (hL : I 1 ≤ 10) (hv : ∀ i, i < n → pl i + l i ≤ I 1) (hcc : ∀ i, i < n → c i ≤ 3) (hmay : ∀ k, k < I 1 → A 12 k < 16) : q_C T mX9_fits 0 0 0 0 [.ref m, .int (nI u), .int (nI n)] G sz (fun v G' sz' => sz = sz' ∧ v = some (.int (nI (if ln_fits (A 12) (I 1) (ln_fil c l pl n) = true then 1 else 0))) ∧ Mod T m G0 I (va_up A 14 (ln_F c l pl (I 1) (A 14) n)) G') := by
  refine q_C.of (by decide) rfl (by simp [Value.category]) (Nat.le_of_ble_eq_true rfl) ?_
  refine q_iconst (v := nI 0) dX9_fits_0 (by decide) ?_
  refine s_istore_n dX9_fits_1 (by decide) rfl ?_
  refine l_X9_fits1 hL (fun G hM => ?_) 0 G (Nat.zero_le _) (by rw [md_fill_0]; exact hM)
  rw [ln_F_0 c l pl] at hM
  refine q_iconst (v := nI 0) dX9_fits_23 (by decide) ?_
  refine s_istore_n dX9_fits_24 (by decide) rfl ?_
  refine l_X9_fits2 hu hc hl hpl hn hL hv hcc hmay (fun G x4 hM => ?_) 0 G _ (Nat.zero_le _) hM
  refine q_iconst (v := nI 0) dX9_fits_80 (by decide) ?_
  refine s_istore_n dX9_fits_81 (by decide) rfl ?_
  refine l_X9_fits3 hu hc hl hpl hn hL hv hcc hmay (fun G hM _ hok => ?_) (fun G hM k hk hno => ?_) 0 G _ (Nat.zero_le _) (fun i hi => by omega) hM
  · exact ⟨rfl, by rw [ln_fits, decide_eq_true hok]; rfl, hM⟩
  · exact ⟨rfl, by rw [ln_fits, decide_eq_false (fun h => by rw [h k hk] at hno; cases hno)]; rfl, hM⟩
