/-- a game's marks as sets -/
def gm_S (A : md_A) (g x : Nat) : Nat := if A 20 (100 * g + x) = 0 then 1 <<< (A 3 (A 19 g) + 1) - 1 else 1 <<< (A 20 (100 * g + x) - 1)
theorem gm_S_lt {t : Nat} {I : md_I} {A : md_A} (hI : Inv t I A) {g : Nat} (hg : g < I 7) : Ps A (A 19 g) (gm_S A g) := by
  intro x hx
  have h := hI.2.2.2.2.2.1 g hg
  have hz := (hI.2.1 _ h.1).1.2.2.2.1
  have hm := h.2.2.2.2.2.1 x hx
  unfold gm_S
  split
  · have := ln_full16 hz.2; have : 0 < 1 <<< (A 3 (A 19 g) + 1) := by rw [Nat.one_shiftLeft]; exact Nat.two_pow_pos _
    omega
  · have := ln_bit16 (a := 0) (v := A 20 (100 * g + x) - 1) (by decide) (by omega)
    rw [Nat.zero_or] at this
    exact this
theorem gm_S_pos (A : md_A) (g x : Nat) : 1 ≤ gm_S A g x := by
  unfold gm_S
  split
  · rw [Nat.one_shiftLeft]
    have : 2 ^ 1 ≤ 2 ^ (A 3 (A 19 g) + 1) := Nat.pow_le_pow_right (by decide) (by omega)
    omega
  · rw [Nat.one_shiftLeft]; exact Nat.two_pow_pos _
def gm_marked (A : md_A) (g : Nat) : Nat := ln_sum (fun c => if A 20 (100 * g + c) = 0 then 0 else 1) 0 (A 1 (A 19 g) * A 2 (A 19 g))
def gm_broken (A : md_A) (g : Nat) : Nat := ln_sum (fun l => if pz_W A (A 19 g) l (gm_S A g) = 0 then 1 else 0) 0 (A 1 (A 19 g) + A 2 (A 19 g))
def D_state (I : md_I) (A : md_A) (x y z : Int32) : Prop := (∃ g, g < I 7 ∧ x = nI g ∧ ((y = nI 0 ∧ z = nI (A 19 g)) ∨ (y = nI 1 ∧ z = nI (gm_marked A g)) ∨ (y = nI 2 ∧ z = nI (gm_broken A g)) ∨ (y = nI 3 ∧ z = if gm_marked A g = A 1 (A 19 g) * A 2 (A 19 g) ∧ gm_broken A g = 0 then nI 1 else nI 0) ∨ (y = nI 4 ∧ z = nI (A 21 g)) ∨ (y = nI 5 ∧ z = nI (A 22 g - A 21 g)) ∨ (y = nI 6 ∧ z = nI (A 23 g)) ∨ (¬ (∃ k, k ≤ 6 ∧ y = nI k) ∧ z = -1))) ∨ (¬ (∃ g, g < I 7 ∧ x = nI g) ∧ z = -1)
/-- a cell without a mark to which a step leaves one alone -/
def gm_hit (A : md_A) (g l k : Nat) : Prop := A 20 (100 * g + pz_cell A (A 19 g) l k) = 0 ∧ pz_K A (A 19 g) l (gm_S A g) k &&& (pz_K A (A 19 g) l (gm_S A g) k - 1) = 0
def gm_clean (A : md_A) (g l : Nat) : Prop := 0 < pz_W A (A 19 g) l (gm_S A g) ∧ ∀ k, k < pz_L A (A 19 g) l → ¬ gm_hit A g l k
def D_hint (I : md_I) (A : md_A) (x z : Int32) (I2 : md_I) (A2 : md_A) : Prop := I2 = I ∧ ((∃ g, g < I 7 ∧ x = nI g ∧ ((∃ l, l < A 1 (A 19 g) + A 2 (A 19 g) ∧ (∀ i, i < l → gm_clean A g i) ∧ pz_W A (A 19 g) l (gm_S A g) = 0 ∧ z = -2 - nI l ∧ A2 = md_st A 23 g (A 23 g + 1)) ∨ (∃ l k, l < A 1 (A 19 g) + A 2 (A 19 g) ∧ (∀ i, i < l → gm_clean A g i) ∧ 0 < pz_W A (A 19 g) l (gm_S A g) ∧ k < pz_L A (A 19 g) l ∧ (∀ i, i < k → ¬ gm_hit A g l i) ∧ gm_hit A g l k ∧ z = nI (4 * pz_cell A (A 19 g) l k + pz_log (pz_K A (A 19 g) l (gm_S A g) k)) ∧ A2 = md_st A 23 g (A 23 g + 1)) ∨ ((∀ i, i < A 1 (A 19 g) + A 2 (A 19 g) → gm_clean A g i) ∧ z = -1 ∧ A2 = A))) ∨ (¬ (∃ g, g < I 7 ∧ x = nI g) ∧ z = -1 ∧ A2 = A))

set_option maxHeartbeats 4000000 in
set_option maxRecDepth 100000 in
theorem l_X9_marksAsSets {T : q_T} {m : Nat} {G0 : q_G} {I : md_I} {A : md_A} {sz t : Nat} {E : q_E} {g : Nat} (hI : Inv t I A) (hg : g < I 7) (hx : ∀ (G : q_G) (x4 : Option Value), Mod T m G0 I (md_cp A 10 0 (gm_S A g) (A 1 (A 19 g) * A 2 (A 19 g))) G → q_R T mX9_marksAsSets 1 21 61 [some (.ref m), some (.int (nI g)), some (.int (nI (A 19 g))), some (.int (nI (A 1 (A 19 g) * A 2 (A 19 g)))), x4] [] G sz 0 0 E) : ∀ (c : Nat) (G : q_G), ∀ x4 : Option Value, c ≤ A 1 (A 19 g) * A 2 (A 19 g) → Mod T m G0 I (md_cp A 10 0 (gm_S A g) c) G → q_R T mX9_marksAsSets 1 21 9 [some (.ref m), some (.int (nI g)), some (.int (nI (A 19 g))), some (.int (nI c)), x4] [] G sz 0 0 E := by
  refine q_indN (fun c a => A 1 (A 19 g) * A 2 (A 19 g) - c) _ (fun c G ih => ?_)
  intro x4 hc2 hM
  have hg20 := hI.2.2.2.2.1
  have hgg := hI.2.2.2.2.2.1 g hg
  have hp30 := hI.1
  have hzg := (hI.2.1 _ hgg.1).1
  have hsg := pz_size hzg
  have hz3 := hzg.2.2.2.1
  refine q_iload_n dX9_marksAsSets_9 rfl ?_
  refine q_aload_n dX9_marksAsSets_10 rfl rfl ?_
  refine q_iload_n dX9_marksAsSets_11 rfl ?_
  refine q_iv (As := [_]) dX9_marksAsSets_12 ml_X9_108 mt_X9_sizeOf mi_X9_sizeOf se_X9_sizeOf hM.1 rfl rfl (Nat.le_of_ble_eq_true rfl) (Nat.le_of_ble_eq_true rfl) (Nat.zero_le _) (Nat.zero_le _) (Nat.le_of_ble_eq_true rfl) (q_C.mono (c_X9_sizeOf (w := A 1 (A 19 g)) (h := A 2 (A 19 g)) hM (by omega) rfl rfl) (fun v G1 sz1 hq => ?_))
  obtain ⟨rfl, rfl, rfl⟩ := hq
  refine n_icmp_ge (tgt := 61) dX9_marksAsSets_15 (by decide) (by omega) (by omega) (fun c15 => ?_) (fun c15 => ?_)
  · obtain rfl : c = A 1 (A 19 g) * A 2 (A 19 g) := by omega
    exact hx G _ hM
  · refine q_aload_n dX9_marksAsSets_18 rfl rfl ?_
    refine q_mga 27 20 dX9_marksAsSets_19 hM fl_X9_68 rfl ?_
    refine q_bipush (v := nI 100) dX9_marksAsSets_22 (by decide) ?_
    refine q_iload_n dX9_marksAsSets_24 rfl ?_
    refine q_imul dX9_marksAsSets_25 (pk_mul _ _) ?_
    refine q_iload_n dX9_marksAsSets_26 rfl ?_
    refine q_iadd dX9_marksAsSets_27 (nI_add _ _) ?_
    refine q_mld (k := 20) (v := nI (A 20 (100 * g + c)) - 1) dX9_marksAsSets_28 hM (by decide) rfl (show _ < (2000 : Nat) by omega) rfl (fun b28 => ?_)
    refine s_istore dX9_marksAsSets_29 (by decide) rfl ?_
    refine q_aload_n dX9_marksAsSets_31 rfl rfl ?_
    refine q_mga 10 10 dX9_marksAsSets_32 hM fl_X9_38 rfl ?_
    refine q_iload_n dX9_marksAsSets_35 rfl ?_
    refine q_iload dX9_marksAsSets_36 rfl ?_
    refine q_iconst (v := -1) dX9_marksAsSets_38 (by decide) ?_
    refine q_icmp_ne (tgt := 50) dX9_marksAsSets_39 (by decide) (fun c39 => ?_) (fun c39 => ?_)
    · have hmk := hgg.2.2.2.2.2.1 c c15
      have h0 : ¬ A 20 (100 * g + c) = 0 := fun e => c39 ((nI_m1eq (b := 0) (by omega) (by decide)).mpr e)
      rw [show nI (A 20 (100 * g + c)) - 1 = nI (A 20 (100 * g + c) - 1) from pk_sub (b := 1) (by omega)]
      refine q_iconst (v := nI 1) dX9_marksAsSets_50 (by decide) ?_
      refine q_iload dX9_marksAsSets_51 rfl ?_
      refine q_ishl dX9_marksAsSets_53 (n_shl (by omega) rfl) ?_
      refine q_mst (k := 10) (v := gm_S A g c) dX9_marksAsSets_54 hM (by decide) rfl (show _ < (10400 : Nat) by omega) (congrArg nI (if_neg h0).symm) (by have := gm_S_lt hI hg c c15; omega) (fun G hM => ?_)
      refine s_iinc dX9_marksAsSets_55 rfl (s_inc1 _) (by decide) rfl ?_
      refine q_goto (tgt := 9) dX9_marksAsSets_58 (by decide) ?_
      exact ih (c + 1) G (by omega) _ (by omega) (by rw [← md_cp_s, Nat.zero_add]; exact hM)
    · have h0 : A 20 (100 * g + c) = 0 := (nI_m1eq (b := 0) (by have := hgg.2.2.2.2.2.1 c c15; omega) (by decide)).mp c39
      refine q_aload_n dX9_marksAsSets_42 rfl rfl ?_
      refine q_iload_n dX9_marksAsSets_43 rfl ?_
      refine q_iv (As := [_]) dX9_marksAsSets_44 ml_X9_114 mt_X9_full mi_X9_full se_X9_full hM.1 rfl rfl (Nat.le_of_ble_eq_true rfl) (Nat.le_of_ble_eq_true rfl) (Nat.zero_le _) (Nat.zero_le _) (Nat.le_of_ble_eq_true rfl) (q_C.mono (c_X9_full (n := A 3 (A 19 g)) hM (by omega) rfl (by omega)) (fun v G1 sz1 hq => ?_))
      obtain ⟨rfl, rfl, rfl⟩ := hq
      refine q_goto (tgt := 54) dX9_marksAsSets_47 (by decide) ?_
      refine q_mst (k := 10) (v := gm_S A g c) dX9_marksAsSets_54 hM (by decide) rfl (show _ < (10400 : Nat) by omega) (congrArg nI (if_pos h0).symm) (by have := gm_S_lt hI hg c c15; omega) (fun G hM => ?_)
      refine s_iinc dX9_marksAsSets_55 rfl (s_inc1 _) (by decide) rfl ?_
      refine q_goto (tgt := 9) dX9_marksAsSets_58 (by decide) ?_
      exact ih (c + 1) G (by omega) _ (by omega) (by rw [← md_cp_s, Nat.zero_add]; exact hM)

set_option maxHeartbeats 4000000 in
set_option maxRecDepth 100000 in
theorem c_X9_marksAsSets {T : q_T} {m : Nat} {G0 G : q_G} {I : md_I} {A : md_A} {sz t : Nat} (hM : Mod T m G0 I A G) (hI : Inv t I A) {g : Nat} (hg : g < I 7) : q_C T mX9_marksAsSets 1 21 0 0 [.ref m, .int (nI g)] G sz (fun v G' sz' => sz = sz' ∧ v = none ∧ Mod T m G0 I (md_cp A 10 0 (gm_S A g) (A 1 (A 19 g) * A 2 (A 19 g))) G') := by
  refine q_C.of (by decide) rfl (by simp [Value.category]) (Nat.le_of_ble_eq_true rfl) ?_
  have hg20 := hI.2.2.2.2.1
  refine q_aload_n dX9_marksAsSets_0 rfl rfl ?_
  refine q_mga 26 19 dX9_marksAsSets_1 hM fl_X9_65 rfl ?_
  refine q_iload_n dX9_marksAsSets_4 rfl ?_
  refine q_mld (k := 19) (v := nI (A 19 g)) dX9_marksAsSets_5 hM (by decide) rfl (show _ < (20 : Nat) by omega) rfl (fun b5 => ?_)
  refine s_istore_n dX9_marksAsSets_6 (by decide) rfl ?_
  refine q_iconst (v := nI 0) dX9_marksAsSets_7 (by decide) ?_
  refine s_istore_n dX9_marksAsSets_8 (by decide) rfl ?_
  refine l_X9_marksAsSets hI hg (fun G x4 hM => ?_) 0 G _ (Nat.zero_le _) (by rw [md_cp_0]; exact hM)
  exact q_return dX9_marksAsSets_61 rfl ⟨rfl, rfl, hM⟩
