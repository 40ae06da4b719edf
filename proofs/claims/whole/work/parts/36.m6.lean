theorem ln_sum_pow {f : Nat → Nat} {L : Nat} : ∀ m lo, lo + m = L + 1 → (∀ x, lo ≤ x → x < L → f x ≤ 2 ^ (L - (x + 1))) → f L = 0 → ln_sum f lo m ≤ 2 ^ (L - lo) - 1 := by
  intro m
  induction m with
  | zero => intro lo _ _ _; exact Nat.zero_le _
  | succ m ih =>
    intro lo hm h h0
    show f lo + ln_sum f (lo + 1) m ≤ _
    by_cases hl : lo = L
    · subst hl
      obtain rfl : m = 0 := by omega
      show f lo + 0 ≤ _
      omega
    · have h1 := ih (lo + 1) (by omega) (fun x a b => h x (by omega) b) h0
      have h2 := h lo (Nat.le_refl _) (by omega)
      have h3 : 2 ^ (L - lo) = 2 * 2 ^ (L - (lo + 1)) := by
        rw [show L - lo = (L - (lo + 1)) + 1 by omega, Nat.pow_succ, Nat.mul_comm]
      have h4 : 0 < 2 ^ (L - (lo + 1)) := Nat.two_pow_pos _
      omega
theorem ln_N_le {c l : Nat → Nat} {L n : Nat} {P : (Nat → Nat) → Bool} (hE : ∀ pl, P pl = true → ln_e l pl n ≤ L) (hl : ∀ i, i < n → 1 ≤ l i) : ∀ (k r : Nat) (pl : Nat → Nat), n = r + k → ln_N c l L P k r pl ≤ 2 ^ (L - ln_e l pl r) := by
  intro k
  induction k with
  | zero =>
    intro r pl hn
    show (if P pl = true then 1 else 0) ≤ _
    have := Nat.two_pow_pos (L - ln_e l pl r)
    split <;> omega
  | succ k ih =>
    intro r pl hn
    have hp := Nat.two_pow_pos (L - ln_e l pl r)
    by_cases hf : ln_fst c l pl r ≤ L
    · have h1 : ln_sum (fun x => ln_N c l L P k (r + 1) (va_up pl r x)) (ln_fst c l pl r) (L + 1 - ln_fst c l pl r) ≤ 2 ^ (L - ln_fst c l pl r) - 1 := by
        refine ln_sum_pow _ _ (by omega) (fun x a b => ?_) ?_
        · have h2 := ih (r + 1) (va_up pl r x) (by omega)
          have h3 : ln_e l (va_up pl r x) (r + 1) = x + l r := by simp [ln_e, va_up]
          rw [h3] at h2
          exact Nat.le_trans h2 (Nat.pow_le_pow_right (by decide) (by have := hl r (by omega); omega))
        · by_cases h4 : ln_N c l L P k (r + 1) (va_up pl r L) = 0
          · exact h4
          · have h5 := ln_N_zero (c := c) hE k (r + 1) _ (by omega) h4
            have h3 : ln_e l (va_up pl r L) (r + 1) = L + l r := by simp [ln_e, va_up]
            have := hl r (by omega)
            omega
      have h6 : 2 ^ (L - ln_fst c l pl r) ≤ 2 ^ (L - ln_e l pl r) := Nat.pow_le_pow_right (by decide) (by unfold ln_fst; omega)
      exact Nat.le_trans h1 (by omega)
    · show ln_sum _ _ (L + 1 - ln_fst c l pl r) ≤ _
      rw [show L + 1 - ln_fst c l pl r = 0 by omega]
      exact Nat.zero_le _
/-- a puzzle as it must be -/
def Pz (A : md_A) (p : Nat) : Prop := p < 30 ∧ (1 ≤ A 1 p ∧ A 1 p ≤ 10) ∧ (1 ≤ A 2 p ∧ A 2 p ≤ 10) ∧ (1 ≤ A 3 p ∧ A 3 p ≤ 3) ∧ ∀ ln, ln < A 1 p + A 2 p → pz_n A p ln ≤ 10 ∧ ln_S (pz_c A p ln) (pz_l A p ln) (pz_n A p ln) 0 ≤ pz_L A p ln ∧ ∀ i, i < pz_n A p ln → 1 ≤ pz_c A p ln i ∧ pz_c A p ln i ≤ A 3 p ∧ 1 ≤ pz_l A p ln i
/-- the puzzle's cells have sets of 0 .. 3 -/
def Ps (A : md_A) (p : Nat) (S : Nat → Nat) : Prop := ∀ x, x < A 1 p * A 2 p → S x < 16
/-- all but what the model works with is as it was -/
def Scr (I I' : md_I) (A A' : md_A) : Prop := (∀ j, j ≠ 1 → I' j = I j) ∧ ∀ k, k < 10 ∨ 15 < k → A' k = A k
theorem Scr.trans {I I1 I2 : md_I} {A A1 A2 : md_A} (h1 : Scr I I1 A A1) (h2 : Scr I1 I2 A1 A2) : Scr I I2 A A2 := ⟨fun j hj => (h2.1 j hj).trans (h1.1 j hj), fun k hk => (h2.2 k hk).trans (h1.2 k hk)⟩
theorem Scr.rfl' {I : md_I} {A : md_A} : Scr I I A A := ⟨fun _ _ => rfl, fun _ _ => rfl⟩
theorem pz_L_le {A : md_A} {p ln : Nat} (h : Pz A p) : pz_L A p ln ≤ 10 := by
  unfold pz_L
  have := h.2.1.2; have := h.2.2.1.2
  split <;> omega
theorem pz_cell_lt {A : md_A} {p ln k : Nat} (h : Pz A p) (hl : ln < A 1 p + A 2 p) (hk : k < pz_L A p ln) : pz_cell A p ln k < A 1 p * A 2 p := ln_cell_lt h.2.1.2 h.2.2.1.2 hl hk
theorem pz_size {A : md_A} {p : Nat} (h : Pz A p) : A 1 p * A 2 p ≤ 100 := ln_wh h.2.1.2 h.2.2.1.2
theorem pz_W_le {A : md_A} {p ln : Nat} {S : Nat → Nat} (h : Pz A p) (hl : ln < A 1 p + A 2 p) : pz_W A p ln S ≤ 1024 := by
  have h1 := ln_N_le (c := pz_c A p ln) (l := pz_l A p ln) (L := pz_L A p ln) (n := pz_n A p ln) (P := ln_P (pz_c A p ln) (pz_l A p ln) (pz_n A p ln) (pz_L A p ln) (fun j => S (pz_cell A p ln j))) ln_P_e (fun i hi => ((h.2.2.2.2 ln hl).2.2 i hi).2.2) (pz_n A p ln) 0 (fun _ => 0) (by omega)
  refine Nat.le_trans h1 (Nat.le_trans (Nat.pow_le_pow_right (by decide) (show pz_L A p ln - ln_e (pz_l A p ln) (fun _ => 0) 0 ≤ 10 by have := pz_L_le (ln := ln) h; omega)) (by decide))
theorem pz_W_0 {A : md_A} {p ln : Nat} {S : Nat → Nat} (h : Pz A p) (hl : ln < A 1 p + A 2 p) : (nI (pz_W A p ln S) = 0) = (pz_W A p ln S = 0) := by
  have := pz_W_le (S := S) h hl
  rw [← nI_0, nI_eq (by omega) (by decide)]
theorem c_X9_lists' {T : q_T} {m : Nat} {G0 G : q_G} {I : md_I} {A : md_A} {sz : Nat} (hM : Mod T m G0 I A G) {p ln o : Nat} (hz : Pz A p) (hln : ln < A 1 p + A 2 p) (ho : o + 100 ≤ 10400) (hs : Ps A p (fun x => A 10 (o + x))) : q_C T mX9_lists 2 46 0 0 [.ref m, .int (nI p), .int (nI ln), .int (nI o)] G sz (fun v G' sz' => sz = sz' ∧ ∃ A' : md_A, v = some (.int (nI (pz_W A p ln (fun x => A 10 (o + x))))) ∧ Mod T m G0 (va_up I 1 (pz_L A p ln)) A' G' ∧ (∀ k, k < 11 ∨ 15 < k → A' k = A k) ∧ ∀ k, k < pz_L A p ln → A' 11 k = pz_cell A p ln k ∧ A' 12 k = A 10 (o + pz_cell A p ln k) ∧ A' 13 k = pz_K A p ln (fun x => A 10 (o + x)) k) := by
  have hq := hz.2.2.2.2 ln hln
  refine q_C.mono (c_X9_lists hM (w := A 1 p) (h := A 2 p) (L0 := pz_L A p ln) (n := pz_n A p ln) (c := pz_c A p ln) (l := pz_l A p ln) hz.1 rfl rfl hz.2.1.2 hz.2.2.1.2 hln rfl ho rfl (fun _ => rfl) (fun _ => rfl) hq.1 hq.2.1 (fun i hi => Nat.le_trans (hq.2.2 i hi).2.1 hz.2.2.2.1.2) (fun k hk => hs _ (pz_cell_lt hz hln hk))) (fun v G' sz' h => ?_)
  obtain ⟨h1, many, A', h2, h3, h4, h5⟩ := h
  obtain ⟨h6, h7⟩ := ln_cnt_K h5
  have hmay : ∀ k, k < pz_L A p ln → md_li A (A 1 p) (A 2 p) ln o (pz_L A p ln) 12 k = A 10 (o + pz_cell A p ln k) := fun k hk => by
    show md_pw (A 12) (fun j => A 10 (o + ln_cell (A 1 p) (A 2 p) ln j)) (pz_L A p ln) k = _
    rw [md_pw_in hk]
    rfl
  refine ⟨h1, A', ?_, h3, fun k hk => ?_, fun k hk => ⟨?_, ?_, ?_⟩⟩
  · rw [h2, h6, ln_W_may hmay]
    rfl
  · rw [h4 k (by omega) (by omega) (by omega)]
    show va_up _ _ _ _ = _
    unfold va_up
    rw [if_neg (by omega), if_neg (by omega), if_neg (by omega)]
  · rw [h4 11 (by decide) (by decide) (by decide)]
    show md_pw (A 11) (ln_cell (A 1 p) (A 2 p) ln) (pz_L A p ln) k = _
    rw [md_pw_in hk]
    rfl
  · rw [h4 12 (by decide) (by decide) (by decide)]
    exact hmay k hk
  · rw [h7 k hk, ln_K_may hmay]
    rfl

set_option maxHeartbeats 4000000 in
set_option maxRecDepth 100000 in
theorem l_X9_steps {T : q_T} {m : Nat} {G0 : q_G} {I : md_I} {A A1 : md_A} {sz : Nat} {E : q_E} {p ln o : Nat} (hz : Pz A p) (hln : ln < A 1 p + A 2 p) (ho : o + 100 ≤ 10400) (hs : Ps A p (fun x => A 10 (o + x))) (hI : I 1 = pz_L A p ln) (hk3 : ∀ k, k < I 1 → A1 11 k = pz_cell A p ln k ∧ A1 12 k = A 10 (o + pz_cell A p ln k) ∧ A1 13 k = pz_K A p ln (fun x => A 10 (o + x)) k) (hx : ∀ (G : q_G) (x6 x7 : Option Value), Mod T m G0 I (va_up A1 10 (pz_F (A1 10) o (pz_cell A p ln) (pz_new A p ln (fun x => A 10 (o + x))) (I 1))) G → q_R T mX9_steps 3 74 108 [some (.ref m), some (.int (nI p)), some (.int (nI ln)), some (.int (nI o)), some (.int (nI (pz_gn A p ln (fun x => A 10 (o + x)) (I 1)))), some (.int (nI (I 1))), x6, x7] [] G sz 0 0 E) : ∀ (k : Nat) (G : q_G), ∀ x6 x7 : Option Value, k ≤ I 1 → Mod T m G0 I (va_up A1 10 (pz_F (A1 10) o (pz_cell A p ln) (pz_new A p ln (fun x => A 10 (o + x))) k)) G → q_R T mX9_steps 3 74 18 [some (.ref m), some (.int (nI p)), some (.int (nI ln)), some (.int (nI o)), some (.int (nI (pz_gn A p ln (fun x => A 10 (o + x)) k))), some (.int (nI k)), x6, x7] [] G sz 0 0 E := by
  refine q_indN (fun k a => I 1 - k) _ (fun k G ih => ?_)
  intro x6 x7 hk hM
  have hL10 := pz_L_le (ln := ln) hz
  refine q_iload dX9_steps_18 rfl ?_
  refine q_aload_n dX9_steps_20 rfl rfl ?_
  refine q_mgi 1 dX9_steps_21 hM fl_X9_134 (by decide) (fun b21 => ?_)
  refine n_icmp_ge (tgt := 108) dX9_steps_24 (by decide) (by omega) (by omega) (fun c24 => ?_) (fun c24 => ?_)
  · obtain rfl : k = I 1 := by omega
    exact hx G _ _ hM
  · have hce := pz_cell_lt hz hln (by rw [← hI]; exact c24)
    have hsz := pz_size hz
    have hmk : A 10 (o + pz_cell A p ln k) < 16 := hs _ hce
    refine q_aload_n dX9_steps_27 rfl rfl ?_
    refine q_mga 12 12 dX9_steps_28 hM fl_X9_44 rfl ?_
    refine q_iload dX9_steps_31 rfl ?_
    refine q_mld (k := 12) (v := nI (A 10 (o + pz_cell A p ln k))) dX9_steps_33 hM (by decide) rfl (show _ < (10 : Nat) by omega) (congrArg nI (hk3 k c24).2.1) (fun b33 => ?_)
    refine q_aload_n dX9_steps_34 rfl rfl ?_
    refine q_mga 13 13 dX9_steps_35 hM fl_X9_47 rfl ?_
    refine q_iload dX9_steps_38 rfl ?_
    refine q_mld (k := 13) (v := nI (pz_K A p ln (fun x => A 10 (o + x)) k)) dX9_steps_40 hM (by decide) rfl (show _ < (10 : Nat) by omega) (congrArg nI (hk3 k c24).2.2) (fun b40 => ?_)
    refine q_iconst (v := -1) dX9_steps_41 (by decide) ?_
    refine q_ixor dX9_steps_42 rfl ?_
    refine q_iand dX9_steps_43 (ln_df_i hmk (ln_K_lt _ _ _ _ _ _)) ?_
    refine s_istore dX9_steps_44 (by decide) rfl ?_
    refine q_iconst (v := nI 0) dX9_steps_46 (by decide) ?_
    refine s_istore dX9_steps_47 (by decide) rfl ?_
    refine q_iload dX9_steps_49 rfl ?_
    refine q_iconst (v := nI 4) dX9_steps_51 (by decide) ?_
    refine q_icmp_ge (tgt := 73) dX9_steps_52 (by decide) (fun h => absurd h (by decide)) (fun _ => ?_)
    refine q_iload dX9_steps_55 rfl ?_
    refine q_iload dX9_steps_57 rfl ?_
    refine q_iload dX9_steps_59 rfl ?_
    refine q_ishr dX9_steps_61 (n_shr (by have := ln_df_lt hmk (ln_K_lt (pz_c A p ln) (pz_l A p ln) (pz_n A p ln) (pz_L A p ln) (fun j => A 10 (o + pz_cell A p ln j)) k); exact Nat.lt_trans this (by decide)) (by decide)) ?_
    refine q_iconst (v := nI 1) dX9_steps_62 (by decide) ?_
    refine q_iand dX9_steps_63 (n_and _ _) ?_
    refine q_iadd dX9_steps_64 (nI_add _ _) ?_
    refine s_istore dX9_steps_65 (by decide) rfl ?_
    refine s_iinc dX9_steps_67 rfl (s_inc1 _) (by decide) rfl ?_
    refine q_goto (tgt := 49) dX9_steps_70 (by decide) ?_
    refine q_iload dX9_steps_49 rfl ?_
    refine q_iconst (v := nI 4) dX9_steps_51 (by decide) ?_
    refine q_icmp_ge (tgt := 73) dX9_steps_52 (by decide) (fun h => absurd h (by decide)) (fun _ => ?_)
    refine q_iload dX9_steps_55 rfl ?_
    refine q_iload dX9_steps_57 rfl ?_
    refine q_iload dX9_steps_59 rfl ?_
    refine q_ishr dX9_steps_61 (n_shr (by have := ln_df_lt hmk (ln_K_lt (pz_c A p ln) (pz_l A p ln) (pz_n A p ln) (pz_L A p ln) (fun j => A 10 (o + pz_cell A p ln j)) k); exact Nat.lt_trans this (by decide)) (by decide)) ?_
    refine q_iconst (v := nI 1) dX9_steps_62 (by decide) ?_
    refine q_iand dX9_steps_63 (n_and _ _) ?_
    refine q_iadd dX9_steps_64 (nI_add _ _) ?_
    refine s_istore dX9_steps_65 (by decide) rfl ?_
    refine s_iinc dX9_steps_67 rfl (s_inc1 _) (by decide) rfl ?_
    refine q_goto (tgt := 49) dX9_steps_70 (by decide) ?_
    refine q_iload dX9_steps_49 rfl ?_
    refine q_iconst (v := nI 4) dX9_steps_51 (by decide) ?_
    refine q_icmp_ge (tgt := 73) dX9_steps_52 (by decide) (fun h => absurd h (by decide)) (fun _ => ?_)
    refine q_iload dX9_steps_55 rfl ?_
    refine q_iload dX9_steps_57 rfl ?_
    refine q_iload dX9_steps_59 rfl ?_
    refine q_ishr dX9_steps_61 (n_shr (by have := ln_df_lt hmk (ln_K_lt (pz_c A p ln) (pz_l A p ln) (pz_n A p ln) (pz_L A p ln) (fun j => A 10 (o + pz_cell A p ln j)) k); exact Nat.lt_trans this (by decide)) (by decide)) ?_
    refine q_iconst (v := nI 1) dX9_steps_62 (by decide) ?_
    refine q_iand dX9_steps_63 (n_and _ _) ?_
    refine q_iadd dX9_steps_64 (nI_add _ _) ?_
    refine s_istore dX9_steps_65 (by decide) rfl ?_
    refine s_iinc dX9_steps_67 rfl (s_inc1 _) (by decide) rfl ?_
    refine q_goto (tgt := 49) dX9_steps_70 (by decide) ?_
    refine q_iload dX9_steps_49 rfl ?_
    refine q_iconst (v := nI 4) dX9_steps_51 (by decide) ?_
    refine q_icmp_ge (tgt := 73) dX9_steps_52 (by decide) (fun h => absurd h (by decide)) (fun _ => ?_)
    refine q_iload dX9_steps_55 rfl ?_
    refine q_iload dX9_steps_57 rfl ?_
    refine q_iload dX9_steps_59 rfl ?_
    refine q_ishr dX9_steps_61 (n_shr (by have := ln_df_lt hmk (ln_K_lt (pz_c A p ln) (pz_l A p ln) (pz_n A p ln) (pz_L A p ln) (fun j => A 10 (o + pz_cell A p ln j)) k); exact Nat.lt_trans this (by decide)) (by decide)) ?_
    refine q_iconst (v := nI 1) dX9_steps_62 (by decide) ?_
    refine q_iand dX9_steps_63 (n_and _ _) ?_
    refine q_iadd dX9_steps_64 (nI_add _ _) ?_
    refine s_istore dX9_steps_65 (by decide) rfl ?_
    refine s_iinc dX9_steps_67 rfl (s_inc1 _) (by decide) rfl ?_
    refine q_goto (tgt := 49) dX9_steps_70 (by decide) ?_
    refine q_iload dX9_steps_49 rfl ?_
    refine q_iconst (v := nI 4) dX9_steps_51 (by decide) ?_
    refine q_icmp_ge (tgt := 73) dX9_steps_52 (by decide) (fun _ => ?_) (fun h => absurd h (by decide))
    refine q_aload_n dX9_steps_73 rfl rfl ?_
    refine q_mga 10 10 dX9_steps_74 hM fl_X9_38 rfl ?_
    refine q_iload_n dX9_steps_77 rfl ?_
    refine q_aload_n dX9_steps_78 rfl rfl ?_
    refine q_mga 11 11 dX9_steps_79 hM fl_X9_41 rfl ?_
    refine q_iload dX9_steps_82 rfl ?_
    refine q_mld (k := 11) (v := nI (pz_cell A p ln k)) dX9_steps_84 hM (by decide) rfl (show _ < (10 : Nat) by omega) (congrArg nI (hk3 k c24).1) (fun b84 => ?_)
    refine q_iadd dX9_steps_85 (nI_add _ _) ?_
    refine q_aload_n dX9_steps_86 rfl rfl ?_
    refine q_mga 12 12 dX9_steps_87 hM fl_X9_44 rfl ?_
    refine q_iload dX9_steps_90 rfl ?_
    refine q_mld (k := 12) (v := nI (A 10 (o + pz_cell A p ln k))) dX9_steps_92 hM (by decide) rfl (show _ < (10 : Nat) by omega) (congrArg nI (hk3 k c24).2.1) (fun b92 => ?_)
    refine q_aload_n dX9_steps_93 rfl rfl ?_
    refine q_mga 13 13 dX9_steps_94 hM fl_X9_47 rfl ?_
    refine q_iload dX9_steps_97 rfl ?_
    refine q_mld (k := 13) (v := nI (pz_K A p ln (fun x => A 10 (o + x)) k)) dX9_steps_99 hM (by decide) rfl (show _ < (10 : Nat) by omega) (congrArg nI (hk3 k c24).2.2) (fun b99 => ?_)
    refine q_iand dX9_steps_100 (n_and _ _) ?_
    refine q_mst (k := 10) dX9_steps_101 hM (by decide) rfl (show _ < (10400 : Nat) by omega) rfl (Nat.le_trans Nat.and_le_left (by omega)) (fun G hM => ?_)
    refine s_iinc dX9_steps_102 rfl (s_inc1 _) (by decide) rfl ?_
    refine q_goto (tgt := 18) dX9_steps_105 (by decide) ?_
    refine (congrArg (fun z => q_R T mX9_steps 3 74 18 [some (.ref m), some (.int (nI p)), some (.int (nI ln)), some (.int (nI o)), some (.int (nI z)), some (.int (nI (k + 1))), _, _] [] G sz 0 0 E) (show _ = pz_gn A p ln (fun x => A 10 (o + x)) (k + 1) from ?_)).mpr (ih (k + 1) G (by omega) _ _ (by omega) (by rw [md_st_up] at hM; exact hM))
    show _ = pz_gn A p ln (fun x => A 10 (o + x)) k + ln_pop (ln_df (A 10 (o + pz_cell A p ln k)) (pz_K A p ln (fun x => A 10 (o + x)) k))
    generalize ln_df (A 10 (o + pz_cell A p ln k)) (pz_K A p ln (fun x => A 10 (o + x)) k) = d
    show pz_gn A p ln (fun x => A 10 (o + x)) k + (d >>> 0 &&& 1) + (d >>> 1 &&& 1) + (d >>> 2 &&& 1) + (d >>> 3 &&& 1) = _
    unfold ln_pop
    omega

set_option maxHeartbeats 4000000 in
set_option maxRecDepth 100000 in
theorem c_X9_steps {T : q_T} {m : Nat} {G0 G : q_G} {I : md_I} {A : md_A} {sz : Nat} (hM : Mod T m G0 I A G) {p ln o : Nat} (hz : Pz A p) (hln : ln < A 1 p + A 2 p) (ho : o + 100 ≤ 10400) (hs : Ps A p (fun x => A 10 (o + x))) : q_C T mX9_steps 3 74 0 0 [.ref m, .int (nI p), .int (nI ln), .int (nI o)] G sz (fun v G' sz' => sz = sz' ∧ ∃ (I' : md_I) (A' : md_A), Mod T m G0 I' A' G' ∧ Scr I I' A A' ∧ ((pz_W A p ln (fun x => A 10 (o + x)) = 0 ∧ v = some (.int (-1)) ∧ A' 10 = A 10) ∨ (0 < pz_W A p ln (fun x => A 10 (o + x)) ∧ v = some (.int (nI (pz_gone A p ln (fun x => A 10 (o + x))))) ∧ (∀ x, A' 10 (o + x) = pz_stp A p ln (fun x => A 10 (o + x)) x) ∧ ∀ j, j < o → A' 10 j = A 10 j))) := by
  refine q_C.of (by decide) rfl (by simp [Value.category]) (Nat.le_of_ble_eq_true rfl) ?_
  have nI_W0 := pz_W_0 (S := fun x => A 10 (o + x)) hz hln
  refine q_aload_n dX9_steps_0 rfl rfl ?_
  refine q_iload_n dX9_steps_1 rfl ?_
  refine q_iload_n dX9_steps_2 rfl ?_
  refine q_iload_n dX9_steps_3 rfl ?_
  refine q_iv (As := [_, _, _]) dX9_steps_4 ml_X9_150 mt_X9_lists mi_X9_lists se_X9_lists hM.1 rfl rfl (Nat.le_of_ble_eq_true rfl) (Nat.le_of_ble_eq_true rfl) (Nat.zero_le _) (Nat.zero_le _) (Nat.le_of_ble_eq_true rfl) (q_C.mono (c_X9_lists' hM hz hln ho hs) (fun v G sz1 hq => ?_))
  obtain ⟨rfl, A1, rfl, hM, hA1, hk3⟩ := hq
  refine q_if_ne (tgt := 12) dX9_steps_7 (by decide) (fun c7 => ?_) (fun c7 => ?_)
  · refine q_iconst (v := nI 0) dX9_steps_12 (by decide) ?_
    refine s_istore dX9_steps_13 (by decide) rfl ?_
    refine q_iconst (v := nI 0) dX9_steps_15 (by decide) ?_
    refine s_istore dX9_steps_16 (by decide) rfl ?_
    refine l_X9_steps (A1 := A1) hz hln ho hs rfl hk3 (fun G x6 x7 hM => ?_) 0 G _ _ (Nat.zero_le _) (by show Mod T m G0 _ (va_up A1 10 (A1 10)) G; rw [md_up_self]; exact hM)
    refine q_iload dX9_steps_108 rfl ?_
    exact q_ireturn dX9_steps_110 rfl rfl ⟨rfl, va_up I 1 (pz_L A p ln), _, hM, ⟨fun j hj => by unfold va_up; rw [if_neg hj], fun k hk => (show va_up A1 10 _ k = A1 k by unfold va_up; rw [if_neg (by omega)]).trans (hA1 k (by omega))⟩, Or.inr ⟨Nat.pos_of_ne_zero (fun g => c7 (by rw [nI_W0]; exact g)), rfl, fun x => by show pz_F _ _ _ _ _ _ = _; rw [pz_F_off, hA1 10 (by omega)]; rfl, fun j hj => by show pz_F _ _ _ _ _ _ = _; rw [pz_F_lt _ _ _ _ _ _ hj, hA1 10 (by omega)]⟩⟩
  · refine q_iconst (v := -1) dX9_steps_10 (by decide) ?_
    exact q_ireturn dX9_steps_11 rfl rfl ⟨rfl, va_up I 1 (pz_L A p ln), A1, hM, ⟨fun j hj => by unfold va_up; rw [if_neg hj], fun k hk => hA1 k (by omega)⟩, Or.inl ⟨by rw [nI_W0] at c7; exact c7, rfl, hA1 10 (by omega)⟩⟩
