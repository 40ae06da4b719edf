/-- the model's sets are the game's marks as sets -/
def Gs (I I1 : md_I) (A A1 : md_A) (g : Nat) : Prop := Scr I I1 A A1 ∧ pz_on A (A 19 g) (fun x => A1 10 (0 + x)) (gm_S A g)
theorem c_X9_listsG {T : q_T} {m : Nat} {G0 G : q_G} {I I1 : md_I} {A A1 : md_A} {sz t : Nat} (hM : Mod T m G0 I1 A1 G) {g ln : Nat} (hI : Inv t I A) (hg : g < I 7) (hS : Gs I I1 A A1 g) (hln : ln < A 1 (A 19 g) + A 2 (A 19 g)) : q_C T mX9_lists 2 46 0 0 [.ref m, .int (nI (A 19 g)), .int (nI ln), .int (nI 0)] G sz (fun v G' sz' => sz = sz' ∧ ∃ (I2 : md_I) (A2 : md_A), v = some (.int (nI (pz_W A (A 19 g) ln (gm_S A g)))) ∧ Mod T m G0 I2 A2 G' ∧ Gs I I2 A A2 g ∧ I2 1 = pz_L A (A 19 g) ln ∧ ∀ k, k < pz_L A (A 19 g) ln → A2 11 k = pz_cell A (A 19 g) ln k ∧ A2 12 k = gm_S A g (pz_cell A (A 19 g) ln k) ∧ A2 13 k = pz_K A (A 19 g) ln (gm_S A g) k) := by
  have hgg := hI.2.2.2.2.2.1 g hg
  have hz := (hI.2.1 _ hgg.1).1
  have hlt := hS.1.lt
  refine q_C.mono (c_X9_lists' hM (hz.same hlt) (by rw [hlt 1 (by decide), hlt 2 (by decide)]; exact hln) (by decide) (Ps.same hlt (pz_on_ps hS.2.symm (gm_S_lt hI hg)))) (fun v G' sz' h => ?_)
  rw [pz_same_W hlt, pz_on_W hz hln hS.2, pz_same_L hlt, pz_same_cell hlt, pz_same_K hlt] at h
  obtain ⟨h1, A2, h2, h3, h4, h5⟩ := h
  refine ⟨h1, _, A2, h2, h3, ⟨⟨fun j hj => (show va_up I1 1 _ j = I1 j by unfold va_up; rw [if_neg hj]).trans (hS.1.1 j hj), fun k hk => (h4 k (by omega)).trans (hS.1.2 k hk)⟩, fun x hx => by rw [h4 10 (by omega)]; exact hS.2 x hx⟩, rfl, fun k hk => ?_⟩
  obtain ⟨a, b, c⟩ := h5 k hk
  exact ⟨a, b.trans (hS.2 _ (pz_cell_lt hz hln hk)), c.trans (pz_on_K hz hln hS.2 k)⟩

set_option maxHeartbeats 4000000 in
set_option maxRecDepth 100000 in
theorem l_X9_state1 {T : q_T} {m : Nat} {G0 G : q_G} {I : md_I} {A : md_A} {sz t : Nat} {E : q_E} {g : Nat} {y : Int32} (hM : Mod T m G0 I A G) (hI : Inv t I A) (hg : g < I 7) (hx : q_R T mX9_state 3 74 65 [some (.ref m), some (.int (nI g)), some (.int y), some (.int (nI (A 19 g))), some (.int (nI (gm_marked A g))), some (.int (nI (A 1 (A 19 g) * A 2 (A 19 g)))), none] [] G sz 0 0 E) : ∀ (c : Nat) (_ : Unit), c ≤ A 1 (A 19 g) * A 2 (A 19 g) → q_R T mX9_state 3 74 23 [some (.ref m), some (.int (nI g)), some (.int y), some (.int (nI (A 19 g))), some (.int (nI (ln_sum (fun c => if A 20 (100 * g + c) = 0 then 0 else 1) 0 c))), some (.int (nI c)), none] [] G sz 0 0 E := by
  refine q_indN (fun c _ => A 1 (A 19 g) * A 2 (A 19 g) - c) _ (fun c _ ih => ?_)
  intro hc2
  have hg20 := hI.2.2.2.2.1
  have hgg := hI.2.2.2.2.2.1 g hg
  have hp30 := hI.1
  have hzg := (hI.2.1 _ hgg.1).1
  have hsg := pz_size hzg
  have hz3 := hzg.2.2.2.1
  refine q_iload dX9_state_23 rfl ?_
  refine q_aload_n dX9_state_25 rfl rfl ?_
  refine q_iload_n dX9_state_26 rfl ?_
  refine q_iv (As := [_]) dX9_state_27 ml_X9_108 mt_X9_sizeOf mi_X9_sizeOf se_X9_sizeOf hM.1 rfl rfl (Nat.le_of_ble_eq_true rfl) (Nat.le_of_ble_eq_true rfl) (Nat.zero_le _) (Nat.zero_le _) (Nat.le_of_ble_eq_true rfl) (q_C.mono (c_X9_sizeOf (w := A 1 (A 19 g)) (h := A 2 (A 19 g)) hM (by omega) rfl rfl) (fun v G1 sz1 hq => ?_))
  obtain ⟨rfl, rfl, rfl⟩ := hq
  refine n_icmp_ge (tgt := 65) dX9_state_30 (by decide) (by omega) (by omega) (fun c30 => ?_) (fun c30 => ?_)
  · obtain rfl : c = A 1 (A 19 g) * A 2 (A 19 g) := by omega
    exact hx
  · refine q_iload dX9_state_33 rfl ?_
    refine q_aload_n dX9_state_35 rfl rfl ?_
    refine q_mga 27 20 dX9_state_36 hM fl_X9_68 rfl ?_
    refine q_bipush (v := nI 100) dX9_state_39 (by decide) ?_
    refine q_iload_n dX9_state_41 rfl ?_
    refine q_imul dX9_state_42 (pk_mul _ _) ?_
    refine q_iload dX9_state_43 rfl ?_
    refine q_iadd dX9_state_45 (nI_add _ _) ?_
    refine q_mld (k := 20) (v := nI (A 20 (100 * g + c)) - 1) dX9_state_46 hM (by decide) rfl (show _ < (2000 : Nat) by omega) rfl (fun b46 => ?_)
    refine q_iconst (v := -1) dX9_state_47 (by decide) ?_
    refine q_icmp_eq (tgt := 55) dX9_state_48 (by decide) (fun c48 => ?_) (fun c48 => ?_)
    · have h0 : A 20 (100 * g + c) = 0 := (nI_m1eq (b := 0) (by have := hgg.2.2.2.2.2.1 c c30; omega) (by decide)).mp c48
      refine q_iconst (v := nI 0) dX9_state_55 (by decide) ?_
      refine q_iadd dX9_state_56 (nI_add _ _) ?_
      refine s_istore dX9_state_57 (by decide) rfl ?_
      refine s_iinc dX9_state_59 rfl (s_inc1 _) (by decide) rfl ?_
      refine q_goto (tgt := 23) dX9_state_62 (by decide) ?_
      rw [show ln_sum (fun c => if A 20 (100 * g + c) = 0 then 0 else 1) 0 c + 0 = ln_sum (fun c => if A 20 (100 * g + c) = 0 then 0 else 1) 0 (c + 1) by rw [ln_sum_snoc, Nat.zero_add]; rw [if_pos h0]]
      exact ih (c + 1) () (by omega) (by omega)
    · have h0 : ¬ A 20 (100 * g + c) = 0 := fun e => c48 ((nI_m1eq (b := 0) (by have := hgg.2.2.2.2.2.1 c c30; omega) (by decide)).mpr e)
      refine q_iconst (v := nI 1) dX9_state_51 (by decide) ?_
      refine q_goto (tgt := 56) dX9_state_52 (by decide) ?_
      refine q_iadd dX9_state_56 (nI_add _ _) ?_
      refine s_istore dX9_state_57 (by decide) rfl ?_
      refine s_iinc dX9_state_59 rfl (s_inc1 _) (by decide) rfl ?_
      refine q_goto (tgt := 23) dX9_state_62 (by decide) ?_
      rw [show ln_sum (fun c => if A 20 (100 * g + c) = 0 then 0 else 1) 0 c + 1 = ln_sum (fun c => if A 20 (100 * g + c) = 0 then 0 else 1) 0 (c + 1) by rw [ln_sum_snoc, Nat.zero_add]; rw [if_neg h0]]
      exact ih (c + 1) () (by omega) (by omega)

set_option maxHeartbeats 4000000 in
set_option maxRecDepth 100000 in
theorem l_X9_state2 {T : q_T} {m : Nat} {G0 : q_G} {I : md_I} {A : md_A} {sz t : Nat} {E : q_E} {g : Nat} (hI : Inv t I A) (hg : g < I 7) {y : Int32} {mk : Nat} (hx : ∀ (G : q_G) (I1 : md_I) (A1 : md_A), Mod T m G0 I1 A1 G → Gs I I1 A A1 g → q_R T mX9_state 3 74 113 [some (.ref m), some (.int (nI g)), some (.int y), some (.int (nI (A 19 g))), some (.int (nI mk)), some (.int (nI (gm_broken A g))), some (.int (nI (A 1 (A 19 g) + A 2 (A 19 g))))] [] G sz 0 0 E) : ∀ (c : Nat) (a : q_G × md_I × md_A), c ≤ A 1 (A 19 g) + A 2 (A 19 g) → Mod T m G0 a.2.1 a.2.2 a.1 → Gs I a.2.1 A a.2.2 g → q_R T mX9_state 3 74 76 [some (.ref m), some (.int (nI g)), some (.int y), some (.int (nI (A 19 g))), some (.int (nI mk)), some (.int (nI (ln_sum (fun l => if pz_W A (A 19 g) l (gm_S A g) = 0 then 1 else 0) 0 c))), some (.int (nI c))] [] a.1 sz 0 0 E := by
  refine q_indN (fun c _ => A 1 (A 19 g) + A 2 (A 19 g) - c) _ (fun c a ih => ?_)
  obtain ⟨G, I1, A1⟩ := a
  intro hc2 hM hS
  dsimp only at hM hS ⊢
  have hg20 := hI.2.2.2.2.1
  have hgg := hI.2.2.2.2.2.1 g hg
  have hp30 := hI.1
  have hzg := (hI.2.1 _ hgg.1).1
  have hsg := pz_size hzg
  have hz3 := hzg.2.2.2.1
  have hwp := hI.puz _ hgg.1
  refine q_iload dX9_state_76 rfl ?_
  refine q_aload_n dX9_state_78 rfl rfl ?_
  refine q_iload_n dX9_state_79 rfl ?_
  refine q_iv (As := [_]) dX9_state_80 ml_X9_104 mt_X9_linesOf mi_X9_linesOf se_X9_linesOf hM.1 rfl rfl (Nat.le_of_ble_eq_true rfl) (Nat.le_of_ble_eq_true rfl) (Nat.zero_le _) (Nat.zero_le _) (Nat.le_of_ble_eq_true rfl) (q_C.mono (c_X9_linesOf (w := A 1 (A 19 g)) (h := A 2 (A 19 g)) hM (by omega) (congrFun (hS.1.lt 1 (by decide)) _) (congrFun (hS.1.lt 2 (by decide)) _)) (fun v G1 sz1 hq => ?_))
  obtain ⟨rfl, rfl, rfl⟩ := hq
  refine n_icmp_ge (tgt := 113) dX9_state_83 (by decide) (by omega) (by omega) (fun c83 => ?_) (fun c83 => ?_)
  · obtain rfl : c = A 1 (A 19 g) + A 2 (A 19 g) := by omega
    exact hx G I1 A1 hM hS
  · refine q_iload dX9_state_86 rfl ?_
    refine q_aload_n dX9_state_88 rfl rfl ?_
    refine q_iload_n dX9_state_89 rfl ?_
    refine q_iload dX9_state_90 rfl ?_
    refine q_iconst (v := nI 0) dX9_state_92 (by decide) ?_
    refine q_iv (As := [_, _, _]) dX9_state_93 ml_X9_150 mt_X9_lists mi_X9_lists se_X9_lists hM.1 rfl rfl (Nat.le_of_ble_eq_true rfl) (Nat.le_of_ble_eq_true rfl) (Nat.zero_le _) (Nat.zero_le _) (Nat.le_of_ble_eq_true rfl) (q_C.mono (c_X9_listsG hM hI hg hS c83) (fun v G sz1 hq => ?_))
    obtain ⟨rfl, I1, A1, rfl, hM, hS, hL1, hk3⟩ := hq
    refine n_if_ne (tgt := 103) dX9_state_96 (by decide) (by have := pz_W_le (S := gm_S A g) hzg c83; omega) (fun c96 => ?_) (fun c96 => ?_)
    · refine q_iconst (v := nI 0) dX9_state_103 (by decide) ?_
      refine q_iadd dX9_state_104 (nI_add _ _) ?_
      refine s_istore dX9_state_105 (by decide) rfl ?_
      refine s_iinc dX9_state_107 rfl (s_inc1 _) (by decide) rfl ?_
      refine q_goto (tgt := 76) dX9_state_110 (by decide) ?_
      rw [show ln_sum (fun l => if pz_W A (A 19 g) l (gm_S A g) = 0 then 1 else 0) 0 c + 0 = ln_sum (fun l => if pz_W A (A 19 g) l (gm_S A g) = 0 then 1 else 0) 0 (c + 1) by rw [ln_sum_snoc, Nat.zero_add]; rw [if_neg c96]]
      exact ih (c + 1) (G, I1, A1) (by omega) (by omega) hM hS
    · refine q_iconst (v := nI 1) dX9_state_99 (by decide) ?_
      refine q_goto (tgt := 104) dX9_state_100 (by decide) ?_
      refine q_iadd dX9_state_104 (nI_add _ _) ?_
      refine s_istore dX9_state_105 (by decide) rfl ?_
      refine s_iinc dX9_state_107 rfl (s_inc1 _) (by decide) rfl ?_
      refine q_goto (tgt := 76) dX9_state_110 (by decide) ?_
      rw [show ln_sum (fun l => if pz_W A (A 19 g) l (gm_S A g) = 0 then 1 else 0) 0 c + 1 = ln_sum (fun l => if pz_W A (A 19 g) l (gm_S A g) = 0 then 1 else 0) 0 (c + 1) by rw [ln_sum_snoc, Nat.zero_add]; rw [if_pos c96]]
      exact ih (c + 1) (G, I1, A1) (by omega) (by omega) hM hS

theorem Gs.ld {I : md_I} {A : md_A} {g : Nat} : Gs I I A (md_cp A 10 0 (gm_S A g) (A 1 (A 19 g) * A 2 (A 19 g))) g := ⟨⟨fun _ _ => rfl, fun k hk => md_cp_k A (by omega)⟩, fun x hx => md_cp_in A hx⟩
theorem ln_sum_le1 {f : Nat → Nat} (h : ∀ x, f x ≤ 1) : ∀ m lo, ln_sum f lo m ≤ m := by
  intro m
  induction m with
  | zero => intro lo; exact Nat.le_refl _
  | succ m ih =>
    intro lo
    show f lo + _ ≤ _
    have := h lo; have := ih (lo + 1)
    omega

set_option maxHeartbeats 4000000 in
set_option maxRecDepth 100000 in
theorem c_X9_state {T : q_T} {m : Nat} {G0 G : q_G} {I : md_I} {A : md_A} {sz t : Nat} (hM : Mod T m G0 I A G) (hI : Inv t I A) (x y : Int32) : q_C T mX9_state 3 74 0 0 [.ref m, .int x, .int y] G sz (fun v G' sz' => sz = sz' ∧ ∃ (I' : md_I) (A' : md_A), Mod T m G0 I' A' G' ∧ ∃ z, v = some (.int z) ∧ D_state I A x y z ∧ Per I I' A A') := by
  refine q_C.of (by decide) rfl (by simp [Value.category]) (Nat.le_of_ble_eq_true rfl) ?_
  refine q_aload_n dX9_state_0 rfl rfl ?_
  refine q_iload_n dX9_state_1 rfl ?_
  refine q_iv (As := [_]) dX9_state_2 ml_X9_216 mt_X9_isGame mi_X9_isGame se_X9_isGame hM.1 rfl rfl (Nat.le_of_ble_eq_true rfl) (Nat.le_of_ble_eq_true rfl) (Nat.zero_le _) (Nat.zero_le _) (Nat.le_of_ble_eq_true rfl) (q_C.mono (c_X9_isGame hM _) (fun v G1 sz1 hq => ?_))
  obtain ⟨⟨⟨g, hg, rfl⟩, rfl⟩ | ⟨hV2, rfl⟩, rfl, rfl⟩ := hq
  · have hg20 := hI.2.2.2.2.1
    have hgg := hI.2.2.2.2.2.1 g hg
    have hp30 := hI.1
    have hzg := (hI.2.1 _ hgg.1).1
    have hsg := pz_size hzg
    refine q_if_ne (tgt := 10) dX9_state_5 (by decide) (fun _ => ?_) (fun h => absurd h (by decide))
    refine q_aload_n dX9_state_10 rfl rfl ?_
    refine q_mga 26 19 dX9_state_11 hM fl_X9_65 rfl ?_
    refine q_iload_n dX9_state_14 rfl ?_
    refine q_mld (k := 19) (v := nI (A 19 g)) dX9_state_15 hM (by decide) rfl (show _ < (20 : Nat) by omega) rfl (fun b15 => ?_)
    refine s_istore_n dX9_state_16 (by decide) rfl ?_
    refine q_iconst (v := nI 0) dX9_state_17 (by decide) ?_
    refine s_istore dX9_state_18 (by decide) rfl ?_
    refine q_iconst (v := nI 0) dX9_state_20 (by decide) ?_
    refine s_istore dX9_state_21 (by decide) rfl ?_
    refine l_X9_state1 hM hI hg ?_ 0 () (Nat.zero_le _)
    refine q_iconst (v := nI 0) dX9_state_65 (by decide) ?_
    refine s_istore dX9_state_66 (by decide) rfl ?_
    refine q_aload_n dX9_state_68 rfl rfl ?_
    refine q_iload_n dX9_state_69 rfl ?_
    refine q_iv (As := [_]) dX9_state_70 ml_X9_219 mt_X9_marksAsSets mi_X9_marksAsSets se_X9_marksAsSets hM.1 rfl rfl (Nat.le_of_ble_eq_true rfl) (Nat.le_of_ble_eq_true rfl) (Nat.zero_le _) (Nat.zero_le _) (Nat.le_of_ble_eq_true rfl) (q_C.mono (c_X9_marksAsSets hM hI hg) (fun v G sz1 hq => ?_))
    obtain ⟨rfl, rfl, hM⟩ := hq
    refine q_iconst (v := nI 0) dX9_state_73 (by decide) ?_
    refine s_istore dX9_state_74 (by decide) rfl ?_
    refine l_X9_state2 hI hg (fun G I1 A1 hM hS => ?_) 0 (G, I, _) (Nat.zero_le _) hM Gs.ld
    have hmk1 : gm_marked A g ≤ A 1 (A 19 g) * A 2 (A 19 g) := ln_sum_le1 (fun x => by split <;> omega) _ _
    have hwp := hI.puz _ hgg.1
    have hbk1 : gm_broken A g ≤ A 1 (A 19 g) + A 2 (A 19 g) := ln_sum_le1 (fun x => by split <;> omega) _ _
    have h21 : A1 21 = A 21 := hS.1.2 21 (by decide)
    have h22 : A1 22 = A 22 := hS.1.2 22 (by decide)
    have h23 : A1 23 = A 23 := hS.1.2 23 (by decide)
    refine q_iload_n dX9_state_113 rfl ?_
    rcases q_sw y 6 (by omega) with ⟨k, hk, rfl⟩ | ⟨hno, hout⟩
    · rcases (show k = 0 ∨ k = 1 ∨ k = 2 ∨ k = 3 ∨ k = 4 ∨ k = 5 ∨ k = 6 by omega) with rfl | rfl | rfl | rfl | rfl | rfl | rfl
      · refine q_tableIn (off := 42) (tgt := 156) dX9_state_114 (by decide) (by decide) (by decide) (by decide) ?_
        refine q_iload_n dX9_state_156 rfl ?_
        exact q_ireturn dX9_state_157 rfl rfl ⟨rfl, I1, A1, hM, _, rfl, Or.inl ⟨g, hg, rfl, Or.inl ⟨rfl, rfl⟩⟩, hS.1.per⟩
      · refine q_tableIn (off := 44) (tgt := 158) dX9_state_114 (by decide) (by decide) (by decide) (by decide) ?_
        refine q_iload dX9_state_158 rfl ?_
        exact q_ireturn dX9_state_160 rfl rfl ⟨rfl, I1, A1, hM, _, rfl, Or.inl ⟨g, hg, rfl, Or.inr (Or.inl ⟨rfl, rfl⟩)⟩, hS.1.per⟩
      · refine q_tableIn (off := 47) (tgt := 161) dX9_state_114 (by decide) (by decide) (by decide) (by decide) ?_
        refine q_iload dX9_state_161 rfl ?_
        exact q_ireturn dX9_state_163 rfl rfl ⟨rfl, I1, A1, hM, _, rfl, Or.inl ⟨g, hg, rfl, Or.inr (Or.inr (Or.inl ⟨rfl, rfl⟩))⟩, hS.1.per⟩
      · refine q_tableIn (off := 50) (tgt := 164) dX9_state_114 (by decide) (by decide) (by decide) (by decide) ?_
        refine q_iload dX9_state_164 rfl ?_
        refine q_aload_n dX9_state_166 rfl rfl ?_
        refine q_iload_n dX9_state_167 rfl ?_
        refine q_iv (As := [_]) dX9_state_168 ml_X9_108 mt_X9_sizeOf mi_X9_sizeOf se_X9_sizeOf hM.1 rfl rfl (Nat.le_of_ble_eq_true rfl) (Nat.le_of_ble_eq_true rfl) (Nat.zero_le _) (Nat.zero_le _) (Nat.le_of_ble_eq_true rfl) (q_C.mono (c_X9_sizeOf (w := A 1 (A 19 g)) (h := A 2 (A 19 g)) hM (by omega) (congrFun (hS.1.lt 1 (by decide)) _) (congrFun (hS.1.lt 2 (by decide)) _)) (fun v G1 sz1 hq => ?_))
        obtain ⟨rfl, rfl, rfl⟩ := hq
        refine n_icmp_ne (tgt := 183) dX9_state_171 (by decide) (by omega) (by omega) (fun c171 => ?_) (fun c171 => ?_)
        · refine q_iconst (v := nI 0) dX9_state_183 (by decide) ?_
          exact q_ireturn dX9_state_184 rfl rfl ⟨rfl, I1, A1, hM, _, rfl, Or.inl ⟨g, hg, rfl, Or.inr (Or.inr (Or.inr (Or.inl ⟨rfl, (by rw [if_neg (by omega)])⟩)))⟩, hS.1.per⟩
        · refine q_iload dX9_state_174 rfl ?_
          refine n_if_ne (tgt := 183) dX9_state_176 (by decide) (by omega) (fun c176 => ?_) (fun c176 => ?_)
          · refine q_iconst (v := nI 0) dX9_state_183 (by decide) ?_
            exact q_ireturn dX9_state_184 rfl rfl ⟨rfl, I1, A1, hM, _, rfl, Or.inl ⟨g, hg, rfl, Or.inr (Or.inr (Or.inr (Or.inl ⟨rfl, (by rw [if_neg (by omega)])⟩)))⟩, hS.1.per⟩
          · refine q_iconst (v := nI 1) dX9_state_179 (by decide) ?_
            refine q_goto (tgt := 184) dX9_state_180 (by decide) ?_
            exact q_ireturn dX9_state_184 rfl rfl ⟨rfl, I1, A1, hM, _, rfl, Or.inl ⟨g, hg, rfl, Or.inr (Or.inr (Or.inr (Or.inl ⟨rfl, (by rw [if_pos (by omega)])⟩)))⟩, hS.1.per⟩
      · refine q_tableIn (off := 71) (tgt := 185) dX9_state_114 (by decide) (by decide) (by decide) (by decide) ?_
        refine q_aload_n dX9_state_185 rfl rfl ?_
        refine q_mga 28 21 dX9_state_186 hM fl_X9_71 rfl ?_
        refine q_iload_n dX9_state_189 rfl ?_
        refine q_mld (k := 21) (v := nI (A 21 g)) dX9_state_190 hM (by decide) rfl (show _ < (20 : Nat) by omega) (congrArg nI (congrFun h21 g)) (fun b190 => ?_)
        exact q_ireturn dX9_state_191 rfl rfl ⟨rfl, I1, A1, hM, _, rfl, Or.inl ⟨g, hg, rfl, Or.inr (Or.inr (Or.inr (Or.inr (Or.inl ⟨rfl, rfl⟩))))⟩, hS.1.per⟩
      · refine q_tableIn (off := 78) (tgt := 192) dX9_state_114 (by decide) (by decide) (by decide) (by decide) ?_
        refine q_aload_n dX9_state_192 rfl rfl ?_
        refine q_mga 29 22 dX9_state_193 hM fl_X9_74 rfl ?_
        refine q_iload_n dX9_state_196 rfl ?_
        refine q_mld (k := 22) (v := nI (A 22 g)) dX9_state_197 hM (by decide) rfl (show _ < (20 : Nat) by omega) (congrArg nI (congrFun h22 g)) (fun b197 => ?_)
        refine q_aload_n dX9_state_198 rfl rfl ?_
        refine q_mga 28 21 dX9_state_199 hM fl_X9_71 rfl ?_
        refine q_iload_n dX9_state_202 rfl ?_
        refine q_mld (k := 21) (v := nI (A 21 g)) dX9_state_203 hM (by decide) rfl (show _ < (20 : Nat) by omega) (congrArg nI (congrFun h21 g)) (fun b203 => ?_)
        refine q_isub dX9_state_204 (pk_sub hgg.2.1) ?_
        exact q_ireturn dX9_state_205 rfl rfl ⟨rfl, I1, A1, hM, _, rfl, Or.inl ⟨g, hg, rfl, Or.inr (Or.inr (Or.inr (Or.inr (Or.inr (Or.inl ⟨rfl, rfl⟩)))))⟩, hS.1.per⟩
      · refine q_tableIn (off := 92) (tgt := 206) dX9_state_114 (by decide) (by decide) (by decide) (by decide) ?_
        refine q_aload_n dX9_state_206 rfl rfl ?_
        refine q_mga 30 23 dX9_state_207 hM fl_X9_77 rfl ?_
        refine q_iload_n dX9_state_210 rfl ?_
        refine q_mld (k := 23) (v := nI (A 23 g)) dX9_state_211 hM (by decide) rfl (show _ < (20 : Nat) by omega) (congrArg nI (congrFun h23 g)) (fun b211 => ?_)
        exact q_ireturn dX9_state_212 rfl rfl ⟨rfl, I1, A1, hM, _, rfl, Or.inl ⟨g, hg, rfl, Or.inr (Or.inr (Or.inr (Or.inr (Or.inr (Or.inr (Or.inl ⟨rfl, rfl⟩))))))⟩, hS.1.per⟩
    · refine q_tableOut (tgt := 213) dX9_state_114 hout (by decide) ?_
      refine q_iconst (v := -1) dX9_state_213 (by decide) ?_
      exact q_ireturn dX9_state_214 rfl rfl ⟨rfl, I1, A1, hM, _, rfl, Or.inl ⟨g, hg, rfl, Or.inr (Or.inr (Or.inr (Or.inr (Or.inr (Or.inr (Or.inr (⟨hno, rfl⟩)))))))⟩, hS.1.per⟩
  · refine q_if_ne (tgt := 10) dX9_state_5 (by decide) (fun h => absurd h (by decide)) (fun _ => ?_)
    refine q_iconst (v := -1) dX9_state_8 (by decide) ?_
    exact q_ireturn dX9_state_9 rfl rfl ⟨rfl, I, A, hM, _, rfl, Or.inr ⟨fun ⟨g, h1, h2⟩ => hV2 ⟨g, h1, h2⟩, rfl⟩, Per.rfl'⟩
