theorem Per.st {I I' : md_I} {A A' : md_A} (h : Per I I' A A') {k : Nat} (hk : k < 10 ∨ k = 16 ∨ 19 ≤ k) (i v : Nat) : Per I I' (md_st A k i v) (md_st A' k i v) := ⟨h.1, fun l hl => by
  by_cases e : l = k
  · subst e
    show va_up A' l _ l = va_up A l _ l
    simp only [va_up, if_true]
    rw [h.2 l hl]
  · rw [md_st_k _ e, md_st_k _ e]; exact h.2 l hl⟩

set_option maxHeartbeats 4000000 in
set_option maxRecDepth 100000 in
theorem l_X9_hint2 {T : q_T} {m : Nat} {G0 G : q_G} {I I1 : md_I} {A A1 : md_A} {sz t : Nat} {E : q_E} {g ln : Nat} (hM : Mod T m G0 I1 A1 G) (hI : Inv t I A) (hg : g < I 7) (hS : Gs I I1 A A1 g) (hln : ln < A 1 (A 19 g) + A 2 (A 19 g)) (hw0 : 0 < pz_W A (A 19 g) ln (gm_S A g)) (hL1 : I1 1 = pz_L A (A 19 g) ln) (hk3 : ∀ k, k < pz_L A (A 19 g) ln → A1 11 k = pz_cell A (A 19 g) ln k ∧ A1 12 k = gm_S A g (pz_cell A (A 19 g) ln k) ∧ A1 13 k = pz_K A (A 19 g) ln (gm_S A g) k) (hx : ∀ x5 x6 : Option Value, (∀ i, i < pz_L A (A 19 g) ln → ¬ gm_hit A g ln i) → q_R T mX9_hint 3 74 166 [some (.ref m), some (.int (nI g)), some (.int (nI (A 19 g))), some (.int (nI ln)), some (.int (nI (I1 1))), x5, x6] [] G sz 0 0 E) (hE : ∀ (k : Nat) (G : q_G), k < pz_L A (A 19 g) ln → (∀ i, i < k → ¬ gm_hit A g ln i) → gm_hit A g ln k → Mod T m G0 I1 (md_st A1 23 g (A 23 g + 1)) G → E (some (.int (nI (4 * pz_cell A (A 19 g) ln k + pz_log (pz_K A (A 19 g) ln (gm_S A g) k))))) G sz) : ∀ (k : Nat) (_ : Unit), ∀ x5 x6 : Option Value, k ≤ I1 1 → (∀ i, i < k → ¬ gm_hit A g ln i) → q_R T mX9_hint 3 74 61 [some (.ref m), some (.int (nI g)), some (.int (nI (A 19 g))), some (.int (nI ln)), some (.int (nI k)), x5, x6] [] G sz 0 0 E := by
  refine q_indN (fun k _ => I1 1 - k) _ (fun k _ ih => ?_)
  intro x5 x6 hk2 hno
  have hg20 := hI.2.2.2.2.1
  have hgg := hI.2.2.2.2.2.1 g hg
  have hp30 := hI.1
  have hzg := (hI.2.1 _ hgg.1).1
  have hsg := pz_size hzg
  have hz3 := hzg.2.2.2.1
  have hL10 := pz_L_le (ln := ln) hzg
  refine q_iload dX9_hint_61 rfl ?_
  refine q_aload_n dX9_hint_63 rfl rfl ?_
  refine q_mgi 1 dX9_hint_64 hM fl_X9_134 (by decide) (fun b64 => ?_)
  refine n_icmp_ge (tgt := 166) dX9_hint_67 (by decide) (by omega) (by omega) (fun c67 => ?_) (fun c67 => ?_)
  · obtain rfl : k = I1 1 := by omega
    exact hx _ _ (fun i hi => hno i (by omega))
  · have hkL : k < pz_L A (A 19 g) ln := by omega
    have hce := pz_cell_lt hzg hln hkL
    have hK16 : pz_K A (A 19 g) ln (gm_S A g) k < 16 := ln_K_lt _ _ _ _ _ _
    have hK1 := pz_K_pos hzg hln hw0 k
    refine q_aload_n dX9_hint_70 rfl rfl ?_
    refine q_mga 13 13 dX9_hint_71 hM fl_X9_47 rfl ?_
    refine q_iload dX9_hint_74 rfl ?_
    refine q_mld (k := 13) (v := nI (pz_K A (A 19 g) ln (gm_S A g) k)) dX9_hint_76 hM (by decide) rfl (show _ < (10 : Nat) by omega) (congrArg nI (hk3 k (by omega)).2.2) (fun b76 => ?_)
    refine q_aload_n dX9_hint_77 rfl rfl ?_
    refine q_mga 12 12 dX9_hint_78 hM fl_X9_44 rfl ?_
    refine q_iload dX9_hint_81 rfl ?_
    refine q_mld (k := 12) (v := nI (gm_S A g (pz_cell A (A 19 g) ln k))) dX9_hint_83 hM (by decide) rfl (show _ < (10 : Nat) by omega) (congrArg nI (hk3 k (by omega)).2.1) (fun b83 => ?_)
    refine q_iand dX9_hint_84 (show _ = nI (pz_K A (A 19 g) ln (gm_S A g) k) from (n_and _ _).trans (congrArg nI (by rw [Nat.and_comm]; exact pz_new_eq hzg hln (gm_S_lt hI hg) hkL))) ?_
    refine s_istore dX9_hint_85 (by decide) rfl ?_
    refine q_aload_n dX9_hint_87 rfl rfl ?_
    refine q_mga 27 20 dX9_hint_88 hM fl_X9_68 rfl ?_
    refine q_bipush (v := nI 100) dX9_hint_91 (by decide) ?_
    refine q_iload_n dX9_hint_93 rfl ?_
    refine q_imul dX9_hint_94 (pk_mul _ _) ?_
    refine q_aload_n dX9_hint_95 rfl rfl ?_
    refine q_mga 11 11 dX9_hint_96 hM fl_X9_41 rfl ?_
    refine q_iload dX9_hint_99 rfl ?_
    refine q_mld (k := 11) (v := nI (pz_cell A (A 19 g) ln k)) dX9_hint_101 hM (by decide) rfl (show _ < (10 : Nat) by omega) (congrArg nI (hk3 k (by omega)).1) (fun b101 => ?_)
    refine q_iadd dX9_hint_102 (nI_add _ _) ?_
    refine q_mld (k := 20) (v := nI (A 20 (100 * g + pz_cell A (A 19 g) ln k)) - 1) dX9_hint_103 hM (by decide) rfl (show _ < (2000 : Nat) by omega) (congrArg (fun z => nI z - 1) (congrFun (hS.1.2 20 (by decide)) _)) (fun b103 => ?_)
    refine q_iconst (v := -1) dX9_hint_104 (by decide) ?_
    refine q_icmp_ne (tgt := 160) dX9_hint_105 (by decide) (fun c105 => ?_) (fun c105 => ?_)
    · have hnh : ¬ gm_hit A g ln k := fun h => c105 ((nI_m1eq (b := 0) (by have := hgg.2.2.2.2.2.1 _ hce; omega) (by decide)).mpr h.1)
      refine s_iinc dX9_hint_160 rfl (s_inc1 _) (by decide) rfl ?_
      refine q_goto (tgt := 61) dX9_hint_163 (by decide) ?_
      exact ih (k + 1) () (by omega) _ _ (by omega) (fun i hi => by rcases Nat.lt_or_ge i k with h | h; exact hno i h; rw [show i = k by omega]; exact hnh)
    · have hm0 : A 20 (100 * g + pz_cell A (A 19 g) ln k) = 0 := (nI_m1eq (b := 0) (by have := hgg.2.2.2.2.2.1 _ hce; omega) (by decide)).mp c105
      refine q_iload dX9_hint_108 rfl ?_
      refine q_is (As := [_]) dX9_hint_110 ml_X9_128 mt_X9_isOne ms_X9_isOne rfl (Nat.le_of_ble_eq_true rfl) (Nat.le_of_ble_eq_true rfl) (Nat.zero_le _) (Nat.zero_le _) (Nat.le_of_ble_eq_true rfl) (q_C.mono (c_X9_isOne hK1 (by omega)) (fun v G1 sz1 hq => ?_))
      obtain ⟨rfl, rfl, rfl⟩ := hq
      refine n_if_ne (tgt := 119) dX9_hint_113 (by decide) (by split <;> decide) (fun c113 => ?_) (fun c113 => ?_)
      · have hone : pz_K A (A 19 g) ln (gm_S A g) k &&& (pz_K A (A 19 g) ln (gm_S A g) k - 1) = 0 := by split at c113 <;> simp_all
        refine q_iconst (v := nI 0) dX9_hint_119 (by decide) ?_
        refine s_istore dX9_hint_120 (by decide) rfl ?_
        refine q_iload dX9_hint_122 rfl ?_
        refine q_iload dX9_hint_124 rfl ?_
        refine q_ishr dX9_hint_126 (n_shr (by omega) (by decide)) ?_
        refine q_iconst (v := nI 1) dX9_hint_127 (by decide) ?_
        refine n_icmp_le (tgt := 137) dX9_hint_128 (by decide) (by have := hK16; omega) (by decide) (fun c128 => ?_) (fun c128 => ?_)
        · refine q_aload_n dX9_hint_137 rfl rfl ?_
          refine q_mga 30 23 dX9_hint_138 hM fl_X9_77 rfl ?_
          refine q_iload_n dX9_hint_141 rfl ?_
          refine q_dup2 dX9_hint_142 rfl rfl ?_
          refine q_mld (k := 23) (v := nI (A 23 g)) dX9_hint_143 hM (by decide) rfl (show _ < (20 : Nat) by omega) (congrArg nI (congrFun (hS.1.2 23 (by decide)) g)) (fun b143 => ?_)
          refine q_iconst (v := nI 1) dX9_hint_144 (by decide) ?_
          refine q_iadd dX9_hint_145 (nI_add _ _) ?_
          refine q_mst (k := 23) dX9_hint_146 hM (by decide) rfl (show _ < (20 : Nat) by omega) rfl (by have := hgg.2.2.2.1; have := hI.2.2.2.2.2.2.2.2.2.2.2.2; omega) (fun G hM => ?_)
          refine q_iconst (v := nI 4) dX9_hint_147 (by decide) ?_
          refine q_aload_n dX9_hint_148 rfl rfl ?_
          refine q_mga 11 11 dX9_hint_149 hM fl_X9_41 rfl ?_
          refine q_iload dX9_hint_152 rfl ?_
          refine q_mld (k := 11) (v := nI (pz_cell A (A 19 g) ln k)) dX9_hint_154 hM (by decide) rfl (show _ < (10 : Nat) by omega) (congrArg nI (hk3 k (by omega)).1) (fun b154 => ?_)
          refine q_imul dX9_hint_155 (pk_mul _ _) ?_
          refine q_iload dX9_hint_156 rfl ?_
          refine q_iadd dX9_hint_158 (nI_add _ _) ?_
          exact q_ireturn dX9_hint_159 rfl rfl (by rw [show 0 = pz_log (pz_K A (A 19 g) ln (gm_S A g) k) by unfold pz_log; (repeat' split) <;> omega]; exact hE k G hkL hno ⟨hm0, hone⟩ hM)
        · refine s_iinc dX9_hint_131 rfl (s_inc1 _) (by decide) rfl ?_
          refine q_goto (tgt := 122) dX9_hint_134 (by decide) ?_
          refine q_iload dX9_hint_122 rfl ?_
          refine q_iload dX9_hint_124 rfl ?_
          refine q_ishr dX9_hint_126 (n_shr (by omega) (by decide)) ?_
          refine q_iconst (v := nI 1) dX9_hint_127 (by decide) ?_
          refine n_icmp_le (tgt := 137) dX9_hint_128 (by decide) (by have := hK16; omega) (by decide) (fun c128 => ?_) (fun c128 => ?_)
          · refine q_aload_n dX9_hint_137 rfl rfl ?_
            refine q_mga 30 23 dX9_hint_138 hM fl_X9_77 rfl ?_
            refine q_iload_n dX9_hint_141 rfl ?_
            refine q_dup2 dX9_hint_142 rfl rfl ?_
            refine q_mld (k := 23) (v := nI (A 23 g)) dX9_hint_143 hM (by decide) rfl (show _ < (20 : Nat) by omega) (congrArg nI (congrFun (hS.1.2 23 (by decide)) g)) (fun b143 => ?_)
            refine q_iconst (v := nI 1) dX9_hint_144 (by decide) ?_
            refine q_iadd dX9_hint_145 (nI_add _ _) ?_
            refine q_mst (k := 23) dX9_hint_146 hM (by decide) rfl (show _ < (20 : Nat) by omega) rfl (by have := hgg.2.2.2.1; have := hI.2.2.2.2.2.2.2.2.2.2.2.2; omega) (fun G hM => ?_)
            refine q_iconst (v := nI 4) dX9_hint_147 (by decide) ?_
            refine q_aload_n dX9_hint_148 rfl rfl ?_
            refine q_mga 11 11 dX9_hint_149 hM fl_X9_41 rfl ?_
            refine q_iload dX9_hint_152 rfl ?_
            refine q_mld (k := 11) (v := nI (pz_cell A (A 19 g) ln k)) dX9_hint_154 hM (by decide) rfl (show _ < (10 : Nat) by omega) (congrArg nI (hk3 k (by omega)).1) (fun b154 => ?_)
            refine q_imul dX9_hint_155 (pk_mul _ _) ?_
            refine q_iload dX9_hint_156 rfl ?_
            refine q_iadd dX9_hint_158 (nI_add _ _) ?_
            exact q_ireturn dX9_hint_159 rfl rfl (by rw [show 0 + 1 = pz_log (pz_K A (A 19 g) ln (gm_S A g) k) by unfold pz_log; (repeat' split) <;> omega]; exact hE k G hkL hno ⟨hm0, hone⟩ hM)
          · refine s_iinc dX9_hint_131 rfl (s_inc1 _) (by decide) rfl ?_
            refine q_goto (tgt := 122) dX9_hint_134 (by decide) ?_
            refine q_iload dX9_hint_122 rfl ?_
            refine q_iload dX9_hint_124 rfl ?_
            refine q_ishr dX9_hint_126 (n_shr (by omega) (by decide)) ?_
            refine q_iconst (v := nI 1) dX9_hint_127 (by decide) ?_
            refine n_icmp_le (tgt := 137) dX9_hint_128 (by decide) (by have := hK16; omega) (by decide) (fun c128 => ?_) (fun c128 => ?_)
            · refine q_aload_n dX9_hint_137 rfl rfl ?_
              refine q_mga 30 23 dX9_hint_138 hM fl_X9_77 rfl ?_
              refine q_iload_n dX9_hint_141 rfl ?_
              refine q_dup2 dX9_hint_142 rfl rfl ?_
              refine q_mld (k := 23) (v := nI (A 23 g)) dX9_hint_143 hM (by decide) rfl (show _ < (20 : Nat) by omega) (congrArg nI (congrFun (hS.1.2 23 (by decide)) g)) (fun b143 => ?_)
              refine q_iconst (v := nI 1) dX9_hint_144 (by decide) ?_
              refine q_iadd dX9_hint_145 (nI_add _ _) ?_
              refine q_mst (k := 23) dX9_hint_146 hM (by decide) rfl (show _ < (20 : Nat) by omega) rfl (by have := hgg.2.2.2.1; have := hI.2.2.2.2.2.2.2.2.2.2.2.2; omega) (fun G hM => ?_)
              refine q_iconst (v := nI 4) dX9_hint_147 (by decide) ?_
              refine q_aload_n dX9_hint_148 rfl rfl ?_
              refine q_mga 11 11 dX9_hint_149 hM fl_X9_41 rfl ?_
              refine q_iload dX9_hint_152 rfl ?_
              refine q_mld (k := 11) (v := nI (pz_cell A (A 19 g) ln k)) dX9_hint_154 hM (by decide) rfl (show _ < (10 : Nat) by omega) (congrArg nI (hk3 k (by omega)).1) (fun b154 => ?_)
              refine q_imul dX9_hint_155 (pk_mul _ _) ?_
              refine q_iload dX9_hint_156 rfl ?_
              refine q_iadd dX9_hint_158 (nI_add _ _) ?_
              exact q_ireturn dX9_hint_159 rfl rfl (by rw [show 0 + 1 + 1 = pz_log (pz_K A (A 19 g) ln (gm_S A g) k) by unfold pz_log; (repeat' split) <;> omega]; exact hE k G hkL hno ⟨hm0, hone⟩ hM)
            · refine s_iinc dX9_hint_131 rfl (s_inc1 _) (by decide) rfl ?_
              refine q_goto (tgt := 122) dX9_hint_134 (by decide) ?_
              refine q_iload dX9_hint_122 rfl ?_
              refine q_iload dX9_hint_124 rfl ?_
              refine q_ishr dX9_hint_126 (n_shr (by omega) (by decide)) ?_
              refine q_iconst (v := nI 1) dX9_hint_127 (by decide) ?_
              refine n_icmp_le (tgt := 137) dX9_hint_128 (by decide) (by have := hK16; omega) (by decide) (fun c128 => ?_) (fun c128 => ?_)
              · refine q_aload_n dX9_hint_137 rfl rfl ?_
                refine q_mga 30 23 dX9_hint_138 hM fl_X9_77 rfl ?_
                refine q_iload_n dX9_hint_141 rfl ?_
                refine q_dup2 dX9_hint_142 rfl rfl ?_
                refine q_mld (k := 23) (v := nI (A 23 g)) dX9_hint_143 hM (by decide) rfl (show _ < (20 : Nat) by omega) (congrArg nI (congrFun (hS.1.2 23 (by decide)) g)) (fun b143 => ?_)
                refine q_iconst (v := nI 1) dX9_hint_144 (by decide) ?_
                refine q_iadd dX9_hint_145 (nI_add _ _) ?_
                refine q_mst (k := 23) dX9_hint_146 hM (by decide) rfl (show _ < (20 : Nat) by omega) rfl (by have := hgg.2.2.2.1; have := hI.2.2.2.2.2.2.2.2.2.2.2.2; omega) (fun G hM => ?_)
                refine q_iconst (v := nI 4) dX9_hint_147 (by decide) ?_
                refine q_aload_n dX9_hint_148 rfl rfl ?_
                refine q_mga 11 11 dX9_hint_149 hM fl_X9_41 rfl ?_
                refine q_iload dX9_hint_152 rfl ?_
                refine q_mld (k := 11) (v := nI (pz_cell A (A 19 g) ln k)) dX9_hint_154 hM (by decide) rfl (show _ < (10 : Nat) by omega) (congrArg nI (hk3 k (by omega)).1) (fun b154 => ?_)
                refine q_imul dX9_hint_155 (pk_mul _ _) ?_
                refine q_iload dX9_hint_156 rfl ?_
                refine q_iadd dX9_hint_158 (nI_add _ _) ?_
                exact q_ireturn dX9_hint_159 rfl rfl (by rw [show 0 + 1 + 1 + 1 = pz_log (pz_K A (A 19 g) ln (gm_S A g) k) by unfold pz_log; (repeat' split) <;> omega]; exact hE k G hkL hno ⟨hm0, hone⟩ hM)
              · refine s_iinc dX9_hint_131 rfl (s_inc1 _) (by decide) rfl ?_
                refine q_goto (tgt := 122) dX9_hint_134 (by decide) ?_
                exact absurd (by assumption : 1 < pz_K A (A 19 g) ln (gm_S A g) k >>> (0 + 1 + 1 + 1)) (by have := hK16; omega)
      · refine q_goto (tgt := 160) dX9_hint_116 (by decide) ?_
        have hnh : ¬ gm_hit A g ln k := fun h => by rw [if_pos h.2] at c113; cases c113
        refine s_iinc dX9_hint_160 rfl (s_inc1 _) (by decide) rfl ?_
        refine q_goto (tgt := 61) dX9_hint_163 (by decide) ?_
        exact ih (k + 1) () (by omega) _ _ (by omega) (fun i hi => by rcases Nat.lt_or_ge i k with h | h; exact hno i h; rw [show i = k by omega]; exact hnh)

set_option maxHeartbeats 4000000 in
set_option maxRecDepth 100000 in
theorem l_X9_hint1 {T : q_T} {m : Nat} {G0 : q_G} {I : md_I} {A : md_A} {sz t : Nat} {E : q_E} {g : Nat} (hI : Inv t I A) (hg : g < I 7) (hB : ∀ (l : Nat) (G : q_G) (I1 : md_I) (A1 : md_A), l < A 1 (A 19 g) + A 2 (A 19 g) → (∀ i, i < l → gm_clean A g i) → pz_W A (A 19 g) l (gm_S A g) = 0 → Mod T m G0 I1 (md_st A1 23 g (A 23 g + 1)) G → Gs I I1 A A1 g → E (some (.int (-2 - nI l))) G sz) (hH : ∀ (l k : Nat) (G : q_G) (I1 : md_I) (A1 : md_A), l < A 1 (A 19 g) + A 2 (A 19 g) → (∀ i, i < l → gm_clean A g i) → 0 < pz_W A (A 19 g) l (gm_S A g) → k < pz_L A (A 19 g) l → (∀ i, i < k → ¬ gm_hit A g l i) → gm_hit A g l k → Mod T m G0 I1 (md_st A1 23 g (A 23 g + 1)) G → Gs I I1 A A1 g → E (some (.int (nI (4 * pz_cell A (A 19 g) l k + pz_log (pz_K A (A 19 g) l (gm_S A g) k))))) G sz) (hN : ∀ (G : q_G) (I1 : md_I) (A1 : md_A), (∀ i, i < A 1 (A 19 g) + A 2 (A 19 g) → gm_clean A g i) → Mod T m G0 I1 A1 G → Gs I I1 A A1 g → E (some (.int (-1))) G sz) : ∀ (ln : Nat) (a : q_G × md_I × md_A), ∀ x4 x5 x6 : Option Value, ln ≤ A 1 (A 19 g) + A 2 (A 19 g) → Mod T m G0 a.2.1 a.2.2 a.1 → Gs I a.2.1 A a.2.2 g → (∀ i, i < ln → gm_clean A g i) → q_R T mX9_hint 3 74 24 [some (.ref m), some (.int (nI g)), some (.int (nI (A 19 g))), some (.int (nI ln)), x4, x5, x6] [] a.1 sz 0 0 E := by
  refine q_indN (fun ln _ => A 1 (A 19 g) + A 2 (A 19 g) - ln) _ (fun ln a ih => ?_)
  obtain ⟨G, I1, A1⟩ := a
  intro x4 x5 x6 hc2 hM hS hcl
  dsimp only at hM hS ⊢
  have hg20 := hI.2.2.2.2.1
  have hgg := hI.2.2.2.2.2.1 g hg
  have hp30 := hI.1
  have hzg := (hI.2.1 _ hgg.1).1
  have hsg := pz_size hzg
  have hz3 := hzg.2.2.2.1
  have hwp := hI.puz _ hgg.1
  refine q_iload_n dX9_hint_24 rfl ?_
  refine q_aload_n dX9_hint_25 rfl rfl ?_
  refine q_iload_n dX9_hint_26 rfl ?_
  refine q_iv (As := [_]) dX9_hint_27 ml_X9_104 mt_X9_linesOf mi_X9_linesOf se_X9_linesOf hM.1 rfl rfl (Nat.le_of_ble_eq_true rfl) (Nat.le_of_ble_eq_true rfl) (Nat.zero_le _) (Nat.zero_le _) (Nat.le_of_ble_eq_true rfl) (q_C.mono (c_X9_linesOf (w := A 1 (A 19 g)) (h := A 2 (A 19 g)) hM (by omega) (congrFun (hS.1.lt 1 (by decide)) _) (congrFun (hS.1.lt 2 (by decide)) _)) (fun v G1 sz1 hq => ?_))
  obtain ⟨rfl, rfl, rfl⟩ := hq
  refine n_icmp_ge (tgt := 172) dX9_hint_30 (by decide) (by omega) (by omega) (fun c30 => ?_) (fun c30 => ?_)
  · obtain rfl : ln = A 1 (A 19 g) + A 2 (A 19 g) := by omega
    refine q_iconst (v := -1) dX9_hint_172 (by decide) ?_
    exact q_ireturn dX9_hint_173 rfl rfl (hN G I1 A1 hcl hM hS)
  · refine q_aload_n dX9_hint_33 rfl rfl ?_
    refine q_iload_n dX9_hint_34 rfl ?_
    refine q_iload_n dX9_hint_35 rfl ?_
    refine q_iconst (v := nI 0) dX9_hint_36 (by decide) ?_
    refine q_iv (As := [_, _, _]) dX9_hint_37 ml_X9_150 mt_X9_lists mi_X9_lists se_X9_lists hM.1 rfl rfl (Nat.le_of_ble_eq_true rfl) (Nat.le_of_ble_eq_true rfl) (Nat.zero_le _) (Nat.zero_le _) (Nat.le_of_ble_eq_true rfl) (q_C.mono (c_X9_listsG hM hI hg hS c30) (fun v G sz1 hq => ?_))
    obtain ⟨rfl, I1, A1, rfl, hM, hS, hL1, hk3⟩ := hq
    refine n_if_ne (tgt := 58) dX9_hint_40 (by decide) (by have := pz_W_le (S := gm_S A g) hzg c30; omega) (fun c40 => ?_) (fun c40 => ?_)
    · refine q_iconst (v := nI 0) dX9_hint_58 (by decide) ?_
      refine s_istore dX9_hint_59 (by decide) rfl ?_
      refine l_X9_hint2 hM hI hg hS c30 (Nat.pos_of_ne_zero c40) hL1 hk3 (fun x5 x6 hnone => ?_) (fun k G h1 h2 h3 hM => hH ln k G I1 A1 c30 hcl (Nat.pos_of_ne_zero c40) h1 h2 h3 hM hS) 0 () _ _ (Nat.zero_le _) (fun i hi => by omega)
      refine s_iinc dX9_hint_166 rfl (s_inc1 _) (by decide) rfl ?_
      refine q_goto (tgt := 24) dX9_hint_169 (by decide) ?_
      exact ih (ln + 1) (G, I1, A1) (by omega) _ _ _ (by omega) hM hS (fun i hi => by rcases Nat.lt_or_ge i ln with h | h; exact hcl i h; rw [show i = ln by omega]; exact ⟨Nat.pos_of_ne_zero c40, hnone⟩)
    · refine q_aload_n dX9_hint_43 rfl rfl ?_
      refine q_mga 30 23 dX9_hint_44 hM fl_X9_77 rfl ?_
      refine q_iload_n dX9_hint_47 rfl ?_
      refine q_dup2 dX9_hint_48 rfl rfl ?_
      refine q_mld (k := 23) (v := nI (A 23 g)) dX9_hint_49 hM (by decide) rfl (show _ < (20 : Nat) by omega) (congrArg nI (congrFun (hS.1.2 23 (by decide)) g)) (fun b49 => ?_)
      refine q_iconst (v := nI 1) dX9_hint_50 (by decide) ?_
      refine q_iadd dX9_hint_51 (nI_add _ _) ?_
      refine q_mst (k := 23) dX9_hint_52 hM (by decide) rfl (show _ < (20 : Nat) by omega) rfl (by have := hgg.2.2.2.1; have := hI.2.2.2.2.2.2.2.2.2.2.2.2; omega) (fun G hM => ?_)
      refine q_bipush (v := -2) dX9_hint_53 (by decide) ?_
      refine q_iload_n dX9_hint_55 rfl ?_
      refine q_isub dX9_hint_56 rfl ?_
      exact q_ireturn dX9_hint_57 rfl rfl (hB ln G I1 A1 c30 hcl c40 hM hS)

set_option maxHeartbeats 4000000 in
set_option maxRecDepth 100000 in
theorem c_X9_hint {T : q_T} {m : Nat} {G0 G : q_G} {I : md_I} {A : md_A} {sz t : Nat} (hM : Mod T m G0 I A G) (hI : Inv t I A) (x : Int32) : q_C T mX9_hint 3 74 0 0 [.ref m, .int x] G sz (fun v G' sz' => sz = sz' ∧ ∃ (I' : md_I) (A' : md_A), Mod T m G0 I' A' G' ∧ ∃ (z : Int32) (I2 : md_I) (A2 : md_A), v = some (.int z) ∧ D_hint I A x z I2 A2 ∧ Per I2 I' A2 A') := by
  refine q_C.of (by decide) rfl (by simp [Value.category]) (Nat.le_of_ble_eq_true rfl) ?_
  refine q_aload_n dX9_hint_0 rfl rfl ?_
  refine q_iload_n dX9_hint_1 rfl ?_
  refine q_iv (As := [_]) dX9_hint_2 ml_X9_216 mt_X9_isGame mi_X9_isGame se_X9_isGame hM.1 rfl rfl (Nat.le_of_ble_eq_true rfl) (Nat.le_of_ble_eq_true rfl) (Nat.zero_le _) (Nat.zero_le _) (Nat.le_of_ble_eq_true rfl) (q_C.mono (c_X9_isGame hM _) (fun v G1 sz1 hq => ?_))
  obtain ⟨⟨⟨g, hg, rfl⟩, rfl⟩ | ⟨hV2, rfl⟩, rfl, rfl⟩ := hq
  · have hg20 := hI.2.2.2.2.1
    have hgg := hI.2.2.2.2.2.1 g hg
    have hp30 := hI.1
    have hzg := (hI.2.1 _ hgg.1).1
    have hsg := pz_size hzg
    refine q_if_ne (tgt := 10) dX9_hint_5 (by decide) (fun _ => ?_) (fun h => absurd h (by decide))
    refine q_aload_n dX9_hint_10 rfl rfl ?_
    refine q_mga 26 19 dX9_hint_11 hM fl_X9_65 rfl ?_
    refine q_iload_n dX9_hint_14 rfl ?_
    refine q_mld (k := 19) (v := nI (A 19 g)) dX9_hint_15 hM (by decide) rfl (show _ < (20 : Nat) by omega) rfl (fun b15 => ?_)
    refine s_istore_n dX9_hint_16 (by decide) rfl ?_
    refine q_aload_n dX9_hint_17 rfl rfl ?_
    refine q_iload_n dX9_hint_18 rfl ?_
    refine q_iv (As := [_]) dX9_hint_19 ml_X9_219 mt_X9_marksAsSets mi_X9_marksAsSets se_X9_marksAsSets hM.1 rfl rfl (Nat.le_of_ble_eq_true rfl) (Nat.le_of_ble_eq_true rfl) (Nat.zero_le _) (Nat.zero_le _) (Nat.le_of_ble_eq_true rfl) (q_C.mono (c_X9_marksAsSets hM hI hg) (fun v G sz1 hq => ?_))
    obtain ⟨rfl, rfl, hM⟩ := hq
    refine q_iconst (v := nI 0) dX9_hint_22 (by decide) ?_
    refine s_istore_n dX9_hint_23 (by decide) rfl ?_
    exact l_X9_hint1 hI hg (fun l G I1 A1 h1 h2 h3 hM hS => ⟨rfl, I1, _, hM, _, I, _, rfl, ⟨rfl, Or.inl ⟨g, hg, rfl, Or.inl ⟨l, h1, h2, h3, rfl, rfl⟩⟩⟩, hS.1.per.st (by decide) _ _⟩) (fun l k G I1 A1 h1 h2 h3 h4 h5 h6 hM hS => ⟨rfl, I1, _, hM, _, I, _, rfl, ⟨rfl, Or.inl ⟨g, hg, rfl, Or.inr (Or.inl ⟨l, k, h1, h2, h3, h4, h5, h6, rfl, rfl⟩)⟩⟩, hS.1.per.st (by decide) _ _⟩) (fun G I1 A1 h1 hM hS => ⟨rfl, I1, A1, hM, _, I, A, rfl, ⟨rfl, Or.inl ⟨g, hg, rfl, Or.inr (Or.inr ⟨h1, rfl, rfl⟩)⟩⟩, hS.1.per⟩) 0 (G, I, _) _ _ _ (Nat.zero_le _) hM Gs.ld (fun i hi => by omega)
  · refine q_if_ne (tgt := 10) dX9_hint_5 (by decide) (fun h => absurd h (by decide)) (fun _ => ?_)
    refine q_iconst (v := -1) dX9_hint_8 (by decide) ?_
    exact q_ireturn dX9_hint_9 rfl rfl ⟨rfl, I, A, hM, _, I, A, rfl, ⟨rfl, Or.inr ⟨fun ⟨g, h1, h2⟩ => hV2 ⟨g, h1, h2⟩, rfl, rfl⟩⟩, Per.rfl'⟩
