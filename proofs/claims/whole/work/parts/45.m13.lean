/-- what is needed ahead of run k of the runs c', l' -/
def rn_T (c l : Nat → Nat) : Nat → Nat
  | 0 => 0
  | k + 1 => rn_T c l k + (l k + if c (k + 1) = c k then 1 else 0)
theorem rn_T_S (c l : Nat → Nat) : ∀ k, ln_S c l (k + 1) 0 = rn_T c l k + l k := by
  intro k
  induction k with
  | zero => simp [ln_S, ln_sp, rn_T]
  | succ k ih =>
    rw [ln_S_snoc, ih, Nat.zero_add]
    show _ = rn_T c l k + (l k + if c (k + 1) = c k then 1 else 0) + l (k + 1)
    have : ln_sp c (k + 1) = if c (k + 1) = c k then 1 else 0 := by simp [ln_sp]
    rw [this]
    omega
theorem rn_T_le {c l : Nat → Nat} {n : Nat} (h : ∀ i, i < n → l i ≤ 10) : ∀ k, k ≤ n → rn_T c l k ≤ 11 * k := by
  intro k
  induction k with
  | zero => intro _; exact Nat.zero_le _
  | succ k ih =>
    intro hk
    have h1 := ih (by omega); have h2 := h k (by omega)
    show rn_T c l k + (l k + if c (k + 1) = c k then 1 else 0) ≤ _
    split <;> omega
theorem rn_T_ge {c l : Nat → Nat} {n : Nat} (h : ∀ i, i < n → 1 ≤ l i) : ∀ k, k ≤ n → k ≤ rn_T c l k := by
  intro k
  induction k with
  | zero => intro _; exact Nat.zero_le _
  | succ k ih =>
    intro hk
    have h1 := ih (by omega); have h2 := h k (by omega)
    show _ ≤ rn_T c l k + (l k + if c (k + 1) = c k then 1 else 0)
    omega
/-- the runs with one more -/
def rn_c (A : md_A) (p ln c : Nat) : Nat → Nat := va_up (pz_c A p ln) (pz_n A p ln) c
def rn_l (A : md_A) (p ln l : Nat) : Nat → Nat := va_up (pz_l A p ln) (pz_n A p ln) l
def D_rn (I : md_I) (A : md_A) (x y w u : Int32) (p ln c l : Nat) : Prop := D_line I A x y p ln ∧ (1 ≤ c ∧ c ≤ A 3 p ∧ w = nI c) ∧ (1 ≤ l ∧ l ≤ 10 ∧ u = nI l) ∧ A 4 p = 0 ∧ ln_S (rn_c A p ln c) (rn_l A p ln l) (pz_n A p ln + 1) 0 ≤ pz_L A p ln
def D_runA (A : md_A) (p ln c l : Nat) : md_A := md_fill (md_st (md_st (md_st A 6 (10 * (20 * p + ln) + pz_n A p ln) c) 7 (10 * (20 * p + ln) + pz_n A p ln) l) 5 (20 * p + ln) (pz_n A p ln + 1)) 8 (100 * p) (A 1 p * A 2 p) (1 <<< (A 3 p + 1) - 1)
def D_run (I : md_I) (A : md_A) (x y w u z : Int32) (I2 : md_I) (A2 : md_A) : Prop := I2 = I ∧ ((∃ p ln c l, D_rn I A x y w u p ln c l ∧ z = nI (pz_n A p ln + 1) ∧ A2 = D_runA A p ln c l) ∨ (¬ (∃ p ln c l, D_rn I A x y w u p ln c l) ∧ z = -1 ∧ A2 = A))

set_option maxHeartbeats 4000000 in
set_option maxRecDepth 100000 in
theorem l_X9_run {T : q_T} {m : Nat} {G0 G : q_G} {I : md_I} {A : md_A} {sz t : Nat} {E : q_E} {p ln c l : Nat} (hM : Mod T m G0 I A G) (hI : Inv t I A) (hp : p < I 0) (hln : ln < A 1 p + A 2 p) (hc : c ≤ 3) (hl : l ≤ 10) (hx : ∀ x9 : Option Value, q_R T mX9_run 3 65 151 [some (.ref m), some (.int (nI p)), some (.int (nI ln)), some (.int (nI c)), some (.int (nI l)), some (.int (nI (pz_n A p ln))), some (.int (nI (10 * (20 * p + ln)))), some (.int (nI (l + rn_T (rn_c A p ln c) (pz_l A p ln) (pz_n A p ln)))), some (.int (nI (pz_n A p ln))), x9] [] G sz 0 0 E) : ∀ (k : Nat) (_ : Unit), ∀ x9 : Option Value, k ≤ pz_n A p ln → q_R T mX9_run 3 65 75 [some (.ref m), some (.int (nI p)), some (.int (nI ln)), some (.int (nI c)), some (.int (nI l)), some (.int (nI (pz_n A p ln))), some (.int (nI (10 * (20 * p + ln)))), some (.int (nI (l + rn_T (rn_c A p ln c) (pz_l A p ln) k))), some (.int (nI k)), x9] [] G sz 0 0 E := by
  refine q_indN (fun k _ => pz_n A p ln - k) _ (fun k _ ih => ?_)
  intro x9 hk
  have hz := (hI.2.1 p hp).1
  have hp30 := hI.1
  have hww := hI.puz p hp
  have hn10 := (hz.2.2.2.2 ln hln).1
  refine q_iload dX9_run_75 rfl ?_
  refine q_iload dX9_run_77 rfl ?_
  refine n_icmp_ge (tgt := 151) dX9_run_79 (by decide) (by omega) (by omega) (fun c79 => ?_) (fun c79 => ?_)
  · obtain rfl : k = pz_n A p ln := by omega
    exact hx _
  · have hcs : rn_c A p ln c (k + 1) ≤ 100000 := by unfold rn_c va_up; split; omega; exact hM.2.2.2.2 6 _
    have hck : rn_c A p ln c k ≤ 100000 := by unfold rn_c va_up; split; omega; exact hM.2.2.2.2 6 _
    refine q_iload dX9_run_82 rfl ?_
    refine q_iconst (v := nI 1) dX9_run_84 (by decide) ?_
    refine q_iadd dX9_run_85 (nI_add _ _) ?_
    refine q_iload dX9_run_86 rfl ?_
    refine n_icmp_ge (tgt := 106) dX9_run_88 (by decide) (by omega) (by omega) (fun c88 => ?_) (fun c88 => ?_)
    · have hlast : rn_c A p ln c (k + 1) = c := by unfold rn_c va_up; rw [if_pos (by omega)]
      refine q_iload_n dX9_run_106 rfl ?_
      refine s_istore (x := nI c) dX9_run_107 (by decide) rfl ?_
      refine q_iload dX9_run_109 rfl ?_
      refine q_aload_n dX9_run_111 rfl rfl ?_
      refine q_mga 7 7 dX9_run_112 hM fl_X9_29 rfl ?_
      refine q_iload dX9_run_115 rfl ?_
      refine q_iload dX9_run_117 rfl ?_
      refine q_iadd dX9_run_119 (nI_add _ _) ?_
      refine q_mld (k := 7) (v := nI (pz_l A p ln k)) dX9_run_120 hM (by decide) rfl (show _ < (6000 : Nat) by omega) rfl (fun b120 => ?_)
      refine q_iload dX9_run_121 rfl ?_
      refine q_aload_n dX9_run_123 rfl rfl ?_
      refine q_mga 6 6 dX9_run_124 hM fl_X9_26 rfl ?_
      refine q_iload dX9_run_127 rfl ?_
      refine q_iload dX9_run_129 rfl ?_
      refine q_iadd dX9_run_131 (nI_add _ _) ?_
      refine q_mld (k := 6) (v := nI (rn_c A p ln c k)) dX9_run_132 hM (by decide) rfl (show _ < (6000 : Nat) by omega) (congrArg nI (by unfold rn_c va_up; rw [if_neg (by omega)]; rfl)) (fun b132 => ?_)
      refine n_icmp_ne (tgt := 140) dX9_run_133 (by decide) (by omega) (by omega) (fun c133 => ?_) (fun c133 => ?_)
      · refine q_iconst (v := nI 0) dX9_run_140 (by decide) ?_
        refine q_iadd dX9_run_141 (nI_add _ _) ?_
        refine q_iadd dX9_run_142 (nI_add _ _) ?_
        refine s_istore dX9_run_143 (by decide) rfl ?_
        refine s_iinc dX9_run_145 rfl (s_inc1 _) (by decide) rfl ?_
        refine q_goto (tgt := 75) dX9_run_148 (by decide) ?_
        rw [show l + rn_T (rn_c A p ln c) (pz_l A p ln) k + (pz_l A p ln k + 0) = l + rn_T (rn_c A p ln c) (pz_l A p ln) (k + 1) by show _ = l + (rn_T (rn_c A p ln c) (pz_l A p ln) k + (pz_l A p ln k + if rn_c A p ln c (k + 1) = rn_c A p ln c k then 1 else 0)); rw [if_neg (fun e => c133 (hlast.symm.trans e))]; omega]
        exact ih (k + 1) () (by omega) _ (by omega)
      · refine q_iconst (v := nI 1) dX9_run_136 (by decide) ?_
        refine q_goto (tgt := 141) dX9_run_137 (by decide) ?_
        refine q_iadd dX9_run_141 (nI_add _ _) ?_
        refine q_iadd dX9_run_142 (nI_add _ _) ?_
        refine s_istore dX9_run_143 (by decide) rfl ?_
        refine s_iinc dX9_run_145 rfl (s_inc1 _) (by decide) rfl ?_
        refine q_goto (tgt := 75) dX9_run_148 (by decide) ?_
        rw [show l + rn_T (rn_c A p ln c) (pz_l A p ln) k + (pz_l A p ln k + 1) = l + rn_T (rn_c A p ln c) (pz_l A p ln) (k + 1) by show _ = l + (rn_T (rn_c A p ln c) (pz_l A p ln) k + (pz_l A p ln k + if rn_c A p ln c (k + 1) = rn_c A p ln c k then 1 else 0)); rw [if_pos (hlast.trans c133)]; omega]
        exact ih (k + 1) () (by omega) _ (by omega)
    · refine q_aload_n dX9_run_91 rfl rfl ?_
      refine q_mga 6 6 dX9_run_92 hM fl_X9_26 rfl ?_
      refine q_iload dX9_run_95 rfl ?_
      refine q_iload dX9_run_97 rfl ?_
      refine q_iadd dX9_run_99 (nI_add _ _) ?_
      refine q_iconst (v := nI 1) dX9_run_100 (by decide) ?_
      refine q_iadd dX9_run_101 (nI_add _ _) ?_
      refine q_mld (k := 6) (v := nI (rn_c A p ln c (k + 1))) dX9_run_102 hM (by decide) rfl (show _ < (6000 : Nat) by omega) (congrArg nI (by rw [show 10 * (20 * p + ln) + k + 1 = 10 * (20 * p + ln) + (k + 1) by omega]; unfold rn_c va_up; rw [if_neg (by omega)]; rfl)) (fun b102 => ?_)
      refine q_goto (tgt := 107) dX9_run_103 (by decide) ?_
      refine s_istore dX9_run_107 (by decide) rfl ?_
      refine q_iload dX9_run_109 rfl ?_
      refine q_aload_n dX9_run_111 rfl rfl ?_
      refine q_mga 7 7 dX9_run_112 hM fl_X9_29 rfl ?_
      refine q_iload dX9_run_115 rfl ?_
      refine q_iload dX9_run_117 rfl ?_
      refine q_iadd dX9_run_119 (nI_add _ _) ?_
      refine q_mld (k := 7) (v := nI (pz_l A p ln k)) dX9_run_120 hM (by decide) rfl (show _ < (6000 : Nat) by omega) rfl (fun b120 => ?_)
      refine q_iload dX9_run_121 rfl ?_
      refine q_aload_n dX9_run_123 rfl rfl ?_
      refine q_mga 6 6 dX9_run_124 hM fl_X9_26 rfl ?_
      refine q_iload dX9_run_127 rfl ?_
      refine q_iload dX9_run_129 rfl ?_
      refine q_iadd dX9_run_131 (nI_add _ _) ?_
      refine q_mld (k := 6) (v := nI (rn_c A p ln c k)) dX9_run_132 hM (by decide) rfl (show _ < (6000 : Nat) by omega) (congrArg nI (by unfold rn_c va_up; rw [if_neg (by omega)]; rfl)) (fun b132 => ?_)
      refine n_icmp_ne (tgt := 140) dX9_run_133 (by decide) (by omega) (by omega) (fun c133 => ?_) (fun c133 => ?_)
      · refine q_iconst (v := nI 0) dX9_run_140 (by decide) ?_
        refine q_iadd dX9_run_141 (nI_add _ _) ?_
        refine q_iadd dX9_run_142 (nI_add _ _) ?_
        refine s_istore dX9_run_143 (by decide) rfl ?_
        refine s_iinc dX9_run_145 rfl (s_inc1 _) (by decide) rfl ?_
        refine q_goto (tgt := 75) dX9_run_148 (by decide) ?_
        rw [show l + rn_T (rn_c A p ln c) (pz_l A p ln) k + (pz_l A p ln k + 0) = l + rn_T (rn_c A p ln c) (pz_l A p ln) (k + 1) by show _ = l + (rn_T (rn_c A p ln c) (pz_l A p ln) k + (pz_l A p ln k + if rn_c A p ln c (k + 1) = rn_c A p ln c k then 1 else 0)); rw [if_neg c133]; omega]
        exact ih (k + 1) () (by omega) _ (by omega)
      · refine q_iconst (v := nI 1) dX9_run_136 (by decide) ?_
        refine q_goto (tgt := 141) dX9_run_137 (by decide) ?_
        refine q_iadd dX9_run_141 (nI_add _ _) ?_
        refine q_iadd dX9_run_142 (nI_add _ _) ?_
        refine s_istore dX9_run_143 (by decide) rfl ?_
        refine s_iinc dX9_run_145 rfl (s_inc1 _) (by decide) rfl ?_
        refine q_goto (tgt := 75) dX9_run_148 (by decide) ?_
        rw [show l + rn_T (rn_c A p ln c) (pz_l A p ln) k + (pz_l A p ln k + 1) = l + rn_T (rn_c A p ln c) (pz_l A p ln) (k + 1) by show _ = l + (rn_T (rn_c A p ln c) (pz_l A p ln) k + (pz_l A p ln k + if rn_c A p ln c (k + 1) = rn_c A p ln c k then 1 else 0)); rw [if_pos c133]; omega]
        exact ih (k + 1) () (by omega) _ (by omega)

set_option maxHeartbeats 4000000 in
set_option maxRecDepth 100000 in
theorem c_X9_run {T : q_T} {m : Nat} {G0 G : q_G} {I : md_I} {A : md_A} {sz t : Nat} (hM : Mod T m G0 I A G) (hI : Inv t I A) (x y w u : Int32) : q_C T mX9_run 3 65 0 0 [.ref m, .int x, .int y, .int w, .int u] G sz (fun v G' sz' => sz = sz' ∧ ∃ (I' : md_I) (A' : md_A), Mod T m G0 I' A' G' ∧ ∃ (z : Int32) (I2 : md_I) (A2 : md_A), v = some (.int z) ∧ D_run I A x y w u z I2 A2 ∧ Per I2 I' A2 A') := by
  refine q_C.of (by decide) rfl (by simp [Value.category]) (Nat.le_of_ble_eq_true rfl) ?_
  refine q_aload_n dX9_run_0 rfl rfl ?_
  refine q_iload_n dX9_run_1 rfl ?_
  refine q_iload_n dX9_run_2 rfl ?_
  refine q_iv (As := [_, _]) dX9_run_3 ml_X9_117 mt_X9_isLine mi_X9_isLine se_X9_isLine hM.1 rfl rfl (Nat.le_of_ble_eq_true rfl) (Nat.le_of_ble_eq_true rfl) (Nat.zero_le _) (Nat.zero_le _) (Nat.le_of_ble_eq_true rfl) (q_C.mono (c_X9_isLine hM hI.1 hI.puz _ _) (fun v G1 sz1 hq => ?_))
  obtain ⟨⟨⟨p, ln, hp, rfl, hln, rfl⟩, rfl⟩ | ⟨hV3, rfl⟩, rfl, rfl⟩ := hq
  · have hz := (hI.2.1 p hp).1
    have hp30 := hI.1
    have hww := hI.puz p hp
    have hz3 := hz.2.2.2.1
    have hsz := pz_size hz
    have hn10 := (hz.2.2.2.2 ln hln).1
    refine q_if_eq (tgt := 45) dX9_run_6 (by decide) (fun h => absurd h (by decide)) (fun _ => ?_)
    refine q_iload_n dX9_run_9 rfl ?_
    refine q_iconst (v := nI 1) dX9_run_10 (by decide) ?_
    refine q_aload_n dX9_run_11 rfl rfl ?_
    refine q_mga 3 3 dX9_run_12 hM fl_X9_16 rfl ?_
    refine q_iload_n dX9_run_15 rfl ?_
    refine q_mld (k := 3) (v := nI (A 3 p)) dX9_run_16 hM (by decide) rfl (show _ < (30 : Nat) by omega) rfl (fun b16 => ?_)
    refine q_is (As := [_, _, _]) dX9_run_17 ml_X9_96 mt_X9_in ms_X9_in rfl (Nat.le_of_ble_eq_true rfl) (Nat.le_of_ble_eq_true rfl) (Nat.zero_le _) (Nat.zero_le _) (Nat.le_of_ble_eq_true rfl) (q_C.mono (c_X9_in _ _ _) (fun v G1 sz1 hq => ?_))
    rw [q_ixr (by omega) (by omega)] at hq
    obtain ⟨⟨⟨c, hc, hc2, rfl⟩, rfl⟩ | ⟨hV17, rfl⟩, rfl, rfl⟩ := hq
    · refine q_if_eq (tgt := 45) dX9_run_20 (by decide) (fun h => absurd h (by decide)) (fun _ => ?_)
      refine q_iload dX9_run_23 rfl ?_
      refine q_iconst (v := nI 1) dX9_run_25 (by decide) ?_
      refine q_icmp_lt (tgt := 45) dX9_run_26 (by decide) (fun c26 => ?_) (fun c26 => ?_)
      · refine q_iconst (v := -1) dX9_run_45 (by decide) ?_
        exact q_ireturn dX9_run_46 rfl rfl ⟨rfl, I, A, hM, _, I, A, rfl, ⟨rfl, Or.inr ⟨fun ⟨p', ln', c', l', ⟨g1, g2, g3, g4⟩, ⟨h1, h2, h3⟩, ⟨h4, h5, h6⟩, h7, h8⟩ => (by rw [h6] at c26; exact absurd c26 (nI_nlt (by omega) (by omega))), rfl, rfl⟩⟩, Per.rfl'⟩
      · refine q_iload dX9_run_29 rfl ?_
        refine q_bipush (v := nI 10) dX9_run_31 (by decide) ?_
        refine q_icmp_gt (tgt := 45) dX9_run_33 (by decide) (fun c33 => ?_) (fun c33 => ?_)
        · refine q_iconst (v := -1) dX9_run_45 (by decide) ?_
          exact q_ireturn dX9_run_46 rfl rfl ⟨rfl, I, A, hM, _, I, A, rfl, ⟨rfl, Or.inr ⟨fun ⟨p', ln', c', l', ⟨g1, g2, g3, g4⟩, ⟨h1, h2, h3⟩, ⟨h4, h5, h6⟩, h7, h8⟩ => (by rw [h6] at c33; exact absurd c33 (nI_nlt (by omega) (by omega))), rfl, rfl⟩⟩, Per.rfl'⟩
        · obtain ⟨l, hl, hl2, rfl⟩ := (q_ixr (lo := 1) (hi := 10) (by omega) (by omega)).mp ⟨Int32.not_lt.mp c26, Int32.not_lt.mp c33⟩
          refine q_aload_n dX9_run_36 rfl rfl ?_
          refine q_mga 4 4 dX9_run_37 hM fl_X9_19 rfl ?_
          refine q_iload_n dX9_run_40 rfl ?_
          refine q_mldZ (v := nI _) dX9_run_41 hM rfl (by omega) rfl (fun b41 => ?_)
          refine n_if_eq (tgt := 47) dX9_run_42 (by decide) (by omega) (fun c42 => ?_) (fun c42 => ?_)
          · refine q_aload_n dX9_run_47 rfl rfl ?_
            refine q_mga 5 5 dX9_run_48 hM fl_X9_23 rfl ?_
            refine q_bipush (v := nI 20) dX9_run_51 (by decide) ?_
            refine q_iload_n dX9_run_53 rfl ?_
            refine q_imul dX9_run_54 (pk_mul _ _) ?_
            refine q_iload_n dX9_run_55 rfl ?_
            refine q_iadd dX9_run_56 (nI_add _ _) ?_
            refine q_mld (k := 5) (v := nI (pz_n A p ln)) dX9_run_57 hM (by decide) rfl (show _ < (600 : Nat) by omega) rfl (fun b57 => ?_)
            refine s_istore dX9_run_58 (by decide) rfl ?_
            refine q_aload_n dX9_run_60 rfl rfl ?_
            refine q_iload_n dX9_run_61 rfl ?_
            refine q_iload_n dX9_run_62 rfl ?_
            refine q_iv (As := [_, _]) dX9_run_63 ml_X9_121 mt_X9_runAt mi_X9_runAt se_X9_runAt hM.1 rfl rfl (Nat.le_of_ble_eq_true rfl) (Nat.le_of_ble_eq_true rfl) (Nat.zero_le _) (Nat.zero_le _) (Nat.le_of_ble_eq_true rfl) (q_C.mono (c_X9_runAt hM _ _) (fun v G1 sz1 hq => ?_))
            obtain ⟨rfl, rfl, rfl⟩ := hq
            refine s_istore dX9_run_66 (by decide) rfl ?_
            refine q_iload dX9_run_68 rfl ?_
            refine s_istore dX9_run_70 (by decide) rfl ?_
            refine q_iconst (v := nI 0) dX9_run_72 (by decide) ?_
            refine s_istore dX9_run_73 (by decide) rfl ?_
            refine l_X9_run hM hI hp hln (by omega) hl2 (fun x9 => ?_) 0 () _ (Nat.zero_le _)
            have hT : ln_S (rn_c A p ln c) (rn_l A p ln l) (pz_n A p ln + 1) 0 = l + rn_T (rn_c A p ln c) (pz_l A p ln) (pz_n A p ln) := by
              rw [rn_T_S]
              have h1 : rn_l A p ln l (pz_n A p ln) = l := by simp [rn_l, va_up]
              have h2 : ∀ k, k ≤ pz_n A p ln → rn_T (rn_c A p ln c) (rn_l A p ln l) k = rn_T (rn_c A p ln c) (pz_l A p ln) k := by
                intro k
                induction k with
                | zero => intro _; rfl
                | succ k ih => intro hk; show _ + (_ + _) = _ + (_ + _); rw [ih (by omega), show rn_l A p ln l k = pz_l A p ln k by unfold rn_l va_up; rw [if_neg (by omega)]]
              rw [h1, h2 _ (Nat.le_refl _)]; omega
            have hTle := rn_T_le (c := rn_c A p ln c) (l := pz_l A p ln) (n := pz_n A p ln) (fun i hi => Nat.le_trans (ln_l_le hi) (Nat.le_trans (hz.2.2.2.2 ln hln).2.1 (pz_L_le hz))) (pz_n A p ln) (Nat.le_refl _)
            have hTge := rn_T_ge (c := rn_c A p ln c) (l := pz_l A p ln) (n := pz_n A p ln) (fun i hi => ((hz.2.2.2.2 ln hln).2.2 i hi).2.2) (pz_n A p ln) (Nat.le_refl _)
            refine q_iload dX9_run_151 rfl ?_
            refine q_aload_n dX9_run_153 rfl rfl ?_
            refine q_iload_n dX9_run_154 rfl ?_
            refine q_iload_n dX9_run_155 rfl ?_
            refine q_iv (As := [_, _]) dX9_run_156 ml_X9_125 mt_X9_lineLength mi_X9_lineLength se_X9_lineLength hM.1 rfl rfl (Nat.le_of_ble_eq_true rfl) (Nat.le_of_ble_eq_true rfl) (Nat.zero_le _) (Nat.zero_le _) (Nat.le_of_ble_eq_true rfl) (q_C.mono (c_X9_lineLength (w := A 1 p) (h := A 2 p) hM (by omega) rfl rfl (by omega)) (fun v G1 sz1 hq => ?_))
            obtain ⟨rfl, rfl, rfl⟩ := hq
            have hL10 : (if ln < A 2 p then A 1 p else A 2 p) ≤ 10 := pz_L_le (ln := ln) hz
            refine n_icmp_le (tgt := 164) dX9_run_159 (by decide) (by omega) (by omega) (fun c159 => ?_) (fun c159 => ?_)
            · refine q_aload_n dX9_run_164 rfl rfl ?_
              refine q_mga 6 6 dX9_run_165 hM fl_X9_26 rfl ?_
              refine q_iload dX9_run_168 rfl ?_
              refine q_iload dX9_run_170 rfl ?_
              refine q_iadd dX9_run_172 (nI_add _ _) ?_
              refine q_iload_n dX9_run_173 rfl ?_
              refine q_mst (k := 6) dX9_run_174 hM (by decide) rfl (show _ < (6000 : Nat) by omega) rfl (by omega) (fun G hM => ?_)
              refine q_aload_n dX9_run_175 rfl rfl ?_
              refine q_mga 7 7 dX9_run_176 hM fl_X9_29 rfl ?_
              refine q_iload dX9_run_179 rfl ?_
              refine q_iload dX9_run_181 rfl ?_
              refine q_iadd dX9_run_183 (nI_add _ _) ?_
              refine q_iload dX9_run_184 rfl ?_
              refine q_mst (k := 7) dX9_run_186 hM (by decide) rfl (show _ < (6000 : Nat) by omega) rfl (by omega) (fun G hM => ?_)
              refine q_aload_n dX9_run_187 rfl rfl ?_
              refine q_mga 5 5 dX9_run_188 hM fl_X9_23 rfl ?_
              refine q_bipush (v := nI 20) dX9_run_191 (by decide) ?_
              refine q_iload_n dX9_run_193 rfl ?_
              refine q_imul dX9_run_194 (pk_mul _ _) ?_
              refine q_iload_n dX9_run_195 rfl ?_
              refine q_iadd dX9_run_196 (nI_add _ _) ?_
              refine q_dup2 dX9_run_197 rfl rfl ?_
              refine q_mld (k := 5) (v := nI (pz_n A p ln)) dX9_run_198 hM (by decide) rfl (show _ < (600 : Nat) by omega) rfl (fun b198 => ?_)
              refine q_iconst (v := nI 1) dX9_run_199 (by decide) ?_
              refine q_iadd dX9_run_200 (nI_add _ _) ?_
              refine q_mst (k := 5) dX9_run_201 hM (by decide) rfl (show _ < (600 : Nat) by omega) rfl (by omega) (fun G hM => ?_)
              refine q_aload_n dX9_run_202 rfl rfl ?_
              refine q_iload_n dX9_run_203 rfl ?_
              refine q_iv (As := [_]) dX9_run_204 ml_X9_111 mt_X9_fresh mi_X9_fresh se_X9_fresh hM.1 rfl rfl (Nat.le_of_ble_eq_true rfl) (Nat.le_of_ble_eq_true rfl) (Nat.zero_le _) (Nat.zero_le _) (Nat.le_of_ble_eq_true rfl) (q_C.mono (c_X9_fresh hM hI.1 hI.puz (fun p hp => (hI.2.1 p hp).1.2.2.2.1.2) _) (fun v G sz1 hq => ?_))
              obtain ⟨rfl, ⟨p1, hp1, ep, rfl, hM⟩ | ⟨hn, -, -⟩⟩ := hq
              · obtain rfl : p = p1 := (nI_eq (by omega) (by omega)).mp ep
                refine q_pop dX9_run_207 rfl ?_
                refine q_iload dX9_run_208 rfl ?_
                refine q_iconst (v := nI 1) dX9_run_210 (by decide) ?_
                refine q_iadd dX9_run_211 (nI_add _ _) ?_
                exact q_ireturn dX9_run_212 rfl rfl ⟨rfl, I, _, hM, _, I, _, rfl, ⟨rfl, Or.inl ⟨p, ln, c, l, ⟨⟨hp, rfl, hln, rfl⟩, ⟨hc, hc2, rfl⟩, ⟨hl, hl2, rfl⟩, c42, by rw [hT]; exact c159⟩, rfl, rfl⟩⟩, Per.rfl'⟩
              · exact absurd ⟨p, hp, rfl⟩ hn
            · refine q_iconst (v := -1) dX9_run_162 (by decide) ?_
              exact q_ireturn dX9_run_163 rfl rfl ⟨rfl, I, A, hM, _, I, A, rfl, ⟨rfl, Or.inr ⟨fun ⟨p', ln', c', l', ⟨g1, g2, g3, g4⟩, ⟨h1, h2, h3⟩, ⟨h4, h5, h6⟩, h7, h8⟩ => (by obtain rfl : p = p' := (nI_eq (by omega) (by omega)).mp g2; obtain rfl : ln = ln' := (nI_eq (by omega) (by omega)).mp g4; obtain rfl : c = c' := (nI_eq (by omega) (by omega)).mp h3; obtain rfl : l = l' := (nI_eq (by omega) (by omega)).mp h6; rw [hT] at h8; exact absurd (show (if ln < A 2 p then A 1 p else A 2 p) < _ from c159) (Nat.not_lt.mpr h8)), rfl, rfl⟩⟩, Per.rfl'⟩
          · refine q_iconst (v := -1) dX9_run_45 (by decide) ?_
            exact q_ireturn dX9_run_46 rfl rfl ⟨rfl, I, A, hM, _, I, A, rfl, ⟨rfl, Or.inr ⟨fun ⟨p', ln', c', l', ⟨g1, g2, g3, g4⟩, ⟨h1, h2, h3⟩, ⟨h4, h5, h6⟩, h7, h8⟩ => (by obtain rfl : p = p' := (nI_eq (by omega) (by omega)).mp g2; obtain rfl : ln = ln' := (nI_eq (by omega) (by omega)).mp g4; exact c42 h7), rfl, rfl⟩⟩, Per.rfl'⟩
    · refine q_if_eq (tgt := 45) dX9_run_20 (by decide) (fun _ => ?_) (fun h => absurd h (by decide))
      refine q_iconst (v := -1) dX9_run_45 (by decide) ?_
      exact q_ireturn dX9_run_46 rfl rfl ⟨rfl, I, A, hM, _, I, A, rfl, ⟨rfl, Or.inr ⟨fun ⟨p', ln', c', l', ⟨g1, g2, g3, g4⟩, ⟨h1, h2, h3⟩, ⟨h4, h5, h6⟩, h7, h8⟩ => (by obtain rfl : p = p' := (nI_eq (by omega) (by omega)).mp g2; obtain rfl : ln = ln' := (nI_eq (by omega) (by omega)).mp g4; exact hV17 ⟨c', h1, h2, h3⟩), rfl, rfl⟩⟩, Per.rfl'⟩
  · refine q_if_eq (tgt := 45) dX9_run_6 (by decide) (fun _ => ?_) (fun h => absurd h (by decide))
    refine q_iconst (v := -1) dX9_run_45 (by decide) ?_
    exact q_ireturn dX9_run_46 rfl rfl ⟨rfl, I, A, hM, _, I, A, rfl, ⟨rfl, Or.inr ⟨fun ⟨p', ln', c', l', h, _⟩ => hV3 ⟨p', ln', h⟩, rfl, rfl⟩⟩, Per.rfl'⟩
