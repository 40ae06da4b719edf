/-- a number of one or two digits behind a text -/
def wn (s : Nat × (Nat → Nat)) (l : Nat) : Nat × (Nat → Nat) := wp (if 9 < l then wp s (48 + l / 10) else s) (48 + l % 10)
theorem sh_num {f f2 : Nat → Nat} {s : Nat × (Nat → Nat)} {l e : Nat} (h1 : ∀ i, f i ≤ 127) (h2 : ∀ i, i < s.1 → f i = s.2 i) (hl : l ≤ 10) (he : e = s.1 + (if 9 < l then 2 else 1)) (hf : f2 = if 9 < l then va_up (va_up f (e - 1) (48 + l % 10)) (e - 1 - 1) (48 + l / 10) else va_up f (e - 1) (48 + l % 10)) : (wn s l).1 = e ∧ (∀ i, f2 i ≤ 127) ∧ ∀ i, i < e → f2 i = (wn s l).2 i := by
  unfold wn
  by_cases h9 : 9 < l
  · rw [if_pos h9] at he hf
    rw [if_pos h9]
    subst he
    have e1 : s.1 + 2 - 1 - 1 = s.1 := by omega
    have e2 : s.1 + 2 - 1 = s.1 + 1 := by omega
    rw [e1, e2] at hf
    subst hf
    refine ⟨rfl, fun i => ?_, fun i hi => ?_⟩
    · by_cases h : i = s.1
      · rw [h, va_up_s]; omega
      · rw [va_up_n _ _ h]
        by_cases h' : i = s.1 + 1
        · rw [h', va_up_s]; omega
        · rw [va_up_n _ _ h']; exact h1 i
    · show _ = va_up (va_up s.2 s.1 _) (s.1 + 1) _ i
      by_cases h : i = s.1
      · rw [h, va_up_s, va_up_n _ _ (show s.1 ≠ s.1 + 1 by omega), va_up_s]
      · rw [va_up_n _ _ h]
        by_cases h' : i = s.1 + 1
        · rw [h', va_up_s, va_up_s]
        · rw [va_up_n _ _ h', va_up_n _ _ h', va_up_n _ _ h]; exact h2 i (by omega)
  · rw [if_neg h9] at he hf
    rw [if_neg h9]
    subst he
    have e1 : s.1 + 1 - 1 = s.1 := by omega
    rw [e1] at hf
    subst hf
    exact ⟨rfl, sh_up h1 h2 (by omega)⟩

set_option maxHeartbeats 4000000 in
set_option maxRecDepth 100000 in
theorem c_J5_appendC {T : q_T} {G0 : q_G} {sz a u : Nat} {s : Nat × (Nat → Nat)} {x : Nat} (hS : Sht T G0 a u s.1 s.2) (has : a < sz) (hus : u < sz) (hau : a ≠ u) (hs : s.1 + 1 ≤ 64) (hx : x ≤ 127) : q_C T mJ5_append_3fe6f 6 137 1 128 [.ref a, .int (nI x)] G0 sz (fun v G' sz' => v = some (.ref a) ∧ ∃ u2, Sht T G' a u2 (wp s x).1 (wp s x).2 ∧ ((u = u2 ∧ sz = sz') ∨ (sz = u2 ∧ sz + 1 = sz')) ∧ ∀ b, b ≠ a ∧ b ≠ u ∧ b < sz → G' b = G0 b) := by
  refine q_C.of (by decide) rfl (by simp [Value.category]) (Nat.le_of_ble_eq_true rfl) ?_
  obtain ⟨ml, c, f, ha, hu, hnc, h16, hc, h127, hsF⟩ := hS
  have hF : ∀ b, b ≠ a ∧ b ≠ u ∧ b < sz → G0 b = G0 b := fun _ _ => rfl
  refine q_aload_n dJ5_append_3fe6f_0 rfl rfl ?_
  refine q_aload_n dJ5_append_3fe6f_1 rfl rfl ?_
  refine q_get dJ5_append_3fe6f_2 fl_J5_79 ha rfl ?_
  refine q_iconst (v := nI 1) dJ5_append_3fe6f_5 (by decide) ?_
  refine q_iadd dJ5_append_3fe6f_6 (nI_add _ _) ?_
  refine q_ivp (As := [_]) dJ5_append_3fe6f_7 ml_J5_100 mt_J5_ensureCapacityInternal_d00df mi_J5_ensureCapacityInternal_d00df pr_J5_ens ha rfl (Nat.le_of_ble_eq_true rfl) (Nat.le_of_ble_eq_true rfl) (Nat.le_refl _) (Nat.le_refl _) (Nat.le_of_ble_eq_true rfl) (q_C.mono (c_J5_ens (k := s.1 + 1) ha hu hs h16 hc has hus hau h127) (fun v G sz1 hq => ?_))
  obtain ⟨rfl, u2, c2, f2, ha, hu, hkc, h16, hc2, hcc, h127, hf2, hu2, hN⟩ := hq
  have hF : ∀ b, b ≠ a ∧ b ≠ u ∧ b < sz → G b = G0 b := fun b hb => (hN b ⟨hb.1, hb.2.2⟩).trans (hF b hb)
  have hf3 : ∀ i, i < s.1 → f2 i = s.2 i := fun i hi => (hf2 i (by omega)).trans (hsF i hi)
  refine q_aload_n dJ5_append_3fe6f_10 rfl rfl ?_
  refine q_iv (As := []) dJ5_append_3fe6f_11 ml_J5_83 mt_J5_isLatin1_aae02 mi_J5_isLatin1_aae02 sj_J5_isLatin1_aae02 ha rfl rfl (Nat.le_of_ble_eq_true rfl) (Nat.le_of_ble_eq_true rfl) (Nat.zero_le _) (Nat.zero_le _) (Nat.le_of_ble_eq_true rfl) (q_C.mono (c_J5_isLatin1 ha hu) (fun v G1 sz1 hq => ?_))
  obtain ⟨rfl, rfl, rfl⟩ := hq
  refine q_if_eq (tgt := 45) dJ5_append_3fe6f_14 (by decide) (fun h => absurd h (by decide)) (fun _ => ?_)
  refine q_iload_n dJ5_append_3fe6f_17 rfl ?_
  refine q_is (As := [_]) dJ5_append_3fe6f_18 ml_J5_191 mt_J1_canEncode_fc78d ms_J1_canEncode_fc78d rfl (Nat.le_of_ble_eq_true rfl) (Nat.le_of_ble_eq_true rfl) (Nat.zero_le _) (Nat.zero_le _) (Nat.le_of_ble_eq_true rfl) (q_C.mono (c_J1_canEncode hx) (fun v G1 sz1 hq => ?_))
  obtain ⟨rfl, rfl, rfl⟩ := hq
  refine q_if_eq (tgt := 45) dJ5_append_3fe6f_21 (by decide) (fun h => absurd h (by decide)) (fun _ => ?_)
  refine q_aload_n dJ5_append_3fe6f_24 rfl rfl ?_
  refine q_get dJ5_append_3fe6f_25 fl_J5_15 ha rfl ?_
  refine q_aload_n dJ5_append_3fe6f_28 rfl rfl ?_
  refine q_dup dJ5_append_3fe6f_29 rfl ?_
  refine q_get dJ5_append_3fe6f_30 fl_J5_79 ha rfl ?_
  refine q_dup_x1 dJ5_append_3fe6f_33 rfl rfl ?_
  refine q_iconst (v := nI 1) dJ5_append_3fe6f_34 (by decide) ?_
  refine q_iadd dJ5_append_3fe6f_35 (nI_add _ _) ?_
  refine w_put (fs2 := sb_ob u2 ml (s.1 + 1)) dJ5_append_3fe6f_36 fl_J5_79 fp_J5_79 ha (Nat.le_of_ble_eq_true rfl) rfl rfl rfl (fun G ha hN => ?_)
  have hu := (hN _ (by omega)).trans hu
  have hF : ∀ b, b ≠ a ∧ b ≠ u ∧ b < sz → G b = G0 b := fun b hb => (hN b (by omega)).trans (hF b hb)
  refine q_iload_n dJ5_append_3fe6f_39 rfl ?_
  refine q_i2b dJ5_append_3fe6f_40 (y_nar hx).2.2.2.1 ?_
  refine w_basN (k := s.1) (v := x) dJ5_append_3fe6f_41 hu rfl (by omega) (by omega) rfl hx (fun G hu hN => ?_)
  have ha := (hN _ (by omega)).trans ha
  have hF : ∀ b, b ≠ a ∧ b ≠ u ∧ b < sz → G b = G0 b := fun b hb => (hN b (by omega)).trans (hF b hb)
  refine q_goto (tgt := 75) dJ5_append_3fe6f_42 (by decide) ?_
  refine q_aload_n dJ5_append_3fe6f_75 rfl rfl ?_
  exact q_areturn dJ5_append_3fe6f_76 rfl (Or.inl ⟨_, rfl⟩) rfl ⟨rfl, u2, ⟨ml, c2, va_up f2 s.1 x, ha, hu, hkc, h16, hc2, (sh_up h127 hf3 hx).1, (sh_up h127 hf3 hx).2⟩, hu2, hF⟩

set_option maxHeartbeats 4000000 in
set_option maxRecDepth 100000 in
theorem c_J4_appendC {T : q_T} {G0 : q_G} {sz a u : Nat} {s : Nat × (Nat → Nat)} {x : Nat} (hS : Sht T G0 a u s.1 s.2) (has : a < sz) (hus : u < sz) (hau : a ≠ u) (hs : s.1 + 1 ≤ 64) (hx : x ≤ 127) : q_C T mJ4_append_cf468 7 158 1 128 [.ref a, .int (nI x)] G0 sz (fun v G' sz' => v = some (.ref a) ∧ ∃ u2, Sht T G' a u2 (wp s x).1 (wp s x).2 ∧ ((u = u2 ∧ sz = sz') ∨ (sz = u2 ∧ sz + 1 = sz')) ∧ ∀ b, b ≠ a ∧ b ≠ u ∧ b < sz → G' b = G0 b) := by
  refine q_C.of (by decide) rfl (by simp [Value.category]) (Nat.le_of_ble_eq_true rfl) ?_
  obtain ⟨ml, c, f, ha, hu, hnc, h16, hc, h127, hsF⟩ := hS
  refine q_aload_n dJ4_append_cf468_0 rfl rfl ?_
  refine q_iload_n dJ4_append_cf468_1 rfl ?_
  refine q_isu (As := [_]) dJ4_append_cf468_2 ml_J4_50 mt_J5_append_3fe6f mi_J5_append_3fe6f sm_J5_append_3fe6f su_J4 (by decide) ha rfl rfl (Nat.le_of_ble_eq_true rfl) (Nat.le_of_ble_eq_true rfl) (Nat.le_refl _) (Nat.le_refl _) (Nat.le_of_ble_eq_true rfl) (q_C.mono (c_J5_appendC ⟨ml, c, f, ha, hu, hnc, h16, hc, h127, hsF⟩ has hus hau hs hx) (fun v G sz1 hq => ?_))
  obtain ⟨rfl, hq⟩ := hq
  refine q_pop dJ4_append_cf468_5 rfl ?_
  refine q_aload_n dJ4_append_cf468_6 rfl rfl ?_
  exact q_areturn dJ4_append_cf468_7 rfl (Or.inl ⟨_, rfl⟩) rfl ⟨rfl, hq⟩

set_option maxHeartbeats 4000000 in
set_option maxRecDepth 100000 in
theorem c_J6_stringSize {T : q_T} {G : q_G} {sz l : Nat} (hl : l ≤ 10) : q_C T mJ6_stringSize_0f7a4 0 0 0 0 [.int (nI l)] G sz (fun v G' sz' => ∃ r, v = some (.int (nI r)) ∧ r = (if 9 < l then 2 else 1) ∧ G = G' ∧ sz = sz') := by
  refine q_C.of (by decide) rfl (by simp [Value.category]) (Nat.le_of_ble_eq_true rfl) ?_
  refine q_iconst (v := nI 1) dJ6_stringSize_0f7a4_0 (by decide) ?_
  refine s_istore_n dJ6_stringSize_0f7a4_1 (by decide) rfl ?_
  refine q_iload_n dJ6_stringSize_0f7a4_2 rfl ?_
  refine n_if_lt (tgt := 11) dJ6_stringSize_0f7a4_3 (by decide) (by omega) ?_
  refine q_iconst (v := nI 0) dJ6_stringSize_0f7a4_6 (by decide) ?_
  refine s_istore_n dJ6_stringSize_0f7a4_7 (by decide) rfl ?_
  refine q_iload_n dJ6_stringSize_0f7a4_8 rfl ?_
  refine q_ineg dJ6_stringSize_0f7a4_9 rfl ?_
  refine s_istore_n dJ6_stringSize_0f7a4_10 (by decide) rfl ?_
  refine q_bipush (v := -10) dJ6_stringSize_0f7a4_11 (by decide) ?_
  refine s_istore_n dJ6_stringSize_0f7a4_13 (by decide) rfl ?_
  refine q_iconst (v := nI 1) dJ6_stringSize_0f7a4_14 (by decide) ?_
  refine s_istore_n dJ6_stringSize_0f7a4_15 (by decide) rfl ?_
  refine q_iload_n dJ6_stringSize_0f7a4_16 rfl ?_
  refine q_bipush (v := nI 10) dJ6_stringSize_0f7a4_17 (by decide) ?_
  refine q_icmp_ge (tgt := 42) dJ6_stringSize_0f7a4_19 (by decide) (fun h => absurd h (by decide)) (fun _ => ?_)
  refine q_iload_n dJ6_stringSize_0f7a4_22 rfl ?_
  refine q_iload_n dJ6_stringSize_0f7a4_23 rfl ?_
  refine q_icmp_le (tgt := 31) dJ6_stringSize_0f7a4_24 (by decide) (fun c24 => ?_) (fun c24 => ?_)
  · refine q_bipush (v := nI 10) dJ6_stringSize_0f7a4_31 (by decide) ?_
    refine q_iload_n dJ6_stringSize_0f7a4_33 rfl ?_
    refine q_imul dJ6_stringSize_0f7a4_34 (show _ = (-100 : Int32) by decide) ?_
    refine s_istore_n dJ6_stringSize_0f7a4_35 (by decide) rfl ?_
    refine s_iinc dJ6_stringSize_0f7a4_36 rfl (s_inc1 _) (by decide) rfl ?_
    refine q_goto (tgt := 16) dJ6_stringSize_0f7a4_39 (by decide) ?_
    refine q_iload_n dJ6_stringSize_0f7a4_16 rfl ?_
    refine q_bipush (v := nI 10) dJ6_stringSize_0f7a4_17 (by decide) ?_
    refine q_icmp_ge (tgt := 42) dJ6_stringSize_0f7a4_19 (by decide) (fun h => absurd h (by decide)) (fun _ => ?_)
    refine q_iload_n dJ6_stringSize_0f7a4_22 rfl ?_
    refine q_iload_n dJ6_stringSize_0f7a4_23 rfl ?_
    refine q_icmp_le (tgt := 31) dJ6_stringSize_0f7a4_24 (by decide) (fun d24 => absurd d24 (y_neg (by omega)).2.1) (fun d24 => ?_)
    refine q_iload_n dJ6_stringSize_0f7a4_27 rfl ?_
    refine q_iload_n dJ6_stringSize_0f7a4_28 rfl ?_
    refine q_iadd dJ6_stringSize_0f7a4_29 (nI_add _ _) ?_
    exact q_ireturn dJ6_stringSize_0f7a4_30 rfl rfl ⟨_, rfl, (if_pos (by have := (y_neg (by omega)).1.mp c24; omega)).symm, rfl, rfl⟩
  · refine q_iload_n dJ6_stringSize_0f7a4_27 rfl ?_
    refine q_iload_n dJ6_stringSize_0f7a4_28 rfl ?_
    refine q_iadd dJ6_stringSize_0f7a4_29 (nI_add _ _) ?_
    exact q_ireturn dJ6_stringSize_0f7a4_30 rfl rfl ⟨_, rfl, (if_neg (fun h => c24 ((y_neg (by omega)).1.mpr (by omega)))).symm, rfl, rfl⟩

set_option maxHeartbeats 4000000 in
set_option maxRecDepth 100000 in
theorem c_J6_getChars {T : q_T} {G0 : q_G} {sz u c l e : Nat} {f : Nat → Nat} (hu : G0 u = some (q_ba T c (fun i => nI (f i)))) (hD : Dig T) (hl : l ≤ 10) (he : e ≤ c) (hc : c ≤ 1000) (he2 : (if 9 < l then 2 else 1) ≤ e) : q_C T mJ6_getChars_ba4f3 0 0 0 0 [.int (nI l), .int (nI e), .ref u] G0 sz (fun v G' sz' => (∃ z, v = some (.int z)) ∧ sz = sz' ∧ ∃ f2 : Nat → Nat, G' u = some (q_ba T c (fun i => nI (f2 i))) ∧ (f2 = if 9 < l then va_up (va_up f (e - 1) (48 + l % 10)) (e - 1 - 1) (48 + l / 10) else va_up f (e - 1) (48 + l % 10)) ∧ ∀ b, b ≠ u → G' b = G0 b) := by
  refine q_C.of (by decide) rfl (by simp [Value.category]) (Nat.le_of_ble_eq_true rfl) ?_
  have hF : ∀ b, b ≠ u → G0 b = G0 b := fun _ _ => rfl
  obtain ⟨N, fO, fT, hD1, hD2, hD3, hD4⟩ := hD
  have he1 : 1 ≤ e := by split at he2 <;> omega
  refine q_iload_n dJ6_getChars_ba4f3_0 rfl ?_
  refine s_istore dJ6_getChars_ba4f3_1 (by decide) rfl ?_
  refine q_iload_n dJ6_getChars_ba4f3_3 rfl ?_
  refine n_if_ge (tgt := 11) dJ6_getChars_ba4f3_4 (by decide) (by omega) ?_
  refine q_iconst (v := nI 0) dJ6_getChars_ba4f3_11 (by decide) ?_
  refine s_istore dJ6_getChars_ba4f3_12 (by decide) rfl ?_
  refine q_iload dJ6_getChars_ba4f3_14 rfl ?_
  refine q_if_ne (tgt := 22) dJ6_getChars_ba4f3_16 (by decide) (fun h => absurd h (by decide)) (fun _ => ?_)
  refine q_iload_n dJ6_getChars_ba4f3_19 rfl ?_
  refine q_ineg dJ6_getChars_ba4f3_20 rfl ?_
  refine s_istore_n dJ6_getChars_ba4f3_21 (by decide) rfl ?_
  refine q_iload_n dJ6_getChars_ba4f3_22 rfl ?_
  refine q_bipush (v := -100) dJ6_getChars_ba4f3_23 (by decide) ?_
  refine q_icmp_gt (tgt := 72) dJ6_getChars_ba4f3_25 (by decide) (fun c25 => ?_) (fun c25 => absurd (y_neg (by omega)).2.2.2.1 c25)
  refine q_aload_n dJ6_getChars_ba4f3_72 rfl rfl ?_
  refine s_iinc dJ6_getChars_ba4f3_73 rfl (s_dec1 (by omega)) (by decide) rfl ?_
  refine q_iload dJ6_getChars_ba4f3_76 rfl ?_
  refine q_getsO dJ6_getChars_ba4f3_78 gs_J6_83 ?_
  refine q_iload_n dJ6_getChars_ba4f3_81 rfl ?_
  refine q_ineg dJ6_getChars_ba4f3_82 (y_neg (by omega)).2.2.2.2 ?_
  refine q_fbaload (k := l) dJ6_getChars_ba4f3_83 hD1 rfl (by omega) (by omega) (hD4 l (by omega)).1 ?_
  refine w_basN (k := e - 1) (v := 48 + l % 10) dJ6_getChars_ba4f3_84 hu rfl (by omega) (by omega) rfl (by omega) (fun G hu hN => ?_)
  have hF : ∀ b, b ≠ u → G b = G0 b := fun b hb => (hN b (by omega)).trans (hF b hb)
  refine q_iload_n dJ6_getChars_ba4f3_85 rfl ?_
  refine q_bipush (v := -9) dJ6_getChars_ba4f3_86 (by decide) ?_
  refine q_icmp_ge (tgt := 104) dJ6_getChars_ba4f3_88 (by decide) (fun c88 => ?_) (fun c88 => ?_)
  · refine q_iload dJ6_getChars_ba4f3_104 rfl ?_
    refine q_if_eq (tgt := 118) dJ6_getChars_ba4f3_106 (by decide) (fun _ => ?_) (fun h => absurd h (by decide))
    refine q_iload dJ6_getChars_ba4f3_118 rfl ?_
    exact q_ireturn dJ6_getChars_ba4f3_120 rfl rfl ⟨⟨_, rfl⟩, rfl, _, hu, (if_neg (Nat.not_lt.mpr ((y_neg (by omega)).2.2.1.mp c88))).symm, hF⟩
  · have h9 : 9 < l := Nat.lt_of_not_le (fun h => c88 ((y_neg (by omega)).2.2.1.mpr h))
    rw [if_pos h9] at he2
    refine q_aload_n dJ6_getChars_ba4f3_91 rfl rfl ?_
    refine s_iinc dJ6_getChars_ba4f3_92 rfl (s_dec1 (by omega)) (by decide) rfl ?_
    refine q_iload dJ6_getChars_ba4f3_95 rfl ?_
    refine q_getsT dJ6_getChars_ba4f3_97 gs_J6_87 ?_
    refine q_iload_n dJ6_getChars_ba4f3_100 rfl ?_
    refine q_ineg dJ6_getChars_ba4f3_101 (y_neg (by omega)).2.2.2.2 ?_
    refine q_fbaload (k := l) dJ6_getChars_ba4f3_102 hD2 rfl (by omega) (by omega) (hD4 l (by omega)).2 ?_
    refine w_basN (k := e - 1 - 1) (v := 48 + l / 10) dJ6_getChars_ba4f3_103 hu rfl (by omega) (by omega) rfl (by omega) (fun G hu hN => ?_)
    have hF : ∀ b, b ≠ u → G b = G0 b := fun b hb => (hN b (by omega)).trans (hF b hb)
    refine q_iload dJ6_getChars_ba4f3_104 rfl ?_
    refine q_if_eq (tgt := 118) dJ6_getChars_ba4f3_106 (by decide) (fun _ => ?_) (fun h => absurd h (by decide))
    refine q_iload dJ6_getChars_ba4f3_118 rfl ?_
    exact q_ireturn dJ6_getChars_ba4f3_120 rfl rfl ⟨⟨_, rfl⟩, rfl, _, hu, (if_pos h9).symm, hF⟩

set_option maxHeartbeats 4000000 in
set_option maxRecDepth 100000 in
theorem c_J5_appendI {T : q_T} {G0 : q_G} {sz a u : Nat} {s : Nat × (Nat → Nat)} {l : Nat} (hS : Sht T G0 a u s.1 s.2) (has : a < sz) (hus : u < sz) (hau : a ≠ u) (hD : Dig T) (hs : s.1 + 2 ≤ 64) (hl : l ≤ 10) : q_C T mJ5_append_c97b9 4 92 1 128 [.ref a, .int (nI l)] G0 sz (fun v G' sz' => v = some (.ref a) ∧ ∃ u2, Sht T G' a u2 (wn s l).1 (wn s l).2 ∧ ((u = u2 ∧ sz = sz') ∨ (sz = u2 ∧ sz + 1 = sz')) ∧ ∀ b, b ≠ a ∧ b ≠ u ∧ b < sz → G' b = G0 b) := by
  refine q_C.of (by decide) rfl (by simp [Value.category]) (Nat.le_of_ble_eq_true rfl) ?_
  obtain ⟨ml, c, f, ha, hu, hnc, h16, hc, h127, hsF⟩ := hS
  have hF : ∀ b, b ≠ a ∧ b ≠ u ∧ b < sz → G0 b = G0 b := fun _ _ => rfl
  refine q_aload_n dJ5_append_c97b9_0 rfl rfl ?_
  refine q_get dJ5_append_c97b9_1 fl_J5_79 ha rfl ?_
  refine s_istore_n dJ5_append_c97b9_4 (by decide) rfl ?_
  refine q_iload_n dJ5_append_c97b9_5 rfl ?_
  refine q_iload_n dJ5_append_c97b9_6 rfl ?_
  refine q_is (As := [_]) dJ5_append_c97b9_7 ml_J5_245 mt_J6_stringSize_0f7a4 ms_J6_stringSize_0f7a4 rfl (Nat.le_of_ble_eq_true rfl) (Nat.le_of_ble_eq_true rfl) (Nat.zero_le _) (Nat.zero_le _) (Nat.le_of_ble_eq_true rfl) (q_C.mono (c_J6_stringSize hl) (fun v G1 sz1 hq => ?_))
  obtain ⟨r7, rfl, hr7, rfl, rfl⟩ := hq
  have hrb : 1 ≤ r7 ∧ r7 ≤ 2 := by split at hr7 <;> omega
  refine q_iadd dJ5_append_c97b9_10 (nI_add _ _) ?_
  refine s_istore_n dJ5_append_c97b9_11 (by decide) rfl ?_
  refine q_aload_n dJ5_append_c97b9_12 rfl rfl ?_
  refine q_iload_n dJ5_append_c97b9_13 rfl ?_
  refine q_ivp (As := [_]) dJ5_append_c97b9_14 ml_J5_100 mt_J5_ensureCapacityInternal_d00df mi_J5_ensureCapacityInternal_d00df pr_J5_ens ha rfl (Nat.le_of_ble_eq_true rfl) (Nat.le_of_ble_eq_true rfl) (Nat.le_refl _) (Nat.le_refl _) (Nat.le_of_ble_eq_true rfl) (q_C.mono (c_J5_ens (k := s.1 + r7) ha hu (by omega) h16 hc has hus hau h127) (fun v G sz1 hq => ?_))
  obtain ⟨rfl, u2, c2, f2, ha, hu, hkc, h16, hc2, hcc, h127, hf2, hu2, hN⟩ := hq
  have hF : ∀ b, b ≠ a ∧ b ≠ u ∧ b < sz → G b = G0 b := fun b hb => (hN b ⟨hb.1, hb.2.2⟩).trans (hF b hb)
  have hf3 : ∀ i, i < s.1 → f2 i = s.2 i := fun i hi => (hf2 i (by omega)).trans (hsF i hi)
  refine q_aload_n dJ5_append_c97b9_17 rfl rfl ?_
  refine q_iv (As := []) dJ5_append_c97b9_18 ml_J5_83 mt_J5_isLatin1_aae02 mi_J5_isLatin1_aae02 sj_J5_isLatin1_aae02 ha rfl rfl (Nat.le_of_ble_eq_true rfl) (Nat.le_of_ble_eq_true rfl) (Nat.zero_le _) (Nat.zero_le _) (Nat.le_of_ble_eq_true rfl) (q_C.mono (c_J5_isLatin1 ha hu) (fun v G1 sz1 hq => ?_))
  obtain ⟨rfl, rfl, rfl⟩ := hq
  refine q_if_eq (tgt := 37) dJ5_append_c97b9_21 (by decide) (fun h => absurd h (by decide)) (fun _ => ?_)
  refine q_iload_n dJ5_append_c97b9_24 rfl ?_
  refine q_iload_n dJ5_append_c97b9_25 rfl ?_
  refine q_aload_n dJ5_append_c97b9_26 rfl rfl ?_
  refine q_get dJ5_append_c97b9_27 fl_J5_15 ha rfl ?_
  refine q_is (As := [_, _, _]) dJ5_append_c97b9_30 ml_J5_248 mt_J6_getChars_ba4f3 ms_J6_getChars_ba4f3 rfl (Nat.le_of_ble_eq_true rfl) (Nat.le_of_ble_eq_true rfl) (Nat.zero_le _) (Nat.zero_le _) (Nat.le_of_ble_eq_true rfl) (q_C.mono (c_J6_getChars hu hD hl hkc hc2 (by rw [← hr7]; omega)) (fun v G sz1 hq => ?_))
  obtain ⟨⟨z, rfl⟩, rfl, f4, hu, hf4, hN⟩ := hq
  have ha := (hN _ (by omega)).trans ha
  have hF : ∀ b, b ≠ a ∧ b ≠ u ∧ b < sz → G b = G0 b := fun b hb => (hN b (by omega)).trans (hF b hb)
  refine q_pop dJ5_append_c97b9_33 rfl ?_
  refine q_goto (tgt := 48) dJ5_append_c97b9_34 (by decide) ?_
  refine q_aload_n dJ5_append_c97b9_48 rfl rfl ?_
  refine q_iload_n dJ5_append_c97b9_49 rfl ?_
  refine w_put (fs2 := sb_ob u2 ml (s.1 + r7)) dJ5_append_c97b9_50 fl_J5_79 fp_J5_79 ha (Nat.le_of_ble_eq_true rfl) rfl rfl rfl (fun G ha hN => ?_)
  have hu := (hN _ (by omega)).trans hu
  have hF : ∀ b, b ≠ a ∧ b ≠ u ∧ b < sz → G b = G0 b := fun b hb => (hN b (by omega)).trans (hF b hb)
  refine q_aload_n dJ5_append_c97b9_53 rfl rfl ?_
  exact q_areturn dJ5_append_c97b9_54 rfl (Or.inl ⟨_, rfl⟩) rfl (by obtain ⟨k1, k2, k3⟩ := sh_num h127 hf3 hl (by rw [← hr7]) hf4; rw [← k1] at ha k3; exact ⟨rfl, u2, ⟨ml, c2, f4, ha, hu, by rw [k1]; exact hkc, h16, hc2, k2, k3⟩, hu2, hF⟩)

set_option maxHeartbeats 4000000 in
set_option maxRecDepth 100000 in
theorem c_J4_appendI {T : q_T} {G0 : q_G} {sz a u : Nat} {s : Nat × (Nat → Nat)} {l : Nat} (hS : Sht T G0 a u s.1 s.2) (has : a < sz) (hus : u < sz) (hau : a ≠ u) (hD : Dig T) (hs : s.1 + 2 ≤ 64) (hl : l ≤ 10) : q_C T mJ4_append_bf812 5 115 1 128 [.ref a, .int (nI l)] G0 sz (fun v G' sz' => v = some (.ref a) ∧ ∃ u2, Sht T G' a u2 (wn s l).1 (wn s l).2 ∧ ((u = u2 ∧ sz = sz') ∨ (sz = u2 ∧ sz + 1 = sz')) ∧ ∀ b, b ≠ a ∧ b ≠ u ∧ b < sz → G' b = G0 b) := by
  refine q_C.of (by decide) rfl (by simp [Value.category]) (Nat.le_of_ble_eq_true rfl) ?_
  obtain ⟨ml, c, f, ha, hu, hnc, h16, hc, h127, hsF⟩ := hS
  refine q_aload_n dJ4_append_bf812_0 rfl rfl ?_
  refine q_iload_n dJ4_append_bf812_1 rfl ?_
  refine q_isu (As := [_]) dJ4_append_bf812_2 ml_J4_53 mt_J5_append_c97b9 mi_J5_append_c97b9 sm_J5_append_c97b9 su_J4 (by decide) ha rfl rfl (Nat.le_of_ble_eq_true rfl) (Nat.le_of_ble_eq_true rfl) (Nat.le_refl _) (Nat.le_refl _) (Nat.le_of_ble_eq_true rfl) (q_C.mono (c_J5_appendI ⟨ml, c, f, ha, hu, hnc, h16, hc, h127, hsF⟩ has hus hau hD hs hl) (fun v G sz1 hq => ?_))
  obtain ⟨rfl, hq⟩ := hq
  refine q_pop dJ4_append_bf812_5 rfl ?_
  refine q_aload_n dJ4_append_bf812_6 rfl rfl ?_
  exact q_areturn dJ4_append_bf812_7 rfl (Or.inl ⟨_, rfl⟩) rfl ⟨rfl, hq⟩

set_option maxHeartbeats 4000000 in
set_option maxRecDepth 100000 in
theorem c_J5_length {T : q_T} {G : q_G} {sz a u ml c n : Nat} {f : Nat → Nat} (ha : G a = some (q_ob 0 (sb_ob u ml n))) (hu : G u = some (q_ba T c (fun i => nI (f i)))) : q_C T mJ5_length_8abf5 0 0 0 0 [.ref a] G sz (fun v G' sz' => v = some (.int (nI n)) ∧ G = G' ∧ sz = sz') := by
  refine q_C.of (by decide) rfl (by simp [Value.category]) (Nat.le_of_ble_eq_true rfl) ?_
  refine q_aload_n dJ5_length_8abf5_0 rfl rfl ?_
  refine q_get dJ5_length_8abf5_1 fl_J5_79 ha rfl ?_
  exact q_ireturn dJ5_length_8abf5_4 rfl rfl ⟨rfl, rfl, rfl⟩

set_option maxHeartbeats 4000000 in
set_option maxRecDepth 100000 in
theorem c_J4_length {T : q_T} {G : q_G} {sz a u n : Nat} {F : Nat → Nat} (hS : Sht T G a u n F) : q_C T mJ4_length_8abf5 1 20 0 0 [.ref a] G sz (fun v G' sz' => v = some (.int (nI n)) ∧ G = G' ∧ sz = sz') := by
  refine q_C.of (by decide) rfl (by simp [Value.category]) (Nat.le_of_ble_eq_true rfl) ?_
  obtain ⟨ml, c, f, ha, hu, hnc, h16, hc, h127, hsF⟩ := hS
  refine q_aload_n dJ4_length_8abf5_0 rfl rfl ?_
  refine q_isu (As := []) dJ4_length_8abf5_1 ml_J4_343 mt_J5_length_8abf5 mi_J5_length_8abf5 sm_J5_length_8abf5 su_J4 (by decide) ha rfl rfl (Nat.le_of_ble_eq_true rfl) (Nat.le_of_ble_eq_true rfl) (Nat.zero_le _) (Nat.zero_le _) (Nat.le_of_ble_eq_true rfl) (q_C.mono (c_J5_length ha hu) (fun v G1 sz1 hq => ?_))
  obtain ⟨rfl, rfl, rfl⟩ := hq
  exact q_ireturn dJ4_length_8abf5_4 rfl rfl ⟨rfl, rfl, rfl⟩

set_option maxHeartbeats 4000000 in
set_option maxRecDepth 100000 in
theorem c_J3_checkIndex {T : q_T} {G : q_G} {sz i n : Nat} {r : Option Nat} (hi : i < n) (hn : n < 2 ^ 31) : q_C T mJ3_checkIndex_8e157 0 0 0 0 [.int (nI i), .int (nI n), va_rf r] G sz (fun v G' sz' => (∃ z, v = some (.int z)) ∧ G = G' ∧ sz = sz') := by
  refine q_C.of (by decide) rfl (by cases r <;> simp [Value.category, va_rf]) (Nat.le_of_ble_eq_true rfl) ?_
  refine q_iload_n dJ3_checkIndex_8e157_0 rfl ?_
  refine n_if_lt (tgt := 9) dJ3_checkIndex_8e157_1 (by decide) (by omega) ?_
  refine q_iload_n dJ3_checkIndex_8e157_4 rfl ?_
  refine q_iload_n dJ3_checkIndex_8e157_5 rfl ?_
  refine n_icmp_lt (tgt := 16) dJ3_checkIndex_8e157_6 (by decide) (by omega) hn (fun c6 => ?_) (fun c6 => absurd hi (by omega))
  refine q_iload_n dJ3_checkIndex_8e157_16 rfl ?_
  exact q_ireturn dJ3_checkIndex_8e157_17 rfl rfl ⟨⟨_, rfl⟩, rfl, rfl⟩

set_option maxHeartbeats 4000000 in
set_option maxRecDepth 100000 in
theorem c_J0_checkIndex {T : q_T} {G : q_G} {sz i n : Nat} (hi : i < n) (hn : n < 2 ^ 31) : q_C T mJ0_checkIndex_df160 1 22 0 0 [.int (nI i), .int (nI n)] G sz (fun v G' sz' => v = none ∧ G = G' ∧ sz = sz') := by
  refine q_C.of (by decide) rfl (by simp [Value.category]) (Nat.le_of_ble_eq_true rfl) ?_
  refine q_iload_n dJ0_checkIndex_df160_0 rfl ?_
  refine q_iload_n dJ0_checkIndex_df160_1 rfl ?_
  refine q_getsQ dJ0_checkIndex_df160_2 gs_J0_1053 (fun rq => ?_)
  refine q_is (As := [_, _, _]) dJ0_checkIndex_df160_5 ml_J0_1059 mt_J3_checkIndex_8e157 ms_J3_checkIndex_8e157 rfl (Nat.le_of_ble_eq_true rfl) (Nat.le_of_ble_eq_true rfl) (Nat.zero_le _) (Nat.zero_le _) (Nat.le_of_ble_eq_true rfl) (q_C.mono (c_J3_checkIndex hi hn) (fun v G1 sz1 hq => ?_))
  obtain ⟨⟨z, rfl⟩, rfl, rfl⟩ := hq
  refine q_pop dJ0_checkIndex_df160_8 rfl ?_
  exact q_return dJ0_checkIndex_df160_9 rfl ⟨rfl, rfl, rfl⟩

set_option maxHeartbeats 4000000 in
set_option maxRecDepth 100000 in
theorem c_J5_charAt {T : q_T} {G : q_G} {sz a u ml c n : Nat} {f : Nat → Nat} (ha : G a = some (q_ob 0 (sb_ob u ml n))) (hu : G u = some (q_ba T c (fun i => nI (f i)))) {i : Nat} (hi : i < n) (hnc : n ≤ c) (hc : c ≤ 1000) (h127 : ∀ i, f i ≤ 127) : q_C T mJ5_charAt_5068e 2 43 0 0 [.ref a, .int (nI i)] G sz (fun v G' sz' => v = some (.int (nI (f i))) ∧ G = G' ∧ sz = sz') := by
  refine q_C.of (by decide) rfl (by simp [Value.category]) (Nat.le_of_ble_eq_true rfl) ?_
  refine q_aload_n dJ5_charAt_5068e_0 rfl rfl ?_
  refine q_get dJ5_charAt_5068e_1 fl_J5_22 ha rfl ?_
  refine s_istore_n dJ5_charAt_5068e_4 (by decide) rfl ?_
  refine q_aload_n dJ5_charAt_5068e_5 rfl rfl ?_
  refine q_get dJ5_charAt_5068e_6 fl_J5_15 ha rfl ?_
  refine s_astore_n dJ5_charAt_5068e_9 (by decide) rfl rfl ?_
  refine q_aload_n dJ5_charAt_5068e_10 rfl rfl ?_
  refine q_get dJ5_charAt_5068e_11 fl_J5_79 ha rfl ?_
  refine q_aload_n dJ5_charAt_5068e_14 rfl rfl ?_
  refine q_alen (t := 1) (v := nI (c)) dJ5_charAt_5068e_15 hu rfl rfl ?_
  refine q_iload_n dJ5_charAt_5068e_16 rfl ?_
  refine q_ishr dJ5_charAt_5068e_17 (y_shr (by omega)) ?_
  refine q_mmin dJ5_charAt_5068e_18 ml_J5_138 (by omega) (by omega) (Nat.le_of_ble_eq_true rfl) (Nat.le_of_ble_eq_true rfl) (Nat.le_of_ble_eq_true rfl) (fun r18 hr18 => ?_)
  refine s_istore dJ5_charAt_5068e_21 (by decide) rfl ?_
  refine q_iload_n dJ5_charAt_5068e_23 rfl ?_
  refine q_iload dJ5_charAt_5068e_24 rfl ?_
  obtain rfl : n = r18 := by omega
  refine q_is (As := [_, _]) dJ5_charAt_5068e_26 ml_J5_144 mt_J0_checkIndex_df160 ms_J0_checkIndex_df160 rfl (Nat.le_of_ble_eq_true rfl) (Nat.le_of_ble_eq_true rfl) (Nat.zero_le _) (Nat.zero_le _) (Nat.le_of_ble_eq_true rfl) (q_C.mono (c_J0_checkIndex hi (by omega)) (fun v G1 sz1 hq => ?_))
  obtain ⟨rfl, rfl, rfl⟩ := hq
  refine q_iload_n dJ5_charAt_5068e_29 rfl ?_
  refine q_if_ne (tgt := 42) dJ5_charAt_5068e_30 (by decide) (fun h => absurd h (by decide)) (fun _ => ?_)
  refine q_aload_n dJ5_charAt_5068e_33 rfl rfl ?_
  refine q_iload_n dJ5_charAt_5068e_34 rfl ?_
  refine q_baload (k := i) (v := nI (f i)) dJ5_charAt_5068e_35 hu rfl (by omega) (by omega) rfl ?_
  refine q_sipush (v := nI 255) dJ5_charAt_5068e_36 (by decide) ?_
  refine q_iand dJ5_charAt_5068e_39 (y_nar (h127 i)).2.2.2.2.1 ?_
  refine q_i2c dJ5_charAt_5068e_40 (y_nar (h127 i)).2.2.2.2.2 ?_
  exact q_ireturn dJ5_charAt_5068e_41 rfl (y_nar (h127 i)).2.1 ⟨rfl, rfl, rfl⟩

set_option maxHeartbeats 4000000 in
set_option maxRecDepth 100000 in
theorem c_J4_charAt {T : q_T} {G : q_G} {sz a u n : Nat} {F : Nat → Nat} (hS : Sht T G a u n F) {i : Nat} (hi : i < n) : q_C T mJ4_charAt_5068e 3 67 0 0 [.ref a, .int (nI i)] G sz (fun v G' sz' => v = some (.int (nI (F i))) ∧ G = G' ∧ sz = sz') := by
  refine q_C.of (by decide) rfl (by simp [Value.category]) (Nat.le_of_ble_eq_true rfl) ?_
  obtain ⟨ml, c, f, ha, hu, hnc, h16, hc, h127, hsF⟩ := hS
  refine q_aload_n dJ4_charAt_5068e_0 rfl rfl ?_
  refine q_iload_n dJ4_charAt_5068e_1 rfl ?_
  refine q_isu (As := [_]) dJ4_charAt_5068e_2 ml_J4_329 mt_J5_charAt_5068e mi_J5_charAt_5068e sm_J5_charAt_5068e su_J4 (by decide) ha rfl rfl (Nat.le_of_ble_eq_true rfl) (Nat.le_of_ble_eq_true rfl) (Nat.zero_le _) (Nat.zero_le _) (Nat.le_of_ble_eq_true rfl) (q_C.mono (c_J5_charAt ha hu hi hnc hc h127) (fun v G1 sz1 hq => ?_))
  obtain ⟨rfl, rfl, rfl⟩ := hq
  exact q_ireturn dJ4_charAt_5068e_5 rfl (y_nar (h127 i)).2.1 ⟨by rw [hsF i hi], rfl, rfl⟩

set_option maxHeartbeats 4000000 in
set_option maxRecDepth 100000 in
theorem c_J5_setLength {T : q_T} {G0 : q_G} {sz a u n : Nat} {F : Nat → Nat} (hS : Sht T G0 a u n F) (hau : a ≠ u) : q_C T mJ5_setLength_d00df 4 92 0 0 [.ref a, .int (nI 0)] G0 sz (fun v G' sz' => v = none ∧ sz = sz' ∧ Sht T G' a u 0 F ∧ ∀ b, b ≠ a → G' b = G0 b) := by
  refine q_C.of (by decide) rfl (by simp [Value.category]) (Nat.le_of_ble_eq_true rfl) ?_
  obtain ⟨ml, c, f, ha, hu, hnc, h16, hc, h127, hsF⟩ := hS
  have hF : ∀ b, b ≠ a → G0 b = G0 b := fun _ _ => rfl
  refine q_iload_n dJ5_setLength_d00df_0 rfl ?_
  refine n_if_ge (tgt := 13) dJ5_setLength_d00df_1 (by decide) (by omega) ?_
  refine q_aload_n dJ5_setLength_d00df_13 rfl rfl ?_
  refine q_iload_n dJ5_setLength_d00df_14 rfl ?_
  refine q_ivp (As := [_]) dJ5_setLength_d00df_15 ml_J5_100 mt_J5_ensureCapacityInternal_d00df mi_J5_ensureCapacityInternal_d00df pr_J5_ens ha rfl (Nat.le_of_ble_eq_true rfl) (Nat.le_of_ble_eq_true rfl) (Nat.zero_le _) (Nat.zero_le _) (Nat.le_of_ble_eq_true rfl) (q_C.mono (c_J5_ens0 ha hu (Nat.zero_le _) hc) (fun v G1 sz1 hq => ?_))
  obtain ⟨rfl, rfl, rfl⟩ := hq
  refine q_aload_n dJ5_setLength_d00df_18 rfl rfl ?_
  refine q_get dJ5_setLength_d00df_19 fl_J5_79 ha rfl ?_
  refine q_iload_n dJ5_setLength_d00df_22 rfl ?_
  refine n_icmp_ge (tgt := 63) dJ5_setLength_d00df_23 (by decide) (by omega) (by omega) (fun c23 => ?_) (fun c23 => absurd c23 (by omega))
  refine q_aload_n dJ5_setLength_d00df_63 rfl rfl ?_
  refine q_get dJ5_setLength_d00df_64 fl_J5_79 ha rfl ?_
  refine q_iload_n dJ5_setLength_d00df_67 rfl ?_
  refine n_icmp_le (tgt := 76) dJ5_setLength_d00df_68 (by decide) (by omega) (by omega) (fun c68 => ?_) (fun c68 => ?_)
  · refine q_aload_n dJ5_setLength_d00df_76 rfl rfl ?_
    refine q_iload_n dJ5_setLength_d00df_77 rfl ?_
    refine w_put (fs2 := sb_ob u _ 0) dJ5_setLength_d00df_78 fl_J5_79 fp_J5_79 ha (Nat.le_of_ble_eq_true rfl) rfl rfl rfl (fun G ha hN => ?_)
    have hu := (hN _ (by omega)).trans hu
    have hF : ∀ b, b ≠ a → G b = G0 b := fun b hb => (hN b (by omega)).trans (hF b hb)
    exact q_return dJ5_setLength_d00df_81 rfl ⟨rfl, rfl, ⟨_, c, f, ha, hu, Nat.zero_le _, h16, hc, h127, fun _ h => absurd h (Nat.not_lt_zero _)⟩, hF⟩
  · refine q_aload_n dJ5_setLength_d00df_71 rfl rfl ?_
    refine q_iconst (v := nI 1) dJ5_setLength_d00df_72 (by decide) ?_
    refine w_put (fs2 := sb_ob u 1 n) dJ5_setLength_d00df_73 fl_J5_73 fp_J5_73 ha (Nat.le_of_ble_eq_true rfl) rfl rfl rfl (fun G ha hN => ?_)
    have hu := (hN _ (by omega)).trans hu
    have hF : ∀ b, b ≠ a → G b = G0 b := fun b hb => (hN b (by omega)).trans (hF b hb)
    refine q_aload_n dJ5_setLength_d00df_76 rfl rfl ?_
    refine q_iload_n dJ5_setLength_d00df_77 rfl ?_
    refine w_put (fs2 := sb_ob u _ 0) dJ5_setLength_d00df_78 fl_J5_79 fp_J5_79 ha (Nat.le_of_ble_eq_true rfl) rfl rfl rfl (fun G ha hN => ?_)
    have hu := (hN _ (by omega)).trans hu
    have hF : ∀ b, b ≠ a → G b = G0 b := fun b hb => (hN b (by omega)).trans (hF b hb)
    exact q_return dJ5_setLength_d00df_81 rfl ⟨rfl, rfl, ⟨_, c, f, ha, hu, Nat.zero_le _, h16, hc, h127, fun _ h => absurd h (Nat.not_lt_zero _)⟩, hF⟩

set_option maxHeartbeats 4000000 in
set_option maxRecDepth 100000 in
theorem c_J4_setLength {T : q_T} {G0 : q_G} {sz a u n : Nat} {F : Nat → Nat} (hS : Sht T G0 a u n F) (hau : a ≠ u) : q_C T mJ4_setLength_d00df 5 113 0 0 [.ref a, .int (nI 0)] G0 sz (fun v G' sz' => v = none ∧ sz = sz' ∧ Sht T G' a u 0 F ∧ ∀ b, b ≠ a → G' b = G0 b) := by
  refine q_C.of (by decide) rfl (by simp [Value.category]) (Nat.le_of_ble_eq_true rfl) ?_
  obtain ⟨ml, c, f, ha, hu, hnc, h16, hc, h127, hsF⟩ := hS
  refine q_aload_n dJ4_setLength_d00df_0 rfl rfl ?_
  refine q_iload_n dJ4_setLength_d00df_1 rfl ?_
  refine q_isu (As := [_]) dJ4_setLength_d00df_2 ml_J4_333 mt_J5_setLength_d00df mi_J5_setLength_d00df sm_J5_setLength_d00df su_J4 (by decide) ha rfl rfl (Nat.le_of_ble_eq_true rfl) (Nat.le_of_ble_eq_true rfl) (Nat.zero_le _) (Nat.zero_le _) (Nat.le_of_ble_eq_true rfl) (q_C.mono (c_J5_setLength ⟨ml, c, f, ha, hu, hnc, h16, hc, h127, hsF⟩ hau) (fun v G sz1 hq => ?_))
  obtain ⟨rfl, hq⟩ := hq
  exact q_return dJ4_setLength_d00df_5 rfl ⟨rfl, hq⟩

set_option maxHeartbeats 4000000 in
set_option maxRecDepth 100000 in
theorem c_J5_init {T : q_T} {G0 : q_G} {sz a : Nat} (ha : G0 a = some (q_ob 0 [.null, .int 0, .int 0, .int 0])) (has : a < sz) : q_C T mJ5_init_d00df 2 40 1 16 [.ref a, .int (nI 16)] G0 sz (fun v G' sz' => v = none ∧ sz + 1 = sz' ∧ Sht T G' a sz 0 (fun _ => 0) ∧ ∀ b, b ≠ a ∧ b ≠ sz → G' b = G0 b) := by
  refine q_C.of (by decide) rfl (by simp [Value.category]) (Nat.le_of_ble_eq_true rfl) ?_
  have hF : ∀ b, b ≠ a ∧ b ≠ sz → G0 b = G0 b := fun _ _ => rfl
  refine q_aload_n dJ5_init_d00df_0 rfl rfl ?_
  refine q_oi dJ5_init_d00df_1 ml_J5_3 oi_i oi_c (Nat.le_of_ble_eq_true rfl) (Nat.le_of_ble_eq_true rfl) (Nat.le_of_ble_eq_true rfl) ?_
  refine q_getsC dJ5_init_d00df_4 gs_J5_18 ?_
  refine q_if_eq (tgt := 25) dJ5_init_d00df_7 (by decide) (fun h => absurd h (by decide)) (fun _ => ?_)
  refine q_aload_n dJ5_init_d00df_10 rfl rfl ?_
  refine q_iload_n dJ5_init_d00df_11 rfl ?_
  refine w_newB (N := 16) dJ5_init_d00df_12 rfl (by omega) (by omega) (by omega) (fun G hu hN => ?_)
  have ha := (hN _ (by omega)).trans ha
  have hF : ∀ b, b ≠ a ∧ b ≠ sz → G b = G0 b := fun b hb => (hN b (by omega)).trans (hF b hb)
  refine w_put (fs2 := [.ref sz, .int 0, .int 0, .int 0]) dJ5_init_d00df_14 fl_J5_15 fp_J5_15 ha (Nat.le_of_ble_eq_true rfl) rfl rfl rfl (fun G ha hN => ?_)
  have hu := (hN _ (by omega)).trans hu
  have hF : ∀ b, b ≠ a ∧ b ≠ sz → G b = G0 b := fun b hb => (hN b (by omega)).trans (hF b hb)
  refine q_aload_n dJ5_init_d00df_17 rfl rfl ?_
  refine q_iconst (v := nI 0) dJ5_init_d00df_18 (by decide) ?_
  refine w_put (fs2 := sb_ob sz 0 0) dJ5_init_d00df_19 fl_J5_22 fp_J5_22 ha (Nat.le_of_ble_eq_true rfl) rfl rfl rfl (fun G ha hN => ?_)
  have hu := (hN _ (by omega)).trans hu
  have hF : ∀ b, b ≠ a ∧ b ≠ sz → G b = G0 b := fun b hb => (hN b (by omega)).trans (hF b hb)
  refine q_goto (tgt := 38) dJ5_init_d00df_22 (by decide) ?_
  exact q_return dJ5_init_d00df_38 rfl ⟨rfl, rfl, ⟨0, 16, fun _ => 0, ha, hu, Nat.zero_le _, by omega, by omega, fun _ => Nat.zero_le _, fun _ h => absurd h (Nat.not_lt_zero _)⟩, hF⟩

set_option maxHeartbeats 4000000 in
set_option maxRecDepth 100000 in
theorem c_J4_init {T : q_T} {G0 : q_G} {sz a : Nat} (ha : G0 a = some (q_ob 0 [.null, .int 0, .int 0, .int 0])) (has : a < sz) : q_C T mJ4_init_da8c8 3 61 1 16 [.ref a] G0 sz (fun v G' sz' => v = none ∧ sz + 1 = sz' ∧ Sht T G' a sz 0 (fun _ => 0) ∧ ∀ b, b ≠ a ∧ b ≠ sz → G' b = G0 b) := by
  refine q_C.of (by decide) rfl (by simp [Value.category]) (Nat.le_of_ble_eq_true rfl) ?_
  refine q_aload_n dJ4_init_da8c8_0 rfl rfl ?_
  refine q_bipush (v := nI 16) dJ4_init_da8c8_1 (by decide) ?_
  refine q_ii (As := [_]) dJ4_init_da8c8_3 ml_J4_1 mt_J5_init_d00df rfl mi_J5_init_d00df rfl rfl (Nat.le_of_ble_eq_true rfl) (Nat.le_of_ble_eq_true rfl) (Nat.le_refl _) (Nat.le_refl _) (Nat.le_of_ble_eq_true rfl) (q_C.mono (c_J5_init ha has) (fun v G sz1 hq => ?_))
  obtain ⟨rfl, hq⟩ := hq
  exact q_return dJ4_init_da8c8_6 rfl ⟨rfl, hq⟩
