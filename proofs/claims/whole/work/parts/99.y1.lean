/-! THE TEXT BUILDER -/
def Dig (T : q_T) : Prop := ∃ (N : Nat) (fO fT : Nat → Int32), T.2.2.2.2.1 T.2.2.2.2.2.1 = some (.byte, N, fO) ∧ T.2.2.2.2.1 T.2.2.2.2.2.2 = some (.byte, N, fT) ∧ (11 ≤ N ∧ N < 2 ^ 31) ∧ ∀ k, k < 11 → fO k = nI (48 + k % 10) ∧ fT k = nI (48 + k / 10)
theorem y_nar {v : Nat} (h : v ≤ 127) : narrow .byte (.int (nI v)) = .int (nI v) ∧ narrow .char (.int (nI v)) = .int (nI v) ∧ fits .byte (.int (nI v)) = true ∧ (nI v).toInt8.toInt32 = nI v ∧ nI v &&& nI 255 = nI v ∧ ((nI v).toUInt32 % 65536).toInt32 = nI v := by
  have key : ∀ v, v < 128 → narrow .byte (.int (nI v)) = .int (nI v) ∧ narrow .char (.int (nI v)) = .int (nI v) ∧ fits .byte (.int (nI v)) = true ∧ (nI v).toInt8.toInt32 = nI v ∧ nI v &&& nI 255 = nI v ∧ ((nI v).toUInt32 % 65536).toInt32 = nI v := by decide +kernel
  exact key v (by omega)
theorem y_shr {c : Nat} (h : c < 2 ^ 31) : nI c >>> (nI 0 &&& 31) = nI c := n_shr h (by decide)
theorem y_shl {c : Nat} : nI c <<< (nI 0 &&& 31) = nI c := n_shl (by decide) rfl
theorem y_neg {l : Nat} (h : l < 11) : (-nI l ≤ (-10 : Int32) ↔ 10 ≤ l) ∧ ¬ (-nI l ≤ (-100 : Int32)) ∧ (-nI l ≥ (-9 : Int32) ↔ l ≤ 9) ∧ -nI l > (-100 : Int32) ∧ - -nI l = nI l := by
  have key : ∀ l, l < 11 → (-nI l ≤ (-10 : Int32) ↔ 10 ≤ l) ∧ ¬ (-nI l ≤ (-100 : Int32)) ∧ (-nI l ≥ (-9 : Int32) ↔ l ≤ 9) ∧ -nI l > (-100 : Int32) ∧ - -nI l = nI l := by decide +kernel
  exact key l h
theorem w_basN {T : q_T} {M : q_M} {fr lo pc : Nat} {ls : List (Option Value)} {st : List Value} {G : q_G} {sz bc bs : Nat} {E : q_E} {a n k v : Nat} {F : Nat → Nat} {i x : Int32} (hd : decode M.2.2.1 pc = .ok (.bastore, 1)) (hG : G a = some (q_ba T n (fun i => nI (F i)))) (hi : i = nI k) (hk : k < n) (hn : n < 2 ^ 31) (hx : x = nI v) (hv : v ≤ 127) (h : ∀ G1 : q_G, G1 a = some (q_ba T n (fun i => nI (va_up F k v i))) → (∀ b, b ≠ a → G1 b = G b) → q_R T M fr lo (pc + 1) ls st G1 sz bc bs E) : q_R T M fr lo pc ls (.int x :: .int i :: .ref a :: st) G sz bc bs E := by
  subst hx
  exact w_bas hd hG hi hk hn (y_nar hv).1 (fun G1 e1 e2 => h G1 (by rw [e1, w_upI]) e2)
theorem sh_up {f F : Nat → Nat} {n x : Nat} (h1 : ∀ i, f i ≤ 127) (h2 : ∀ i, i < n → f i = F i) (hx : x ≤ 127) : (∀ i, va_up f n x i ≤ 127) ∧ ∀ i, i < n + 1 → va_up f n x i = va_up F n x i := by
  refine ⟨fun i => ?_, fun i hi => ?_⟩
  · by_cases h : i = n
    · rw [h, va_up_s]; exact hx
    · rw [va_up_n _ _ h]; exact h1 i
  · by_cases h : i = n
    · rw [h, va_up_s, va_up_s]
    · rw [va_up_n _ _ h, va_up_n _ _ h]; exact h2 i (by omega)
abbrev sb_ob (b ml n : Nat) : List Value := [.ref b, .int (nI 0), .int (nI ml), .int (nI n)]

set_option maxHeartbeats 4000000 in
set_option maxRecDepth 100000 in
theorem c_J8_newLength {T : q_T} {G : q_G} {sz x y z : Nat} (hx : 0 < x) (hxyz : x + y + z ≤ 100000) : q_C T mJ8_newLength_cabcc 1 22 0 0 [.int (nI x), .int (nI y), .int (nI z)] G sz (fun v G' sz' => ∃ r, v = some (.int (nI r)) ∧ r = x + max y z ∧ G = G' ∧ sz = sz') := by
  refine q_C.of (by decide) rfl (by simp [Value.category]) (Nat.le_of_ble_eq_true rfl) ?_
  refine q_iload_n dJ8_newLength_cabcc_0 rfl ?_
  refine q_iload_n dJ8_newLength_cabcc_1 rfl ?_
  refine q_iload_n dJ8_newLength_cabcc_2 rfl ?_
  refine q_mmax dJ8_newLength_cabcc_3 ml_J8_194 (by omega) (by omega) (Nat.le_of_ble_eq_true rfl) (Nat.le_of_ble_eq_true rfl) (Nat.le_of_ble_eq_true rfl) (fun r3 hr3 => ?_)
  refine q_iadd dJ8_newLength_cabcc_6 (nI_add _ _) ?_
  refine s_istore_n dJ8_newLength_cabcc_7 (by decide) rfl ?_
  refine q_iconst (v := nI 0) dJ8_newLength_cabcc_8 (by decide) ?_
  refine q_iload_n dJ8_newLength_cabcc_9 rfl ?_
  refine n_icmp_ge (tgt := 21) dJ8_newLength_cabcc_10 (by decide) (by omega) (by omega) (fun c10 => absurd c10 (by omega)) (fun c10 => ?_)
  refine q_iload_n dJ8_newLength_cabcc_13 rfl ?_
  refine q_ldc (v := nI 2147483639) dJ8_newLength_cabcc_14 cn_J8_200 ?_
  refine n_icmp_gt (tgt := 21) dJ8_newLength_cabcc_16 (by decide) (by omega) (by omega) (fun c16 => absurd c16 (by omega)) (fun c16 => ?_)
  refine q_iload_n dJ8_newLength_cabcc_19 rfl ?_
  exact q_ireturn dJ8_newLength_cabcc_20 rfl rfl ⟨_, rfl, by omega, rfl, rfl⟩

set_option maxHeartbeats 4000000 in
set_option maxRecDepth 100000 in
theorem c_J5_newCapacity {T : q_T} {G : q_G} {sz a u ml c n : Nat} {f : Nat → Nat} (ha : G a = some (q_ob 0 (sb_ob u ml n))) (hu : G u = some (q_ba T c (fun i => nI (f i)))) {k : Nat} (hk : c < k) (hk2 : k ≤ 1000) (h16 : 16 ≤ c) : q_C T mJ5_newCapacity_0f7a4 2 45 0 0 [.ref a, .int (nI k)] G sz (fun v G' sz' => ∃ r, v = some (.int (nI r)) ∧ r = c + max (k - c) (c + 2) ∧ G = G' ∧ sz = sz') := by
  refine q_C.of (by decide) rfl (by simp [Value.category]) (Nat.le_of_ble_eq_true rfl) ?_
  refine q_aload_n dJ5_newCapacity_0f7a4_0 rfl rfl ?_
  refine q_get dJ5_newCapacity_0f7a4_1 fl_J5_15 ha rfl ?_
  refine q_alen (t := 1) (v := nI (c)) dJ5_newCapacity_0f7a4_4 hu rfl rfl ?_
  refine s_istore_n dJ5_newCapacity_0f7a4_5 (by decide) rfl ?_
  refine q_iload_n dJ5_newCapacity_0f7a4_6 rfl ?_
  refine q_aload_n dJ5_newCapacity_0f7a4_7 rfl rfl ?_
  refine q_get dJ5_newCapacity_0f7a4_8 fl_J5_22 ha rfl ?_
  refine q_ishl dJ5_newCapacity_0f7a4_11 y_shl ?_
  refine s_istore_n dJ5_newCapacity_0f7a4_12 (by decide) rfl ?_
  refine q_iload_n dJ5_newCapacity_0f7a4_13 rfl ?_
  refine q_iload_n dJ5_newCapacity_0f7a4_14 rfl ?_
  refine q_isub dJ5_newCapacity_0f7a4_15 (pk_sub (by omega)) ?_
  refine s_istore dJ5_newCapacity_0f7a4_16 (by decide) rfl ?_
  refine q_iload_n dJ5_newCapacity_0f7a4_18 rfl ?_
  refine q_iload dJ5_newCapacity_0f7a4_19 rfl ?_
  refine q_iload_n dJ5_newCapacity_0f7a4_21 rfl ?_
  refine q_iconst (v := nI 2) dJ5_newCapacity_0f7a4_22 (by decide) ?_
  refine q_aload_n dJ5_newCapacity_0f7a4_23 rfl rfl ?_
  refine q_get dJ5_newCapacity_0f7a4_24 fl_J5_22 ha rfl ?_
  refine q_ishl dJ5_newCapacity_0f7a4_27 y_shl ?_
  refine q_iadd dJ5_newCapacity_0f7a4_28 (nI_add _ _) ?_
  refine q_is (As := [_, _, _]) dJ5_newCapacity_0f7a4_29 ml_J5_114 mt_J8_newLength_cabcc ms_J8_newLength_cabcc rfl (Nat.le_of_ble_eq_true rfl) (Nat.le_of_ble_eq_true rfl) (Nat.zero_le _) (Nat.zero_le _) (Nat.le_of_ble_eq_true rfl) (q_C.mono (c_J8_newLength (by omega) (by omega)) (fun v G1 sz1 hq => ?_))
  obtain ⟨r29, rfl, hr29, rfl, rfl⟩ := hq
  refine s_istore dJ5_newCapacity_0f7a4_32 (by decide) rfl ?_
  refine q_iload dJ5_newCapacity_0f7a4_34 rfl ?_
  refine q_ldc (v := nI 2147483647) dJ5_newCapacity_0f7a4_36 cn_J5_39 ?_
  refine n_icmp_ne (tgt := 51) dJ5_newCapacity_0f7a4_38 (by decide) (by omega) (by omega) (fun c38 => ?_) (fun c38 => absurd c38 (by omega))
  refine q_iload dJ5_newCapacity_0f7a4_51 rfl ?_
  refine q_aload_n dJ5_newCapacity_0f7a4_53 rfl rfl ?_
  refine q_get dJ5_newCapacity_0f7a4_54 fl_J5_22 ha rfl ?_
  refine q_ishr dJ5_newCapacity_0f7a4_57 (y_shr (by omega)) ?_
  exact q_ireturn dJ5_newCapacity_0f7a4_58 rfl rfl ⟨_, rfl, by omega, rfl, rfl⟩

set_option maxHeartbeats 4000000 in
set_option maxRecDepth 100000 in
theorem c_J7_copyOf {T : q_T} {G0 : q_G} {sz u c k : Nat} {f : Nat → Nat} (hu : G0 u = some (q_ba T c (fun i => nI (f i)))) (hus : u < sz) (h127 : ∀ i, f i ≤ 127) (hk : c < k) (hk2 : k ≤ 1000) : q_C T mJ7_copyOf_9075b 1 26 1 k [.ref u, .int (nI k)] G0 sz (fun v G' sz' => v = some (.ref sz) ∧ sz + 1 = sz' ∧ ∃ f2 : Nat → Nat, G' sz = some (q_ba T k (fun i => nI (f2 i))) ∧ (∀ i, f2 i ≤ 127) ∧ (∀ i, i < c → f2 i = f i) ∧ ∀ q, q ≠ sz → G' q = G0 q) := by
  refine q_C.of (by decide) rfl (by simp [Value.category]) (Nat.le_of_ble_eq_true rfl) ?_
  have hF : ∀ b, b ≠ sz → G0 b = G0 b := fun _ _ => rfl
  refine q_iload_n dJ7_copyOf_9075b_0 rfl ?_
  refine q_aload_n dJ7_copyOf_9075b_1 rfl rfl ?_
  refine q_alen (t := 1) (v := nI (c)) dJ7_copyOf_9075b_2 hu rfl rfl ?_
  refine n_icmp_ne (tgt := 14) dJ7_copyOf_9075b_3 (by decide) (by omega) (by omega) (fun c3 => ?_) (fun c3 => absurd c3 (by omega))
  refine q_iload_n dJ7_copyOf_9075b_14 rfl ?_
  refine w_newB (N := k) dJ7_copyOf_9075b_15 rfl (by omega) (by omega) (by omega) (fun G hn hN => ?_)
  have hu := (hN _ (by omega)).trans hu
  have hF : ∀ b, b ≠ sz → G b = G0 b := fun b hb => (hN b (by omega)).trans (hF b hb)
  refine s_astore_n dJ7_copyOf_9075b_17 (by decide) rfl rfl ?_
  refine q_aload_n dJ7_copyOf_9075b_18 rfl rfl ?_
  refine q_iconst (v := nI 0) dJ7_copyOf_9075b_19 (by decide) ?_
  refine q_aload_n dJ7_copyOf_9075b_20 rfl rfl ?_
  refine q_iconst (v := nI 0) dJ7_copyOf_9075b_21 (by decide) ?_
  refine q_aload_n dJ7_copyOf_9075b_22 rfl rfl ?_
  refine q_alen (t := 1) (v := nI (c)) dJ7_copyOf_9075b_23 hu rfl rfl ?_
  refine q_iload_n dJ7_copyOf_9075b_24 rfl ?_
  refine q_mmin dJ7_copyOf_9075b_25 ml_J7_304 (by omega) (by omega) (Nat.le_of_ble_eq_true rfl) (Nat.le_of_ble_eq_true rfl) (Nat.le_of_ble_eq_true rfl) (fun r25 hr25 => ?_)
  obtain rfl : c = r25 := by omega
  refine q_acopy (t := 1) (f := fun i => nI (f i)) (g := fun _ => 0) (sp := 0) (dp := 0) (n := c) dJ7_copyOf_9075b_28 ml_J7_150 hu hn rfl rfl (by omega) (by omega) (by omega) (by omega) (fun i _ => (y_nar (h127 _)).2.2.1) (Nat.le_of_ble_eq_true rfl) (Nat.le_of_ble_eq_true rfl) (Nat.le_of_ble_eq_true rfl) (fun G hn hN => ?_)
  have hF : ∀ q, q ≠ sz → G q = G0 q := fun q hq => (hN q hq).trans (hF q hq)
  have hn : G sz = some (q_ba T k (fun i => nI (if i < c then f i else 0))) := by
    rw [hn]; unfold q_ba va_cpy; congr 5; funext i
    by_cases hi : i < c
    · rw [if_pos ⟨Nat.zero_le _, by omega⟩, if_pos hi, Nat.zero_add, Nat.sub_zero]
    · rw [if_neg (fun g => hi (by omega)), if_neg hi]; rfl
  refine q_aload_n dJ7_copyOf_9075b_31 rfl rfl ?_
  exact q_areturn dJ7_copyOf_9075b_32 rfl (Or.inr ⟨_, rfl⟩) rfl ⟨rfl, rfl, _, hn, fun i => by split <;> first | exact h127 i | omega, fun i hi => if_pos hi, hF⟩

theorem y_sub {k c : Nat} (hk : k < 2 ^ 30) (hc : c < 2 ^ 30) : nI k - nI c ≤ 0 ↔ k ≤ c := by
  rw [Int32.le_iff_toInt_le, Int32.toInt_sub, nI_toInt (by omega), nI_toInt (by omega)]
  show Int.bmod ((k : Int) - (c : Int)) (2 ^ 32) ≤ 0 ↔ _
  rw [Int.bmod_eq_of_le (by omega) (by omega)]
  omega

set_option maxHeartbeats 4000000 in
set_option maxRecDepth 100000 in
theorem c_J5_ens0 {T : q_T} {G : q_G} {sz a u ml c n : Nat} {f : Nat → Nat} (ha : G a = some (q_ob 0 (sb_ob u ml n))) (hu : G u = some (q_ba T c (fun i => nI (f i)))) {k : Nat} (hkc : k ≤ c) (hc : c ≤ 1000) : q_C T mJ5_ensureCapacityInternal_d00df 3 70 0 0 [.ref a, .int (nI k)] G sz (fun v G' sz' => v = none ∧ G = G' ∧ sz = sz') := by
  refine q_C.of (by decide) rfl (by simp [Value.category]) (Nat.le_of_ble_eq_true rfl) ?_
  refine q_aload_n dJ5_ensureCapacityInternal_d00df_0 rfl rfl ?_
  refine q_get dJ5_ensureCapacityInternal_d00df_1 fl_J5_15 ha rfl ?_
  refine q_alen (t := 1) (v := nI (c)) dJ5_ensureCapacityInternal_d00df_4 hu rfl rfl ?_
  refine q_aload_n dJ5_ensureCapacityInternal_d00df_5 rfl rfl ?_
  refine q_get dJ5_ensureCapacityInternal_d00df_6 fl_J5_22 ha rfl ?_
  refine q_ishr dJ5_ensureCapacityInternal_d00df_9 (y_shr (by omega)) ?_
  refine s_istore_n dJ5_ensureCapacityInternal_d00df_10 (by decide) rfl ?_
  refine q_iload_n dJ5_ensureCapacityInternal_d00df_11 rfl ?_
  refine q_iload_n dJ5_ensureCapacityInternal_d00df_12 rfl ?_
  refine q_isub dJ5_ensureCapacityInternal_d00df_13 rfl ?_
  refine q_if_le (tgt := 38) dJ5_ensureCapacityInternal_d00df_14 (by decide) (fun c14 => ?_) (fun c14 => absurd ((y_sub (by omega) (by omega)).mpr hkc) c14)
  exact q_return dJ5_ensureCapacityInternal_d00df_38 rfl ⟨rfl, rfl, rfl⟩

set_option maxHeartbeats 4000000 in
set_option maxRecDepth 100000 in
theorem c_J5_ens {T : q_T} {G0 : q_G} {sz a u ml c n : Nat} {f : Nat → Nat} (ha : G0 a = some (q_ob 0 (sb_ob u ml n))) (hu : G0 u = some (q_ba T c (fun i => nI (f i)))) {k : Nat} (hk : k ≤ 64) (h16 : 16 ≤ c) (hc : c ≤ 1000) (has : a < sz) (hus : u < sz) (hau : a ≠ u) (h127 : ∀ i, f i ≤ 127) : q_C T mJ5_ensureCapacityInternal_d00df 3 70 1 128 [.ref a, .int (nI k)] G0 sz (fun v G' sz' => v = none ∧ ∃ (u2 c2 : Nat) (f2 : Nat → Nat), G' a = some (q_ob 0 (sb_ob u2 ml n)) ∧ G' u2 = some (q_ba T c2 (fun i => nI (f2 i))) ∧ k ≤ c2 ∧ 16 ≤ c2 ∧ c2 ≤ 1000 ∧ c ≤ c2 ∧ (∀ i, f2 i ≤ 127) ∧ (∀ i, i < c → f2 i = f i) ∧ ((u = u2 ∧ sz = sz') ∨ (sz = u2 ∧ sz + 1 = sz')) ∧ ∀ q, q ≠ a ∧ q < sz → G' q = G0 q) := by
  refine q_C.of (by decide) rfl (by simp [Value.category]) (Nat.le_of_ble_eq_true rfl) ?_
  have hF : ∀ b, b ≠ a ∧ b < sz → G0 b = G0 b := fun _ _ => rfl
  refine q_aload_n dJ5_ensureCapacityInternal_d00df_0 rfl rfl ?_
  refine q_get dJ5_ensureCapacityInternal_d00df_1 fl_J5_15 ha rfl ?_
  refine q_alen (t := 1) (v := nI (c)) dJ5_ensureCapacityInternal_d00df_4 hu rfl rfl ?_
  refine q_aload_n dJ5_ensureCapacityInternal_d00df_5 rfl rfl ?_
  refine q_get dJ5_ensureCapacityInternal_d00df_6 fl_J5_22 ha rfl ?_
  refine q_ishr dJ5_ensureCapacityInternal_d00df_9 (y_shr (by omega)) ?_
  refine s_istore_n dJ5_ensureCapacityInternal_d00df_10 (by decide) rfl ?_
  refine q_iload_n dJ5_ensureCapacityInternal_d00df_11 rfl ?_
  refine q_iload_n dJ5_ensureCapacityInternal_d00df_12 rfl ?_
  refine q_isub dJ5_ensureCapacityInternal_d00df_13 rfl ?_
  refine q_if_le (tgt := 38) dJ5_ensureCapacityInternal_d00df_14 (by decide) (fun c14 => ?_) (fun c14 => ?_)
  · exact q_return dJ5_ensureCapacityInternal_d00df_38 rfl ⟨rfl, u, c, f, ha, hu, (y_sub (by omega) (by omega)).mp c14, h16, hc, Nat.le_refl _, h127, fun _ _ => rfl, Or.inl ⟨rfl, rfl⟩, hF⟩
  · have hck : ¬ k ≤ c := fun h => c14 ((y_sub (by omega) (by omega)).mpr h)
    refine q_aload_n dJ5_ensureCapacityInternal_d00df_17 rfl rfl ?_
    refine q_aload_n dJ5_ensureCapacityInternal_d00df_18 rfl rfl ?_
    refine q_get dJ5_ensureCapacityInternal_d00df_19 fl_J5_15 ha rfl ?_
    refine q_aload_n dJ5_ensureCapacityInternal_d00df_22 rfl rfl ?_
    refine q_iload_n dJ5_ensureCapacityInternal_d00df_23 rfl ?_
    refine q_ivp (As := [_]) dJ5_ensureCapacityInternal_d00df_24 ml_J5_104 mt_J5_newCapacity_0f7a4 mi_J5_newCapacity_0f7a4 pr_J5_new ha rfl (Nat.le_of_ble_eq_true rfl) (Nat.le_of_ble_eq_true rfl) (Nat.zero_le _) (Nat.zero_le _) (Nat.le_of_ble_eq_true rfl) (q_C.mono (c_J5_newCapacity ha hu (by omega) (by omega) h16) (fun v G1 sz1 hq => ?_))
    obtain ⟨r24, rfl, hr24, rfl, rfl⟩ := hq
    refine q_aload_n dJ5_ensureCapacityInternal_d00df_27 rfl rfl ?_
    refine q_get dJ5_ensureCapacityInternal_d00df_28 fl_J5_22 ha rfl ?_
    refine q_ishl dJ5_ensureCapacityInternal_d00df_31 y_shl ?_
    have hcap : r24 ≤ 128 ∧ k ≤ r24 ∧ c < r24 := by omega
    refine q_is (As := [_, _]) dJ5_ensureCapacityInternal_d00df_32 ml_J5_108 mt_J7_copyOf_9075b ms_J7_copyOf_9075b rfl (Nat.le_of_ble_eq_true rfl) (Nat.le_of_ble_eq_true rfl) (by omega) (by omega) (Nat.le_of_ble_eq_true rfl) (q_C.mono (c_J7_copyOf hu hus h127 (by omega) (by omega)) (fun v G sz1 hq => ?_))
    obtain ⟨rfl, rfl, f2, hn, hf1, hf2, hN⟩ := hq
    have ha := (hN _ (by omega)).trans ha
    have hu := (hN _ (by omega)).trans hu
    have hF : ∀ b, b ≠ a ∧ b < sz → G b = G0 b := fun b hb => (hN b (by omega)).trans (hF b hb)
    refine w_put (fs2 := sb_ob sz ml n) dJ5_ensureCapacityInternal_d00df_35 fl_J5_15 fp_J5_15 ha (Nat.le_of_ble_eq_true rfl) rfl rfl rfl (fun G ha hN => ?_)
    have hu := (hN _ (by omega)).trans hu
    have hn := (hN _ (by omega)).trans hn
    have hF : ∀ b, b ≠ a ∧ b < sz → G b = G0 b := fun b hb => (hN b (by omega)).trans (hF b hb)
    exact q_return dJ5_ensureCapacityInternal_d00df_38 rfl ⟨rfl, sz, r24, f2, ha, hn, by omega, by omega, by omega, by omega, hf1, hf2, Or.inr ⟨rfl, rfl⟩, hF⟩

set_option maxHeartbeats 4000000 in
set_option maxRecDepth 100000 in
theorem c_J5_isLatin1 {T : q_T} {G : q_G} {sz a u ml c n : Nat} {f : Nat → Nat} (ha : G a = some (q_ob 0 (sb_ob u ml n))) (hu : G u = some (q_ba T c (fun i => nI (f i)))) : q_C T mJ5_isLatin1_aae02 0 0 0 0 [.ref a] G sz (fun v G' sz' => v = some (.int (nI 1)) ∧ G = G' ∧ sz = sz') := by
  refine q_C.of (by decide) rfl (by simp [Value.category]) (Nat.le_of_ble_eq_true rfl) ?_
  refine q_getsC dJ5_isLatin1_aae02_0 gs_J5_18 ?_
  refine q_if_eq (tgt := 17) dJ5_isLatin1_aae02_3 (by decide) (fun h => absurd h (by decide)) (fun _ => ?_)
  refine q_aload_n dJ5_isLatin1_aae02_6 rfl rfl ?_
  refine q_get dJ5_isLatin1_aae02_7 fl_J5_22 ha rfl ?_
  refine q_if_ne (tgt := 17) dJ5_isLatin1_aae02_10 (by decide) (fun h => absurd h (by decide)) (fun _ => ?_)
  refine q_iconst (v := nI 1) dJ5_isLatin1_aae02_13 (by decide) ?_
  refine q_goto (tgt := 18) dJ5_isLatin1_aae02_14 (by decide) ?_
  exact q_ireturn dJ5_isLatin1_aae02_18 rfl (by decide +kernel) ⟨rfl, rfl, rfl⟩

set_option maxHeartbeats 4000000 in
set_option maxRecDepth 100000 in
theorem c_J1_canEncode {T : q_T} {G : q_G} {sz x : Nat} (hx : x ≤ 127) : q_C T mJ1_canEncode_fc78d 0 0 0 0 [.int (nI x)] G sz (fun v G' sz' => v = some (.int (nI 1)) ∧ G = G' ∧ sz = sz') := by
  refine q_C.of (by decide) rfl (by simp [Value.category]) (Nat.le_of_ble_eq_true rfl) ?_
  refine q_iload_n dJ1_canEncode_fc78d_0 rfl ?_
  refine q_sipush (v := nI 255) dJ1_canEncode_fc78d_1 (by decide) ?_
  refine n_icmp_gt (tgt := 11) dJ1_canEncode_fc78d_4 (by decide) (by omega) (by omega) (fun c4 => absurd c4 (by omega)) (fun c4 => ?_)
  refine q_iconst (v := nI 1) dJ1_canEncode_fc78d_7 (by decide) ?_
  refine q_goto (tgt := 12) dJ1_canEncode_fc78d_8 (by decide) ?_
  exact q_ireturn dJ1_canEncode_fc78d_12 rfl (by decide +kernel) ⟨rfl, rfl, rfl⟩
