theorem q_indN {α : Type} (μ : Nat → α → Nat) (P : Nat → α → Prop) (h : ∀ c a, (∀ c' a', μ c' a' < μ c a → P c' a') → P c a) : ∀ c a, P c a := fun c a => q_ind (fun x : Nat × α => μ x.1 x.2) (fun x => P x.1 x.2) (fun x ih => h x.1 x.2 (fun c' a' hl => ih (c', a') hl)) (c, a)
/-- n places of an array from lo on hold v -/
def md_fill (A : md_A) (k lo n v : Nat) : md_A := va_up A k (fun j => if lo ≤ j ∧ j < lo + n then v else A k j)
theorem md_fill_0 (A : md_A) (k lo v : Nat) : md_fill A k lo 0 v = A := by
  funext l j
  unfold md_fill va_up
  split
  · next h => subst h; exact if_neg (by omega)
  · rfl
theorem md_fill_s (A : md_A) (k lo n v : Nat) : md_st (md_fill A k lo n v) k (lo + n) v = md_fill A k lo (n + 1) v := by
  funext l j
  rw [md_st_at]
  unfold md_fill va_up
  by_cases h : l = k
  · subst h
    rw [if_pos rfl, if_pos rfl]
    by_cases h2 : j = lo + n
    · rw [if_pos ⟨rfl, h2⟩, if_pos (by omega)]
    · rw [if_neg (fun g => h2 g.2)]
      by_cases h3 : lo ≤ j ∧ j < lo + n
      · rw [if_pos h3, if_pos (by omega)]
      · rw [if_neg h3, if_neg (by omega)]
  · rw [if_neg (fun g => h g.1), if_neg h, if_neg h]
theorem md_fill_k (A : md_A) {k lo n v l : Nat} (h : l ≠ k) : md_fill A k lo n v l = A l := by simp [md_fill, va_up, h]
theorem md_fill_at (A : md_A) (k lo n v j : Nat) : md_fill A k lo n v k j = if lo ≤ j ∧ j < lo + n then v else A k j := by simp [md_fill, va_up]

set_option maxHeartbeats 4000000 in
set_option maxRecDepth 100000 in
theorem c_X9_isOne {T : q_T} {G : q_G} {sz : Nat} {x : Nat} (h1 : 1 ≤ x) (h2 : x ≤ 100000) : q_C T mX9_isOne 0 0 0 0 [.int (nI x)] G sz (fun v G' sz' => v = some (.int (nI (if x &&& (x - 1) = 0 then 1 else 0))) ∧ G = G' ∧ sz = sz') := by
  refine q_C.of (by decide) rfl (by simp [Value.category]) (Nat.le_of_ble_eq_true rfl) ?_
  refine q_iload_n dX9_isOne_0 rfl ?_
  refine q_iload_n dX9_isOne_1 rfl ?_
  refine q_iconst (v := nI 1) dX9_isOne_2 (by decide) ?_
  refine q_isub dX9_isOne_3 (pk_sub (by omega)) ?_
  refine q_iand dX9_isOne_4 (n_and _ _) ?_
  refine n_if_ne (tgt := 12) dX9_isOne_5 (by decide) (Nat.lt_of_le_of_lt Nat.and_le_left (by omega)) (fun c5 => ?_) (fun c5 => ?_)
  · refine q_iconst (v := nI 0) dX9_isOne_12 (by decide) ?_
    exact q_ireturn dX9_isOne_13 rfl (by decide +kernel) ⟨by rw [if_neg (by omega)], rfl, rfl⟩
  · refine q_iconst (v := nI 1) dX9_isOne_8 (by decide) ?_
    refine q_goto (tgt := 13) dX9_isOne_9 (by decide) ?_
    exact q_ireturn dX9_isOne_13 rfl (by decide +kernel) ⟨by rw [if_pos (by omega)], rfl, rfl⟩

set_option maxHeartbeats 4000000 in
set_option maxRecDepth 100000 in
theorem c_X9_isLine {T : q_T} {m : Nat} {G0 G : q_G} {I : md_I} {A : md_A} {sz : Nat} (hM : Mod T m G0 I A G) (hI : I 0 ≤ 30) (hB : ∀ p, p < I 0 → 1 ≤ A 1 p ∧ A 1 p ≤ 10 ∧ 1 ≤ A 2 p ∧ A 2 p ≤ 10) (p l : Int32) : q_C T mX9_isLine 2 43 0 0 [.ref m, .int p, .int l] G sz (fun v G' sz' => ((∃ j k, j < I 0 ∧ p = nI j ∧ k < A 1 j + A 2 j ∧ l = nI k) ∧ v = some (.int (nI 1)) ∨ ¬ (∃ j k, j < I 0 ∧ p = nI j ∧ k < A 1 j + A 2 j ∧ l = nI k) ∧ v = some (.int (nI 0))) ∧ G = G' ∧ sz = sz') := by
  refine q_C.of (by decide) rfl (by simp [Value.category]) (Nat.le_of_ble_eq_true rfl) ?_
  refine q_aload_n dX9_isLine_0 rfl rfl ?_
  refine q_iload_n dX9_isLine_1 rfl ?_
  refine q_iv (As := [_]) dX9_isLine_2 ml_X9_100 mt_X9_isPuzzle mi_X9_isPuzzle se_X9_isPuzzle hM.1 rfl rfl (Nat.le_of_ble_eq_true rfl) (Nat.le_of_ble_eq_true rfl) (Nat.zero_le _) (Nat.zero_le _) (Nat.le_of_ble_eq_true rfl) (q_C.mono (c_X9_isPuzzle hM _) (fun v G1 sz1 hq => ?_))
  obtain ⟨⟨hq2, rfl⟩ | ⟨hq2, rfl⟩, rfl, rfl⟩ := hq
  · refine q_if_eq (tgt := 27) dX9_isLine_5 (by decide) (fun h => absurd h (by decide)) (fun _ => ?_)
    obtain ⟨j, hj, rfl⟩ := hq2
    have hw := hB j hj
    refine q_iload_n dX9_isLine_8 rfl ?_
    refine q_iconst (v := nI 0) dX9_isLine_9 (by decide) ?_
    refine q_aload_n dX9_isLine_10 rfl rfl ?_
    refine q_iload_n dX9_isLine_11 rfl ?_
    refine q_iv (As := [_]) dX9_isLine_12 ml_X9_104 mt_X9_linesOf mi_X9_linesOf se_X9_linesOf hM.1 rfl rfl (Nat.le_of_ble_eq_true rfl) (Nat.le_of_ble_eq_true rfl) (Nat.zero_le _) (Nat.zero_le _) (Nat.le_of_ble_eq_true rfl) (q_C.mono (c_X9_linesOf  hM (by omega) rfl rfl) (fun v G1 sz1 hq => ?_))
    obtain ⟨rfl, rfl, rfl⟩ := hq
    refine q_iconst (v := nI 1) dX9_isLine_15 (by decide) ?_
    refine q_isub dX9_isLine_16 rfl ?_
    refine q_is (As := [_, _, _]) dX9_isLine_17 ml_X9_96 mt_X9_in ms_X9_in rfl (Nat.le_of_ble_eq_true rfl) (Nat.le_of_ble_eq_true rfl) (Nat.zero_le _) (Nat.zero_le _) (Nat.le_of_ble_eq_true rfl) (q_C.mono (c_X9_in _ _ _) (fun v G1 sz1 hq => ?_))
    obtain ⟨⟨hq17, rfl⟩ | ⟨hq17, rfl⟩, rfl, rfl⟩ := hq
    · obtain ⟨k, hk, rfl⟩ := (q_ixm (by omega)).mp hq17
      refine q_if_eq (tgt := 27) dX9_isLine_20 (by decide) (fun h => absurd h (by decide)) (fun _ => ?_)
      refine q_iconst (v := nI 1) dX9_isLine_23 (by decide) ?_
      refine q_goto (tgt := 28) dX9_isLine_24 (by decide) ?_
      exact q_ireturn dX9_isLine_28 rfl (by decide +kernel) ⟨Or.inl ⟨⟨j, k, hj, rfl, hk, rfl⟩, rfl⟩, rfl, rfl⟩
    · rw [q_ixm (by omega)] at hq17
      refine q_if_eq (tgt := 27) dX9_isLine_20 (by decide) (fun _ => ?_) (fun h => absurd h (by decide))
      refine q_iconst (v := nI 0) dX9_isLine_27 (by decide) ?_
      exact q_ireturn dX9_isLine_28 rfl (by decide +kernel) ⟨Or.inr ⟨fun ⟨j', k, hj', e, hk, e2⟩ => hq17 ⟨k, by rw [(nI_eq (by omega) (by omega)).mp e]; exact hk, e2⟩, rfl⟩, rfl, rfl⟩
  · refine q_if_eq (tgt := 27) dX9_isLine_5 (by decide) (fun _ => ?_) (fun h => absurd h (by decide))
    refine q_iconst (v := nI 0) dX9_isLine_27 (by decide) ?_
    exact q_ireturn dX9_isLine_28 rfl (by decide +kernel) ⟨Or.inr ⟨fun ⟨j, k, hj, e, hk, e2⟩ => hq2 ⟨j, hj, e⟩, rfl⟩, rfl, rfl⟩

set_option maxHeartbeats 4000000 in
set_option maxRecDepth 100000 in
theorem c_X9_isCell {T : q_T} {m : Nat} {G0 G : q_G} {I : md_I} {A : md_A} {sz : Nat} (hM : Mod T m G0 I A G) (hI : I 0 ≤ 30) (hB : ∀ p, p < I 0 → 1 ≤ A 1 p ∧ A 1 p ≤ 10 ∧ 1 ≤ A 2 p ∧ A 2 p ≤ 10) (p l : Int32) : q_C T mX9_isCell 2 43 0 0 [.ref m, .int p, .int l] G sz (fun v G' sz' => ((∃ j k, j < I 0 ∧ p = nI j ∧ k < A 1 j * A 2 j ∧ l = nI k) ∧ v = some (.int (nI 1)) ∨ ¬ (∃ j k, j < I 0 ∧ p = nI j ∧ k < A 1 j * A 2 j ∧ l = nI k) ∧ v = some (.int (nI 0))) ∧ G = G' ∧ sz = sz') := by
  refine q_C.of (by decide) rfl (by simp [Value.category]) (Nat.le_of_ble_eq_true rfl) ?_
  refine q_aload_n dX9_isCell_0 rfl rfl ?_
  refine q_iload_n dX9_isCell_1 rfl ?_
  refine q_iv (As := [_]) dX9_isCell_2 ml_X9_100 mt_X9_isPuzzle mi_X9_isPuzzle se_X9_isPuzzle hM.1 rfl rfl (Nat.le_of_ble_eq_true rfl) (Nat.le_of_ble_eq_true rfl) (Nat.zero_le _) (Nat.zero_le _) (Nat.le_of_ble_eq_true rfl) (q_C.mono (c_X9_isPuzzle hM _) (fun v G1 sz1 hq => ?_))
  obtain ⟨⟨hq2, rfl⟩ | ⟨hq2, rfl⟩, rfl, rfl⟩ := hq
  · refine q_if_eq (tgt := 27) dX9_isCell_5 (by decide) (fun h => absurd h (by decide)) (fun _ => ?_)
    obtain ⟨j, hj, rfl⟩ := hq2
    have hw := hB j hj
    refine q_iload_n dX9_isCell_8 rfl ?_
    refine q_iconst (v := nI 0) dX9_isCell_9 (by decide) ?_
    refine q_aload_n dX9_isCell_10 rfl rfl ?_
    refine q_iload_n dX9_isCell_11 rfl ?_
    refine q_iv (As := [_]) dX9_isCell_12 ml_X9_108 mt_X9_sizeOf mi_X9_sizeOf se_X9_sizeOf hM.1 rfl rfl (Nat.le_of_ble_eq_true rfl) (Nat.le_of_ble_eq_true rfl) (Nat.zero_le _) (Nat.zero_le _) (Nat.le_of_ble_eq_true rfl) (q_C.mono (c_X9_sizeOf  hM (by omega) rfl rfl) (fun v G1 sz1 hq => ?_))
    obtain ⟨rfl, rfl, rfl⟩ := hq
    refine q_iconst (v := nI 1) dX9_isCell_15 (by decide) ?_
    refine q_isub dX9_isCell_16 rfl ?_
    refine q_is (As := [_, _, _]) dX9_isCell_17 ml_X9_96 mt_X9_in ms_X9_in rfl (Nat.le_of_ble_eq_true rfl) (Nat.le_of_ble_eq_true rfl) (Nat.zero_le _) (Nat.zero_le _) (Nat.le_of_ble_eq_true rfl) (q_C.mono (c_X9_in _ _ _) (fun v G1 sz1 hq => ?_))
    obtain ⟨⟨hq17, rfl⟩ | ⟨hq17, rfl⟩, rfl, rfl⟩ := hq
    · obtain ⟨k, hk, rfl⟩ := (q_ixm (by have := Nat.mul_le_mul hw.2.1 hw.2.2.2; omega)).mp hq17
      refine q_if_eq (tgt := 27) dX9_isCell_20 (by decide) (fun h => absurd h (by decide)) (fun _ => ?_)
      refine q_iconst (v := nI 1) dX9_isCell_23 (by decide) ?_
      refine q_goto (tgt := 28) dX9_isCell_24 (by decide) ?_
      exact q_ireturn dX9_isCell_28 rfl (by decide +kernel) ⟨Or.inl ⟨⟨j, k, hj, rfl, hk, rfl⟩, rfl⟩, rfl, rfl⟩
    · rw [q_ixm (by have := Nat.mul_le_mul hw.2.1 hw.2.2.2; omega)] at hq17
      refine q_if_eq (tgt := 27) dX9_isCell_20 (by decide) (fun _ => ?_) (fun h => absurd h (by decide))
      refine q_iconst (v := nI 0) dX9_isCell_27 (by decide) ?_
      exact q_ireturn dX9_isCell_28 rfl (by decide +kernel) ⟨Or.inr ⟨fun ⟨j', k, hj', e, hk, e2⟩ => hq17 ⟨k, by rw [(nI_eq (by omega) (by omega)).mp e]; exact hk, e2⟩, rfl⟩, rfl, rfl⟩
  · refine q_if_eq (tgt := 27) dX9_isCell_5 (by decide) (fun _ => ?_) (fun h => absurd h (by decide))
    refine q_iconst (v := nI 0) dX9_isCell_27 (by decide) ?_
    exact q_ireturn dX9_isCell_28 rfl (by decide +kernel) ⟨Or.inr ⟨fun ⟨j, k, hj, e, hk, e2⟩ => hq2 ⟨j, hj, e⟩, rfl⟩, rfl, rfl⟩

theorem md_full_le {n : Nat} (h : n ≤ 3) : 1 <<< (n + 1) - 1 ≤ 100000 := by
  have h1 : 1 <<< (n + 1) ≤ 1 <<< 4 := by
    rw [Nat.shiftLeft_eq, Nat.shiftLeft_eq, Nat.one_mul, Nat.one_mul]
    exact Nat.pow_le_pow_right (by decide) (by omega)
  have h2 : (1 : Nat) <<< 4 = 16 := rfl
  omega

set_option maxHeartbeats 4000000 in
set_option maxRecDepth 100000 in
theorem l_X9_fresh {T : q_T} {m : Nat} {G0 : q_G} {I : md_I} {A : md_A} {sz : Nat} {E : q_E} {p : Nat} (hp : p < 30) (h1 : 1 ≤ A 1 p ∧ A 1 p ≤ 10 ∧ 1 ≤ A 2 p ∧ A 2 p ≤ 10) (hc : A 3 p ≤ 3) (hx : ∀ G, Mod T m G0 I (md_fill A 8 (100 * p) (A 1 p * A 2 p) (1 <<< (A 3 p + 1) - 1)) G → q_R T mX9_fresh 2 43 43 [some (.ref m), some (.int (nI p)), some (.int (nI (A 1 p * A 2 p)))] [] G sz 0 0 E) : ∀ (c : Nat) (G : q_G), c ≤ A 1 p * A 2 p → Mod T m G0 I (md_fill A 8 (100 * p) c (1 <<< (A 3 p + 1) - 1)) G → q_R T mX9_fresh 2 43 12 [some (.ref m), some (.int (nI p)), some (.int (nI c))] [] G sz 0 0 E := by
  refine q_indN (fun c a => A 1 p * A 2 p - c) _ (fun c G ih => ?_)
  intro hc2 hM
  have hmul := Nat.mul_le_mul h1.2.1 h1.2.2.2
  refine q_iload_n dX9_fresh_12 rfl ?_
  refine q_aload_n dX9_fresh_13 rfl rfl ?_
  refine q_iload_n dX9_fresh_14 rfl ?_
  refine q_iv (As := [_]) dX9_fresh_15 ml_X9_108 mt_X9_sizeOf mi_X9_sizeOf se_X9_sizeOf hM.1 rfl rfl (Nat.le_of_ble_eq_true rfl) (Nat.le_of_ble_eq_true rfl) (Nat.zero_le _) (Nat.zero_le _) (Nat.le_of_ble_eq_true rfl) (q_C.mono (c_X9_sizeOf (w := A 1 p) (h := A 2 p) hM (by omega) rfl rfl) (fun v G1 sz1 hq => ?_))
  obtain ⟨rfl, rfl, rfl⟩ := hq
  refine n_icmp_ge (tgt := 43) dX9_fresh_18 (by decide) (by omega) (by omega) (fun c18 => ?_) (fun c18 => ?_)
  · obtain rfl : c = A 1 p * A 2 p := by omega
    exact hx G hM
  · refine q_aload_n dX9_fresh_21 rfl rfl ?_
    refine q_mga 8 8 dX9_fresh_22 hM fl_X9_32 rfl ?_
    refine q_bipush (v := nI 100) dX9_fresh_25 (by decide) ?_
    refine q_iload_n dX9_fresh_27 rfl ?_
    refine q_imul dX9_fresh_28 (pk_mul _ _) ?_
    refine q_iload_n dX9_fresh_29 rfl ?_
    refine q_iadd dX9_fresh_30 (nI_add _ _) ?_
    refine q_aload_n dX9_fresh_31 rfl rfl ?_
    refine q_iload_n dX9_fresh_32 rfl ?_
    refine q_iv (As := [_]) dX9_fresh_33 ml_X9_114 mt_X9_full mi_X9_full se_X9_full hM.1 rfl rfl (Nat.le_of_ble_eq_true rfl) (Nat.le_of_ble_eq_true rfl) (Nat.zero_le _) (Nat.zero_le _) (Nat.le_of_ble_eq_true rfl) (q_C.mono (c_X9_full (n := A 3 p) hM (by omega) rfl (by omega)) (fun v G1 sz1 hq => ?_))
    obtain ⟨rfl, rfl, rfl⟩ := hq
    refine q_mst (k := 8) dX9_fresh_36 hM (by decide) rfl (show _ < (3000 : Nat) by omega) rfl (md_full_le hc) (fun G hM => ?_)
    refine s_iinc dX9_fresh_37 rfl (s_inc1 _) (by decide) rfl ?_
    refine q_goto (tgt := 12) dX9_fresh_40 (by decide) ?_
    exact ih (c + 1) G (by omega) (by omega) (by rw [← md_fill_s]; exact hM)

set_option maxHeartbeats 4000000 in
set_option maxRecDepth 100000 in
theorem c_X9_fresh {T : q_T} {m : Nat} {G0 G : q_G} {I : md_I} {A : md_A} {sz : Nat} (hM : Mod T m G0 I A G) (hI : I 0 ≤ 30) (hB : ∀ p, p < I 0 → 1 ≤ A 1 p ∧ A 1 p ≤ 10 ∧ 1 ≤ A 2 p ∧ A 2 p ≤ 10) (hC : ∀ p, p < I 0 → A 3 p ≤ 3) (x : Int32) : q_C T mX9_fresh 2 43 0 0 [.ref m, .int x] G sz (fun v G' sz' => sz = sz' ∧ ((∃ p, p < I 0 ∧ x = nI p ∧ v = some (.int (nI 1)) ∧ Mod T m G0 I (md_fill A 8 (100 * p) (A 1 p * A 2 p) (1 <<< (A 3 p + 1) - 1)) G') ∨ (¬ (∃ j, j < I 0 ∧ x = nI j) ∧ v = some (.int (nI 0)) ∧ G = G'))) := by
  refine q_C.of (by decide) rfl (by simp [Value.category]) (Nat.le_of_ble_eq_true rfl) ?_
  refine q_aload_n dX9_fresh_0 rfl rfl ?_
  refine q_iload_n dX9_fresh_1 rfl ?_
  refine q_iv (As := [_]) dX9_fresh_2 ml_X9_100 mt_X9_isPuzzle mi_X9_isPuzzle se_X9_isPuzzle hM.1 rfl rfl (Nat.le_of_ble_eq_true rfl) (Nat.le_of_ble_eq_true rfl) (Nat.zero_le _) (Nat.zero_le _) (Nat.le_of_ble_eq_true rfl) (q_C.mono (c_X9_isPuzzle hM _) (fun v G1 sz1 hq => ?_))
  obtain ⟨⟨hq2, rfl⟩ | ⟨hq2, rfl⟩, rfl, rfl⟩ := hq
  · refine q_if_ne (tgt := 10) dX9_fresh_5 (by decide) (fun _ => ?_) (fun h => absurd h (by decide))
    refine q_iconst (v := nI 0) dX9_fresh_10 (by decide) ?_
    refine s_istore_n dX9_fresh_11 (by decide) rfl ?_
    obtain ⟨p, hp, rfl⟩ := hq2
    refine l_X9_fresh (by omega) (hB p hp) (hC p hp) (fun G hM => ?_) 0 G (Nat.zero_le _) (by rw [md_fill_0]; exact hM)
    refine q_iconst (v := nI 1) dX9_fresh_43 (by decide) ?_
    exact q_ireturn dX9_fresh_44 rfl (by decide +kernel) ⟨rfl, Or.inl ⟨p, hp, rfl, rfl, hM⟩⟩
  · refine q_if_ne (tgt := 10) dX9_fresh_5 (by decide) (fun h => absurd h (by decide)) (fun _ => ?_)
    refine q_iconst (v := nI 0) dX9_fresh_8 (by decide) ?_
    exact q_ireturn dX9_fresh_9 rfl (by decide +kernel) ⟨rfl, Or.inr ⟨hq2, rfl, rfl⟩⟩
