/-- n places of an array from o on are g -/
def md_cp (A : md_A) (k o : Nat) (g : Nat → Nat) (n : Nat) : md_A := va_up A k (fun j => if o ≤ j ∧ j < o + n then g (j - o) else A k j)
theorem md_cp_0 (A : md_A) (k o : Nat) (g : Nat → Nat) : md_cp A k o g 0 = A := by
  funext l j
  unfold md_cp va_up
  split
  · next h => subst h; exact if_neg (by omega)
  · rfl
theorem md_cp_s (A : md_A) (k o : Nat) (g : Nat → Nat) (n : Nat) : md_st (md_cp A k o g n) k (o + n) (g n) = md_cp A k o g (n + 1) := by
  funext l j
  rw [md_st_at]
  unfold md_cp va_up
  by_cases h : l = k
  · subst h
    rw [if_pos rfl, if_pos rfl]
    by_cases h2 : j = o + n
    · subst h2
      rw [if_pos ⟨rfl, rfl⟩, if_pos (by omega), show o + n - o = n by omega]
    · rw [if_neg (fun g => h2 g.2)]
      by_cases h3 : o ≤ j ∧ j < o + n
      · rw [if_pos h3, if_pos (by omega)]
      · rw [if_neg h3, if_neg (by omega)]
  · rw [if_neg (fun g => h g.1), if_neg h, if_neg h]
theorem md_cp_k (A : md_A) {k o n l : Nat} {g : Nat → Nat} (h : l ≠ k) : md_cp A k o g n l = A l := by simp [md_cp, va_up, h]
theorem md_cp_in (A : md_A) {k o n x : Nat} {g : Nat → Nat} (h : x < n) : md_cp A k o g n k (o + x) = g x := by
  unfold md_cp va_up
  rw [if_pos rfl]
  show (if o ≤ o + x ∧ o + x < o + n then g (o + x - o) else A k (o + x)) = g x
  rw [if_pos (by omega), show o + x - o = x by omega]
theorem md_cp_out (A : md_A) {k o n j : Nat} {g : Nat → Nat} (h : j < o ∨ o + n ≤ j) : md_cp A k o g n k j = A k j := by
  unfold md_cp va_up
  rw [if_pos rfl]
  exact if_neg (by omega)

set_option maxHeartbeats 4000000 in
set_option maxRecDepth 100000 in
theorem l_X9_loads {T : q_T} {m : Nat} {G0 : q_G} {I : md_I} {A : md_A} {sz : Nat} {E : q_E} {p o : Nat} (hp : p < 30) (h1 : 1 ≤ A 1 p ∧ A 1 p ≤ 10 ∧ 1 ≤ A 2 p ∧ A 2 p ≤ 10) (ho : o + 100 ≤ 10400) (hx : ∀ G, Mod T m G0 I (md_cp A 10 o (fun x => A 8 (100 * p + x)) (A 1 p * A 2 p)) G → q_R T mX9_loads 1 21 36 [some (.ref m), some (.int (nI p)), some (.int (nI o)), some (.int (nI (A 1 p * A 2 p)))] [] G sz 0 0 E) : ∀ (c : Nat) (G : q_G), c ≤ A 1 p * A 2 p → Mod T m G0 I (md_cp A 10 o (fun x => A 8 (100 * p + x)) c) G → q_R T mX9_loads 1 21 2 [some (.ref m), some (.int (nI p)), some (.int (nI o)), some (.int (nI c))] [] G sz 0 0 E := by
  refine q_indN (fun c a => A 1 p * A 2 p - c) _ (fun c G ih => ?_)
  intro hc2 hM
  have hmul : A 1 p * A 2 p ≤ 100 := Nat.mul_le_mul h1.2.1 h1.2.2.2
  refine q_iload_n dX9_loads_2 rfl ?_
  refine q_aload_n dX9_loads_3 rfl rfl ?_
  refine q_iload_n dX9_loads_4 rfl ?_
  refine q_iv (As := [_]) dX9_loads_5 ml_X9_108 mt_X9_sizeOf mi_X9_sizeOf se_X9_sizeOf hM.1 rfl rfl (Nat.le_of_ble_eq_true rfl) (Nat.le_of_ble_eq_true rfl) (Nat.zero_le _) (Nat.zero_le _) (Nat.le_of_ble_eq_true rfl) (q_C.mono (c_X9_sizeOf (w := A 1 p) (h := A 2 p) hM (by omega) rfl rfl) (fun v G1 sz1 hq => ?_))
  obtain ⟨rfl, rfl, rfl⟩ := hq
  refine n_icmp_ge (tgt := 36) dX9_loads_8 (by decide) (by omega) (by omega) (fun c8 => ?_) (fun c8 => ?_)
  · obtain rfl : c = A 1 p * A 2 p := by omega
    exact hx G hM
  · refine q_aload_n dX9_loads_11 rfl rfl ?_
    refine q_mga 10 10 dX9_loads_12 hM fl_X9_38 rfl ?_
    refine q_iload_n dX9_loads_15 rfl ?_
    refine q_iload_n dX9_loads_16 rfl ?_
    refine q_iadd dX9_loads_17 (nI_add _ _) ?_
    refine q_aload_n dX9_loads_18 rfl rfl ?_
    refine q_mga 8 8 dX9_loads_19 hM fl_X9_32 rfl ?_
    refine q_bipush (v := nI 100) dX9_loads_22 (by decide) ?_
    refine q_iload_n dX9_loads_24 rfl ?_
    refine q_imul dX9_loads_25 (pk_mul _ _) ?_
    refine q_iload_n dX9_loads_26 rfl ?_
    refine q_iadd dX9_loads_27 (nI_add _ _) ?_
    refine q_mld (k := 8) (v := nI (A 8 (100 * p + c))) dX9_loads_28 hM (by decide) rfl (show _ < (3000 : Nat) by omega) rfl (fun b28 => ?_)
    refine q_mst (k := 10) dX9_loads_29 hM (by decide) rfl (show _ < (10400 : Nat) by omega) rfl (show A 8 (100 * p + c) ≤ 100000 from b28) (fun G hM => ?_)
    refine s_iinc dX9_loads_30 rfl (s_inc1 _) (by decide) rfl ?_
    refine q_goto (tgt := 2) dX9_loads_33 (by decide) ?_
    exact ih (c + 1) G (by omega) (by omega) (by rw [← md_cp_s]; exact hM)

set_option maxHeartbeats 4000000 in
set_option maxRecDepth 100000 in
theorem c_X9_loads {T : q_T} {m : Nat} {G0 G : q_G} {I : md_I} {A : md_A} {sz : Nat} (hM : Mod T m G0 I A G) {p o : Nat} (hp : p < 30) (h1 : 1 ≤ A 1 p ∧ A 1 p ≤ 10 ∧ 1 ≤ A 2 p ∧ A 2 p ≤ 10) (ho : o + 100 ≤ 10400) : q_C T mX9_loads 1 21 0 0 [.ref m, .int (nI p), .int (nI o)] G sz (fun v G' sz' => sz = sz' ∧ v = none ∧ Mod T m G0 I (md_cp A 10 o (fun x => A 8 (100 * p + x)) (A 1 p * A 2 p)) G') := by
  refine q_C.of (by decide) rfl (by simp [Value.category]) (Nat.le_of_ble_eq_true rfl) ?_
  refine q_iconst (v := nI 0) dX9_loads_0 (by decide) ?_
  refine s_istore_n dX9_loads_1 (by decide) rfl ?_
  refine l_X9_loads hp h1 ho (fun G hM => ?_) 0 G (Nat.zero_le _) (by rw [md_cp_0]; exact hM)
  exact q_return dX9_loads_36 rfl ⟨rfl, rfl, hM⟩

set_option maxHeartbeats 4000000 in
set_option maxRecDepth 100000 in
theorem l_X9_stores {T : q_T} {m : Nat} {G0 : q_G} {I : md_I} {A : md_A} {sz : Nat} {E : q_E} {p o : Nat} (hp : p < 30) (h1 : 1 ≤ A 1 p ∧ A 1 p ≤ 10 ∧ 1 ≤ A 2 p ∧ A 2 p ≤ 10) (ho : o + 100 ≤ 10400) (hx : ∀ G, Mod T m G0 I (md_cp A 8 (100 * p) (fun x => A 10 (o + x)) (A 1 p * A 2 p)) G → q_R T mX9_stores 1 21 36 [some (.ref m), some (.int (nI p)), some (.int (nI o)), some (.int (nI (A 1 p * A 2 p)))] [] G sz 0 0 E) : ∀ (c : Nat) (G : q_G), c ≤ A 1 p * A 2 p → Mod T m G0 I (md_cp A 8 (100 * p) (fun x => A 10 (o + x)) c) G → q_R T mX9_stores 1 21 2 [some (.ref m), some (.int (nI p)), some (.int (nI o)), some (.int (nI c))] [] G sz 0 0 E := by
  refine q_indN (fun c a => A 1 p * A 2 p - c) _ (fun c G ih => ?_)
  intro hc2 hM
  have hmul : A 1 p * A 2 p ≤ 100 := Nat.mul_le_mul h1.2.1 h1.2.2.2
  refine q_iload_n dX9_stores_2 rfl ?_
  refine q_aload_n dX9_stores_3 rfl rfl ?_
  refine q_iload_n dX9_stores_4 rfl ?_
  refine q_iv (As := [_]) dX9_stores_5 ml_X9_108 mt_X9_sizeOf mi_X9_sizeOf se_X9_sizeOf hM.1 rfl rfl (Nat.le_of_ble_eq_true rfl) (Nat.le_of_ble_eq_true rfl) (Nat.zero_le _) (Nat.zero_le _) (Nat.le_of_ble_eq_true rfl) (q_C.mono (c_X9_sizeOf (w := A 1 p) (h := A 2 p) hM (by omega) rfl rfl) (fun v G1 sz1 hq => ?_))
  obtain ⟨rfl, rfl, rfl⟩ := hq
  refine n_icmp_ge (tgt := 36) dX9_stores_8 (by decide) (by omega) (by omega) (fun c8 => ?_) (fun c8 => ?_)
  · obtain rfl : c = A 1 p * A 2 p := by omega
    exact hx G hM
  · refine q_aload_n dX9_stores_11 rfl rfl ?_
    refine q_mga 8 8 dX9_stores_12 hM fl_X9_32 rfl ?_
    refine q_bipush (v := nI 100) dX9_stores_15 (by decide) ?_
    refine q_iload_n dX9_stores_17 rfl ?_
    refine q_imul dX9_stores_18 (pk_mul _ _) ?_
    refine q_iload_n dX9_stores_19 rfl ?_
    refine q_iadd dX9_stores_20 (nI_add _ _) ?_
    refine q_aload_n dX9_stores_21 rfl rfl ?_
    refine q_mga 10 10 dX9_stores_22 hM fl_X9_38 rfl ?_
    refine q_iload_n dX9_stores_25 rfl ?_
    refine q_iload_n dX9_stores_26 rfl ?_
    refine q_iadd dX9_stores_27 (nI_add _ _) ?_
    refine q_mld (k := 10) (v := nI (A 10 (o + c))) dX9_stores_28 hM (by decide) rfl (show _ < (10400 : Nat) by omega) rfl (fun b28 => ?_)
    refine q_mst (k := 8) dX9_stores_29 hM (by decide) rfl (show _ < (3000 : Nat) by omega) rfl (show A 10 (o + c) ≤ 100000 from b28) (fun G hM => ?_)
    refine s_iinc dX9_stores_30 rfl (s_inc1 _) (by decide) rfl ?_
    refine q_goto (tgt := 2) dX9_stores_33 (by decide) ?_
    exact ih (c + 1) G (by omega) (by omega) (by rw [← md_cp_s]; exact hM)

set_option maxHeartbeats 4000000 in
set_option maxRecDepth 100000 in
theorem c_X9_stores {T : q_T} {m : Nat} {G0 G : q_G} {I : md_I} {A : md_A} {sz : Nat} (hM : Mod T m G0 I A G) {p o : Nat} (hp : p < 30) (h1 : 1 ≤ A 1 p ∧ A 1 p ≤ 10 ∧ 1 ≤ A 2 p ∧ A 2 p ≤ 10) (ho : o + 100 ≤ 10400) : q_C T mX9_stores 1 21 0 0 [.ref m, .int (nI p), .int (nI o)] G sz (fun v G' sz' => sz = sz' ∧ v = none ∧ Mod T m G0 I (md_cp A 8 (100 * p) (fun x => A 10 (o + x)) (A 1 p * A 2 p)) G') := by
  refine q_C.of (by decide) rfl (by simp [Value.category]) (Nat.le_of_ble_eq_true rfl) ?_
  refine q_iconst (v := nI 0) dX9_stores_0 (by decide) ?_
  refine s_istore_n dX9_stores_1 (by decide) rfl ?_
  refine l_X9_stores hp h1 ho (fun G hM => ?_) 0 G (Nat.zero_le _) (by rw [md_cp_0]; exact hM)
  exact q_return dX9_stores_36 rfl ⟨rfl, rfl, hM⟩

set_option maxHeartbeats 4000000 in
set_option maxRecDepth 100000 in
theorem l_X9_copies {T : q_T} {m : Nat} {G0 : q_G} {I : md_I} {A : md_A} {sz : Nat} {E : q_E} {p o o2 : Nat} (hp : p < 30) (h1 : 1 ≤ A 1 p ∧ A 1 p ≤ 10 ∧ 1 ≤ A 2 p ∧ A 2 p ≤ 10) (ho : o + 100 ≤ 10400) (ho2 : o2 + 100 ≤ 10400) (hoo : o + 100 ≤ o2) (hx : ∀ G, Mod T m G0 I (md_cp A 10 o2 (fun x => A 10 (o + x)) (A 1 p * A 2 p)) G → q_R T mX9_copies 1 21 37 [some (.ref m), some (.int (nI p)), some (.int (nI o)), some (.int (nI o2)), some (.int (nI (A 1 p * A 2 p)))] [] G sz 0 0 E) : ∀ (c : Nat) (G : q_G), c ≤ A 1 p * A 2 p → Mod T m G0 I (md_cp A 10 o2 (fun x => A 10 (o + x)) c) G → q_R T mX9_copies 1 21 3 [some (.ref m), some (.int (nI p)), some (.int (nI o)), some (.int (nI o2)), some (.int (nI c))] [] G sz 0 0 E := by
  refine q_indN (fun c a => A 1 p * A 2 p - c) _ (fun c G ih => ?_)
  intro hc2 hM
  have hmul : A 1 p * A 2 p ≤ 100 := Nat.mul_le_mul h1.2.1 h1.2.2.2
  refine q_iload dX9_copies_3 rfl ?_
  refine q_aload_n dX9_copies_5 rfl rfl ?_
  refine q_iload_n dX9_copies_6 rfl ?_
  refine q_iv (As := [_]) dX9_copies_7 ml_X9_108 mt_X9_sizeOf mi_X9_sizeOf se_X9_sizeOf hM.1 rfl rfl (Nat.le_of_ble_eq_true rfl) (Nat.le_of_ble_eq_true rfl) (Nat.zero_le _) (Nat.zero_le _) (Nat.le_of_ble_eq_true rfl) (q_C.mono (c_X9_sizeOf (w := A 1 p) (h := A 2 p) hM (by omega) rfl rfl) (fun v G1 sz1 hq => ?_))
  obtain ⟨rfl, rfl, rfl⟩ := hq
  refine n_icmp_ge (tgt := 37) dX9_copies_10 (by decide) (by omega) (by omega) (fun c10 => ?_) (fun c10 => ?_)
  · obtain rfl : c = A 1 p * A 2 p := by omega
    exact hx G hM
  · refine q_aload_n dX9_copies_13 rfl rfl ?_
    refine q_mga 10 10 dX9_copies_14 hM fl_X9_38 rfl ?_
    refine q_iload_n dX9_copies_17 rfl ?_
    refine q_iload dX9_copies_18 rfl ?_
    refine q_iadd dX9_copies_20 (nI_add _ _) ?_
    refine q_aload_n dX9_copies_21 rfl rfl ?_
    refine q_mga 10 10 dX9_copies_22 hM fl_X9_38 rfl ?_
    refine q_iload_n dX9_copies_25 rfl ?_
    refine q_iload dX9_copies_26 rfl ?_
    refine q_iadd dX9_copies_28 (nI_add _ _) ?_
    refine q_mld (k := 10) (v := nI (A 10 (o + c))) dX9_copies_29 hM (by decide) rfl (show _ < (10400 : Nat) by omega) (congrArg nI (md_cp_out A (k := 10) (by omega))) (fun b29 => ?_)
    refine q_mst (k := 10) dX9_copies_30 hM (by decide) rfl (show _ < (10400 : Nat) by omega) rfl (by rw [md_cp_out A (k := 10) (by omega)] at b29; exact b29) (fun G hM => ?_)
    refine s_iinc dX9_copies_31 rfl (s_inc1 _) (by decide) rfl ?_
    refine q_goto (tgt := 3) dX9_copies_34 (by decide) ?_
    exact ih (c + 1) G (by omega) (by omega) (by rw [← md_cp_s]; exact hM)

set_option maxHeartbeats 4000000 in
set_option maxRecDepth 100000 in
theorem c_X9_copies {T : q_T} {m : Nat} {G0 G : q_G} {I : md_I} {A : md_A} {sz : Nat} (hM : Mod T m G0 I A G) {p o o2 : Nat} (hp : p < 30) (h1 : 1 ≤ A 1 p ∧ A 1 p ≤ 10 ∧ 1 ≤ A 2 p ∧ A 2 p ≤ 10) (ho : o + 100 ≤ 10400) (ho2 : o2 + 100 ≤ 10400) (hoo : o + 100 ≤ o2) : q_C T mX9_copies 1 21 0 0 [.ref m, .int (nI p), .int (nI o), .int (nI o2)] G sz (fun v G' sz' => sz = sz' ∧ v = none ∧ Mod T m G0 I (md_cp A 10 o2 (fun x => A 10 (o + x)) (A 1 p * A 2 p)) G') := by
  refine q_C.of (by decide) rfl (by simp [Value.category]) (Nat.le_of_ble_eq_true rfl) ?_
  refine q_iconst (v := nI 0) dX9_copies_0 (by decide) ?_
  refine s_istore dX9_copies_1 (by decide) rfl ?_
  refine l_X9_copies hp h1 ho ho2 hoo (fun G hM => ?_) 0 G (Nat.zero_le _) (by rw [md_cp_0]; exact hM)
  exact q_return dX9_copies_37 rfl ⟨rfl, rfl, hM⟩
