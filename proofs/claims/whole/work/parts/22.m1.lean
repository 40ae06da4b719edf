set_option maxHeartbeats 4000000 in
set_option maxRecDepth 100000 in
theorem c_X9_in {T : q_T} {G : q_G} {sz : Nat} (v0 l0 t0 : Int32) : q_C T mX9_in 0 0 0 0 [.int v0, .int l0, .int t0] G sz (fun v G' sz' => ((l0 ≤ v0 ∧ v0 ≤ t0) ∧ v = some (.int (nI 1)) ∨ ¬ (l0 ≤ v0 ∧ v0 ≤ t0) ∧ v = some (.int (nI 0))) ∧ G = G' ∧ sz = sz') := by
  refine q_C.of (by decide) rfl (by simp [Value.category]) (Nat.le_of_ble_eq_true rfl) ?_
  refine q_iload_n dX9_in_0 rfl ?_
  refine q_iload_n dX9_in_1 rfl ?_
  refine q_icmp_lt (tgt := 14) dX9_in_2 (by decide) (fun c2 => ?_) (fun c2 => ?_)
  · refine q_iconst (v := nI 0) dX9_in_14 (by decide) ?_
    exact q_ireturn dX9_in_15 rfl (by decide +kernel) ⟨Or.inr ⟨fun h => absurd c2 (Int32.not_lt.mpr h.1), rfl⟩, rfl, rfl⟩
  · refine q_iload_n dX9_in_5 rfl ?_
    refine q_iload_n dX9_in_6 rfl ?_
    refine q_icmp_gt (tgt := 14) dX9_in_7 (by decide) (fun c7 => ?_) (fun c7 => ?_)
    · refine q_iconst (v := nI 0) dX9_in_14 (by decide) ?_
      exact q_ireturn dX9_in_15 rfl (by decide +kernel) ⟨Or.inr ⟨fun h => absurd c7 (Int32.not_lt.mpr h.2), rfl⟩, rfl, rfl⟩
    · refine q_iconst (v := nI 1) dX9_in_10 (by decide) ?_
      refine q_goto (tgt := 15) dX9_in_11 (by decide) ?_
      exact q_ireturn dX9_in_15 rfl (by decide +kernel) ⟨Or.inl ⟨⟨Int32.not_lt.mp c2, Int32.not_lt.mp c7⟩, rfl⟩, rfl, rfl⟩

/-- an int within 0 .. n - 1 -/
theorem q_ixm {x : Int32} {n : Nat} (hn : n ≤ 1000000) : (nI 0 ≤ x ∧ x ≤ nI n - nI 1) ↔ ∃ j, j < n ∧ x = nI j := by
  have h1 : (nI n - nI 1).toInt = (n : Int) - 1 := pk_sub_toInt (by omega) (by omega)
  rw [Int32.le_iff_toInt_le, Int32.le_iff_toInt_le, h1, nI_toInt (n := 0) (by omega)]
  constructor
  · intro h
    obtain ⟨j, hj, rfl⟩ := nI_of (x := x) (fun g => by have := Int32.lt_iff_toInt_lt.mp g; rw [Int32.toInt_zero] at this; omega)
    rw [nI_toInt hj] at h
    exact ⟨j, by omega, rfl⟩
  · rintro ⟨j, hj, rfl⟩
    rw [nI_toInt (by omega)]
    omega
theorem q_ixn {x : Int32} {n : Nat} (hn : n ≤ 1000000) : (nI 0 ≤ x ∧ x ≤ nI n) ↔ ∃ j, j ≤ n ∧ x = nI j := by
  rw [Int32.le_iff_toInt_le, Int32.le_iff_toInt_le, nI_toInt (n := n) (by omega), nI_toInt (n := 0) (by omega)]
  constructor
  · intro h
    obtain ⟨j, hj, rfl⟩ := nI_of (x := x) (fun g => by have := Int32.lt_iff_toInt_lt.mp g; rw [Int32.toInt_zero] at this; omega)
    rw [nI_toInt hj] at h
    exact ⟨j, by omega, rfl⟩
  · rintro ⟨j, hj, rfl⟩
    rw [nI_toInt (by omega)]
    omega

set_option maxHeartbeats 4000000 in
set_option maxRecDepth 100000 in
theorem c_X9_isPuzzle {T : q_T} {m : Nat} {G0 G : q_G} {I : md_I} {A : md_A} {sz : Nat} (hM : Mod T m G0 I A G) (p : Int32) : q_C T mX9_isPuzzle 1 22 0 0 [.ref m, .int p] G sz (fun v G' sz' => ((∃ j, j < I 0 ∧ p = nI j) ∧ v = some (.int (nI 1)) ∨ ¬ (∃ j, j < I 0 ∧ p = nI j) ∧ v = some (.int (nI 0))) ∧ G = G' ∧ sz = sz') := by
  refine q_C.of (by decide) rfl (by simp [Value.category]) (Nat.le_of_ble_eq_true rfl) ?_
  refine q_iload_n dX9_isPuzzle_0 rfl ?_
  refine q_iconst (v := nI 0) dX9_isPuzzle_1 (by decide) ?_
  refine q_aload_n dX9_isPuzzle_2 rfl rfl ?_
  refine q_mgi 0 dX9_isPuzzle_3 hM fl_X9_92 (by decide) (fun b3 => ?_)
  refine q_iconst (v := nI 1) dX9_isPuzzle_6 (by decide) ?_
  refine q_isub dX9_isPuzzle_7 rfl ?_
  refine q_is (As := [_, _, _]) dX9_isPuzzle_8 ml_X9_96 mt_X9_in ms_X9_in rfl (Nat.le_of_ble_eq_true rfl) (Nat.le_of_ble_eq_true rfl) (Nat.zero_le _) (Nat.zero_le _) (Nat.le_of_ble_eq_true rfl) (q_C.mono (c_X9_in _ _ _) (fun v G1 sz1 hq => ?_))
  obtain ⟨⟨hq8, rfl⟩ | ⟨hq8, rfl⟩, rfl, rfl⟩ := hq
  · exact q_ireturn dX9_isPuzzle_11 rfl (by decide +kernel) ⟨Or.inl ⟨(q_ixm (by omega)).mp hq8, rfl⟩, rfl, rfl⟩
  · exact q_ireturn dX9_isPuzzle_11 rfl (by decide +kernel) ⟨Or.inr ⟨fun h => hq8 ((q_ixm (by omega)).mpr h), rfl⟩, rfl, rfl⟩

set_option maxHeartbeats 4000000 in
set_option maxRecDepth 100000 in
theorem c_X9_linesOf {T : q_T} {m : Nat} {G0 G : q_G} {I : md_I} {A : md_A} {sz : Nat} (hM : Mod T m G0 I A G) {p w h : Nat} (hp : p < 30) (hw : A 1 p = w) (hh : A 2 p = h) : q_C T mX9_linesOf 0 0 0 0 [.ref m, .int (nI p)] G sz (fun v G' sz' => v = some (.int (nI (w + h))) ∧ G = G' ∧ sz = sz') := by
  refine q_C.of (by decide) rfl (by simp [Value.category]) (Nat.le_of_ble_eq_true rfl) ?_
  subst hw hh
  refine q_aload_n dX9_linesOf_0 rfl rfl ?_
  refine q_mga 1 1 dX9_linesOf_1 hM fl_X9_9 rfl ?_
  refine q_iload_n dX9_linesOf_4 rfl ?_
  refine q_mld (k := 1) (v := nI _) dX9_linesOf_5 hM (by decide) rfl (show _ < (30 : Nat) by omega) rfl (fun b5 => ?_)
  refine q_aload_n dX9_linesOf_6 rfl rfl ?_
  refine q_mga 2 2 dX9_linesOf_7 hM fl_X9_13 rfl ?_
  refine q_iload_n dX9_linesOf_10 rfl ?_
  refine q_mld (k := 2) (v := nI _) dX9_linesOf_11 hM (by decide) rfl (show _ < (30 : Nat) by omega) rfl (fun b11 => ?_)
  refine q_iadd dX9_linesOf_12 (nI_add _ _) ?_
  exact q_ireturn dX9_linesOf_13 rfl rfl ⟨rfl, rfl, rfl⟩

set_option maxHeartbeats 4000000 in
set_option maxRecDepth 100000 in
theorem c_X9_sizeOf {T : q_T} {m : Nat} {G0 G : q_G} {I : md_I} {A : md_A} {sz : Nat} (hM : Mod T m G0 I A G) {p w h : Nat} (hp : p < 30) (hw : A 1 p = w) (hh : A 2 p = h) : q_C T mX9_sizeOf 0 0 0 0 [.ref m, .int (nI p)] G sz (fun v G' sz' => v = some (.int (nI (w * h))) ∧ G = G' ∧ sz = sz') := by
  refine q_C.of (by decide) rfl (by simp [Value.category]) (Nat.le_of_ble_eq_true rfl) ?_
  subst hw hh
  refine q_aload_n dX9_sizeOf_0 rfl rfl ?_
  refine q_mga 1 1 dX9_sizeOf_1 hM fl_X9_9 rfl ?_
  refine q_iload_n dX9_sizeOf_4 rfl ?_
  refine q_mld (k := 1) (v := nI _) dX9_sizeOf_5 hM (by decide) rfl (show _ < (30 : Nat) by omega) rfl (fun b5 => ?_)
  refine q_aload_n dX9_sizeOf_6 rfl rfl ?_
  refine q_mga 2 2 dX9_sizeOf_7 hM fl_X9_13 rfl ?_
  refine q_iload_n dX9_sizeOf_10 rfl ?_
  refine q_mld (k := 2) (v := nI _) dX9_sizeOf_11 hM (by decide) rfl (show _ < (30 : Nat) by omega) rfl (fun b11 => ?_)
  refine q_imul dX9_sizeOf_12 (pk_mul _ _) ?_
  exact q_ireturn dX9_sizeOf_13 rfl rfl ⟨rfl, rfl, rfl⟩

set_option maxHeartbeats 4000000 in
set_option maxRecDepth 100000 in
theorem c_X9_full {T : q_T} {m : Nat} {G0 G : q_G} {I : md_I} {A : md_A} {sz : Nat} (hM : Mod T m G0 I A G) {p n : Nat} (hp : p < 30) (hn : A 3 p = n) (hc : n ≤ 3) : q_C T mX9_full 0 0 0 0 [.ref m, .int (nI p)] G sz (fun v G' sz' => v = some (.int (nI (1 <<< (n + 1) - 1))) ∧ G = G' ∧ sz = sz') := by
  refine q_C.of (by decide) rfl (by simp [Value.category]) (Nat.le_of_ble_eq_true rfl) ?_
  subst hn
  refine q_iconst (v := nI 1) dX9_full_0 (by decide) ?_
  refine q_aload_n dX9_full_1 rfl rfl ?_
  refine q_mga 3 3 dX9_full_2 hM fl_X9_16 rfl ?_
  refine q_iload_n dX9_full_5 rfl ?_
  refine q_mld (k := 3) (v := nI _) dX9_full_6 hM (by decide) rfl (show _ < (30 : Nat) by omega) rfl (fun b6 => ?_)
  refine q_iconst (v := nI 1) dX9_full_7 (by decide) ?_
  refine q_iadd dX9_full_8 (nI_add _ _) ?_
  refine q_ishl dX9_full_9 (n_shl (by omega) rfl) ?_
  refine q_iconst (v := nI 1) dX9_full_10 (by decide) ?_
  refine q_isub dX9_full_11 (pk_sub (by rw [Nat.shiftLeft_eq, Nat.one_mul]; exact Nat.one_le_two_pow)) ?_
  exact q_ireturn dX9_full_12 rfl rfl ⟨rfl, rfl, rfl⟩

set_option maxHeartbeats 4000000 in
set_option maxRecDepth 100000 in
theorem c_X9_runAt {T : q_T} {m : Nat} {G0 G : q_G} {I : md_I} {A : md_A} {sz : Nat} (hM : Mod T m G0 I A G) (p l : Nat) : q_C T mX9_runAt 0 0 0 0 [.ref m, .int (nI p), .int (nI l)] G sz (fun v G' sz' => v = some (.int (nI (10 * (20 * p + l)))) ∧ G = G' ∧ sz = sz') := by
  refine q_C.of (by decide) rfl (by simp [Value.category]) (Nat.le_of_ble_eq_true rfl) ?_
  refine q_bipush (v := nI 10) dX9_runAt_0 (by decide) ?_
  refine q_bipush (v := nI 20) dX9_runAt_2 (by decide) ?_
  refine q_iload_n dX9_runAt_4 rfl ?_
  refine q_imul dX9_runAt_5 (pk_mul _ _) ?_
  refine q_iload_n dX9_runAt_6 rfl ?_
  refine q_iadd dX9_runAt_7 (nI_add _ _) ?_
  refine q_imul dX9_runAt_8 (pk_mul _ _) ?_
  exact q_ireturn dX9_runAt_9 rfl rfl ⟨rfl, rfl, rfl⟩

set_option maxHeartbeats 4000000 in
set_option maxRecDepth 100000 in
theorem c_X9_lineLength {T : q_T} {m : Nat} {G0 G : q_G} {I : md_I} {A : md_A} {sz : Nat} (hM : Mod T m G0 I A G) {l : Nat} {p w h : Nat} (hp : p < 30) (hw : A 1 p = w) (hh : A 2 p = h) (hl : l ≤ 100000) : q_C T mX9_lineLength 0 0 0 0 [.ref m, .int (nI p), .int (nI l)] G sz (fun v G' sz' => v = some (.int (nI (if l < h then w else h))) ∧ G = G' ∧ sz = sz') := by
  refine q_C.of (by decide) rfl (by simp [Value.category]) (Nat.le_of_ble_eq_true rfl) ?_
  subst hw hh
  refine q_iload_n dX9_lineLength_0 rfl ?_
  refine q_aload_n dX9_lineLength_1 rfl rfl ?_
  refine q_mga 2 2 dX9_lineLength_2 hM fl_X9_13 rfl ?_
  refine q_iload_n dX9_lineLength_5 rfl ?_
  refine q_mld (k := 2) (v := nI _) dX9_lineLength_6 hM (by decide) rfl (show _ < (30 : Nat) by omega) rfl (fun b6 => ?_)
  refine n_icmp_ge (tgt := 19) dX9_lineLength_7 (by decide) (by omega) (by omega) (fun c7 => ?_) (fun c7 => ?_)
  · refine q_aload_n dX9_lineLength_19 rfl rfl ?_
    refine q_mga 2 2 dX9_lineLength_20 hM fl_X9_13 rfl ?_
    refine q_iload_n dX9_lineLength_23 rfl ?_
    refine q_mld (k := 2) (v := nI _) dX9_lineLength_24 hM (by decide) rfl (show _ < (30 : Nat) by omega) rfl (fun b24 => ?_)
    exact q_ireturn dX9_lineLength_25 rfl rfl ⟨by first | rw [if_pos (by omega)] | rw [if_neg (by omega)], rfl, rfl⟩
  · refine q_aload_n dX9_lineLength_10 rfl rfl ?_
    refine q_mga 1 1 dX9_lineLength_11 hM fl_X9_9 rfl ?_
    refine q_iload_n dX9_lineLength_14 rfl ?_
    refine q_mld (k := 1) (v := nI _) dX9_lineLength_15 hM (by decide) rfl (show _ < (30 : Nat) by omega) rfl (fun b15 => ?_)
    refine q_goto (tgt := 25) dX9_lineLength_16 (by decide) ?_
    exact q_ireturn dX9_lineLength_25 rfl rfl ⟨by first | rw [if_pos (by omega)] | rw [if_neg (by omega)], rfl, rfl⟩

set_option maxHeartbeats 4000000 in
set_option maxRecDepth 100000 in
theorem c_X9_cellOf {T : q_T} {m : Nat} {G0 G : q_G} {I : md_I} {A : md_A} {sz : Nat} (hM : Mod T m G0 I A G) {l i : Nat} {p w h : Nat} (hp : p < 30) (hw : A 1 p = w) (hh : A 2 p = h) (hl : l ≤ 100000) : q_C T mX9_cellOf 0 0 0 0 [.ref m, .int (nI p), .int (nI l), .int (nI i)] G sz (fun v G' sz' => v = some (.int (nI (if l < h then l * w + i else i * w + l - h))) ∧ G = G' ∧ sz = sz') := by
  refine q_C.of (by decide) rfl (by simp [Value.category]) (Nat.le_of_ble_eq_true rfl) ?_
  subst hw hh
  refine q_iload_n dX9_cellOf_0 rfl ?_
  refine q_aload_n dX9_cellOf_1 rfl rfl ?_
  refine q_mga 2 2 dX9_cellOf_2 hM fl_X9_13 rfl ?_
  refine q_iload_n dX9_cellOf_5 rfl ?_
  refine q_mld (k := 2) (v := nI _) dX9_cellOf_6 hM (by decide) rfl (show _ < (30 : Nat) by omega) rfl (fun b6 => ?_)
  refine n_icmp_ge (tgt := 23) dX9_cellOf_7 (by decide) (by omega) (by omega) (fun c7 => ?_) (fun c7 => ?_)
  · refine q_iload_n dX9_cellOf_23 rfl ?_
    refine q_aload_n dX9_cellOf_24 rfl rfl ?_
    refine q_mga 1 1 dX9_cellOf_25 hM fl_X9_9 rfl ?_
    refine q_iload_n dX9_cellOf_28 rfl ?_
    refine q_mld (k := 1) (v := nI _) dX9_cellOf_29 hM (by decide) rfl (show _ < (30 : Nat) by omega) rfl (fun b29 => ?_)
    refine q_imul dX9_cellOf_30 (pk_mul _ _) ?_
    refine q_iload_n dX9_cellOf_31 rfl ?_
    refine q_iadd dX9_cellOf_32 (nI_add _ _) ?_
    refine q_aload_n dX9_cellOf_33 rfl rfl ?_
    refine q_mga 2 2 dX9_cellOf_34 hM fl_X9_13 rfl ?_
    refine q_iload_n dX9_cellOf_37 rfl ?_
    refine q_mld (k := 2) (v := nI _) dX9_cellOf_38 hM (by decide) rfl (show _ < (30 : Nat) by omega) rfl (fun b38 => ?_)
    refine q_isub dX9_cellOf_39 (pk_sub (by omega)) ?_
    exact q_ireturn dX9_cellOf_40 rfl rfl ⟨by first | rw [if_pos (by omega)] | rw [if_neg (by omega)], rfl, rfl⟩
  · refine q_iload_n dX9_cellOf_10 rfl ?_
    refine q_aload_n dX9_cellOf_11 rfl rfl ?_
    refine q_mga 1 1 dX9_cellOf_12 hM fl_X9_9 rfl ?_
    refine q_iload_n dX9_cellOf_15 rfl ?_
    refine q_mld (k := 1) (v := nI _) dX9_cellOf_16 hM (by decide) rfl (show _ < (30 : Nat) by omega) rfl (fun b16 => ?_)
    refine q_imul dX9_cellOf_17 (pk_mul _ _) ?_
    refine q_iload_n dX9_cellOf_18 rfl ?_
    refine q_iadd dX9_cellOf_19 (nI_add _ _) ?_
    refine q_goto (tgt := 40) dX9_cellOf_20 (by decide) ?_
    exact q_ireturn dX9_cellOf_40 rfl rfl ⟨by first | rw [if_pos (by omega)] | rw [if_neg (by omega)], rfl, rfl⟩
