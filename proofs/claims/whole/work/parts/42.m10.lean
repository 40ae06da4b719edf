/-! what each call answers (z) and makes of what is shown (I2, A2): one relation a call, for the model and for the class -/
/-- puzzle p and cell c; puzzle p and line ln -/
def D_cell (I : md_I) (A : md_A) (x y : Int32) (p c : Nat) : Prop := p < I 0 ∧ x = nI p ∧ c < A 1 p * A 2 p ∧ y = nI c
def D_line (I : md_I) (A : md_A) (x y : Int32) (p ln : Nat) : Prop := p < I 0 ∧ x = nI p ∧ ln < A 1 p + A 2 p ∧ y = nI ln
def D_set (I : md_I) (A : md_A) (x y z : Int32) : Prop := (∃ p c, D_cell I A x y p c ∧ z = nI (A 8 (100 * p + c))) ∨ (¬ (∃ p c, D_cell I A x y p c) ∧ z = nI 0)
def D_found (I : md_I) (x z : Int32) : Prop := z = if x = -1 then nI (I 2) else if x = -2 then nI (I 3) else -1
def D_count (I : md_I) (x z : Int32) : Prop := z = if x = 0 then nI (I 0) else if x = nI 1 then nI (I 7) else -1
def D_picture (I : md_I) (A : md_A) (x y z : Int32) : Prop := (∃ i c, i < I 2 ∧ x = nI i ∧ c < I 4 ∧ y = nI c ∧ z = nI (A 16 (100 * i + c))) ∨ (¬ (∃ i c, i < I 2 ∧ x = nI i ∧ c < I 4 ∧ y = nI c) ∧ z = -1)
def D_out (I : md_I) (A : md_A) (x z : Int32) : Prop := (∃ i, i < I 8 ∧ x = nI i ∧ z = nI (A 27 i)) ∨ (¬ (∃ i, i < I 8 ∧ x = nI i) ∧ z = -1)
def D_paint (I : md_I) (A : md_A) (x y w z : Int32) (I2 : md_I) (A2 : md_A) : Prop := I2 = I ∧ ((∃ i j k, i ≤ 9 ∧ x = nI i ∧ j ≤ 9 ∧ y = nI j ∧ k ≤ 3 ∧ w = nI k ∧ z = nI 1 ∧ A2 = md_st A 9 (10 * j + i) k) ∨ (¬ (∃ i j k, i ≤ 9 ∧ x = nI i ∧ j ≤ 9 ∧ y = nI j ∧ k ≤ 3 ∧ w = nI k) ∧ z = nI 0 ∧ A2 = A))
def D_choose (I : md_I) (A : md_A) (x y w z : Int32) (I2 : md_I) (A2 : md_A) : Prop := I2 = I ∧ ((∃ p c k, D_cell I A x y p c ∧ k ≤ 3 ∧ w = nI k ∧ (A 8 (100 * p + c)).testBit k = true ∧ z = nI 1 ∧ A2 = md_st A 8 (100 * p + c) (1 <<< k)) ∨ (¬ (∃ p c k, D_cell I A x y p c ∧ k ≤ 3 ∧ w = nI k ∧ (A 8 (100 * p + c)).testBit k = true) ∧ z = nI 0 ∧ A2 = A))
def D_bar (I : md_I) (A : md_A) (x y w z : Int32) (I2 : md_I) (A2 : md_A) : Prop := I2 = I ∧ ((∃ p c k, D_cell I A x y p c ∧ k ≤ 3 ∧ w = nI k ∧ (A 8 (100 * p + c)).testBit k = true ∧ A 8 (100 * p + c) &&& (A 8 (100 * p + c) - 1) ≠ 0 ∧ z = nI 1 ∧ A2 = md_st A 8 (100 * p + c) (ln_df (A 8 (100 * p + c)) (1 <<< k))) ∨ (¬ (∃ p c k, D_cell I A x y p c ∧ k ≤ 3 ∧ w = nI k ∧ (A 8 (100 * p + c)).testBit k = true ∧ A 8 (100 * p + c) &&& (A 8 (100 * p + c) - 1) ≠ 0) ∧ z = nI 0 ∧ A2 = A))
def D_clue (I : md_I) (A : md_A) (x y w u z : Int32) : Prop := (∃ p ln i, D_line I A x y p ln ∧ i < pz_n A p ln ∧ w = nI i ∧ z = if u = 0 then nI (pz_c A p ln i) else if u = nI 1 then nI (pz_l A p ln i) else -1) ∨ (¬ (∃ p ln i, D_line I A x y p ln ∧ i < pz_n A p ln ∧ w = nI i) ∧ z = -1)
def D_marked (I : md_I) (A : md_A) (x y z : Int32) : Prop := (∃ g c, g < I 7 ∧ x = nI g ∧ c < A 1 (A 19 g) * A 2 (A 19 g) ∧ y = nI c ∧ z = nI (A 20 (100 * g + c)) - 1) ∨ (¬ (∃ g c, g < I 7 ∧ x = nI g ∧ c < A 1 (A 19 g) * A 2 (A 19 g) ∧ y = nI c) ∧ z = -1)
theorem q_ixr {x : Int32} {lo hi : Nat} (hn : hi ≤ 1000000) (hl : lo ≤ 1000000) : (nI lo ≤ x ∧ x ≤ nI hi) ↔ ∃ j, lo ≤ j ∧ j ≤ hi ∧ x = nI j := by
  rw [Int32.le_iff_toInt_le, Int32.le_iff_toInt_le, nI_toInt (n := hi) (by omega), nI_toInt (n := lo) (by omega)]
  constructor
  · intro h
    obtain ⟨j, hj, rfl⟩ := nI_of (x := x) (fun g => by have := Int32.lt_iff_toInt_lt.mp g; rw [Int32.toInt_zero] at this; omega)
    rw [nI_toInt hj] at h
    exact ⟨j, by omega, by omega, rfl⟩
  · rintro ⟨j, hj, hj2, rfl⟩
    rw [nI_toInt (by omega)]
    omega

set_option maxHeartbeats 4000000 in
set_option maxRecDepth 100000 in
theorem c_X9_set {T : q_T} {m : Nat} {G0 G : q_G} {I : md_I} {A : md_A} {sz t : Nat} (hM : Mod T m G0 I A G) (hI : Inv t I A) (x y : Int32) : q_C T mX9_set 3 65 0 0 [.ref m, .int x, .int y] G sz (fun v G' sz' => sz = sz' ∧ G = G' ∧ ∃ z, v = some (.int z) ∧ D_set I A x y z) := by
  refine q_C.of (by decide) rfl (by simp [Value.category]) (Nat.le_of_ble_eq_true rfl) ?_
  refine q_aload_n dX9_set_0 rfl rfl ?_
  refine q_iload_n dX9_set_1 rfl ?_
  refine q_iload_n dX9_set_2 rfl ?_
  refine q_iv (As := [_, _]) dX9_set_3 ml_X9_131 mt_X9_isCell mi_X9_isCell se_X9_isCell hM.1 rfl rfl (Nat.le_of_ble_eq_true rfl) (Nat.le_of_ble_eq_true rfl) (Nat.zero_le _) (Nat.zero_le _) (Nat.le_of_ble_eq_true rfl) (q_C.mono (c_X9_isCell hM hI.1 hI.puz _ _) (fun v G1 sz1 hq => ?_))
  obtain ⟨⟨⟨p, k, hp, rfl, hk, rfl⟩, rfl⟩ | ⟨hV3, rfl⟩, rfl, rfl⟩ := hq
  · have hz := (hI.2.1 p hp).1
    have hp30 := hI.1
    have hsz := pz_size hz
    refine q_if_eq (tgt := 23) dX9_set_6 (by decide) (fun h => absurd h (by decide)) (fun _ => ?_)
    refine q_aload_n dX9_set_9 rfl rfl ?_
    refine q_mga 8 8 dX9_set_10 hM fl_X9_32 rfl ?_
    refine q_bipush (v := nI 100) dX9_set_13 (by decide) ?_
    refine q_iload_n dX9_set_15 rfl ?_
    refine q_imul dX9_set_16 (pk_mul _ _) ?_
    refine q_iload_n dX9_set_17 rfl ?_
    refine q_iadd dX9_set_18 (nI_add _ _) ?_
    refine q_mld (k := 8) (v := nI _) dX9_set_19 hM (by decide) rfl (show _ < (3000 : Nat) by omega) rfl (fun b19 => ?_)
    refine q_goto (tgt := 24) dX9_set_20 (by decide) ?_
    exact q_ireturn dX9_set_24 rfl rfl ⟨rfl, rfl, _, rfl, Or.inl ⟨p, k, ⟨hp, rfl, hk, rfl⟩, rfl⟩⟩
  · refine q_if_eq (tgt := 23) dX9_set_6 (by decide) (fun _ => ?_) (fun h => absurd h (by decide))
    refine q_iconst (v := nI 0) dX9_set_23 (by decide) ?_
    exact q_ireturn dX9_set_24 rfl rfl ⟨rfl, rfl, _, rfl, Or.inr ⟨fun ⟨p, c, h⟩ => hV3 ⟨p, c, h⟩, rfl⟩⟩

set_option maxHeartbeats 4000000 in
set_option maxRecDepth 100000 in
theorem c_X9_found {T : q_T} {m : Nat} {G0 G : q_G} {I : md_I} {A : md_A} {sz : Nat} (hM : Mod T m G0 I A G) (x : Int32) : q_C T mX9_found 0 0 0 0 [.ref m, .int x] G sz (fun v G' sz' => sz = sz' ∧ G = G' ∧ ∃ z, v = some (.int z) ∧ D_found I x z) := by
  refine q_C.of (by decide) rfl (by simp [Value.category]) (Nat.le_of_ble_eq_true rfl) ?_
  refine q_iload_n dX9_found_0 rfl ?_
  refine q_iconst (v := -1) dX9_found_1 (by decide) ?_
  refine q_icmp_ne (tgt := 12) dX9_found_2 (by decide) (fun c2 => ?_) (fun c2 => ?_)
  · refine q_iload_n dX9_found_12 rfl ?_
    refine q_bipush (v := -2) dX9_found_13 (by decide) ?_
    refine q_icmp_ne (tgt := 25) dX9_found_15 (by decide) (fun c15 => ?_) (fun c15 => ?_)
    · refine q_iconst (v := -1) dX9_found_25 (by decide) ?_
      exact q_ireturn dX9_found_26 rfl rfl ⟨rfl, rfl, _, rfl, by unfold D_found; rw [if_neg c2, if_neg c15]⟩
    · refine q_aload_n dX9_found_18 rfl rfl ?_
      refine q_mgi 3 dX9_found_19 hM fl_X9_175 (by decide) (fun b19 => ?_)
      refine q_goto (tgt := 26) dX9_found_22 (by decide) ?_
      exact q_ireturn dX9_found_26 rfl rfl ⟨rfl, rfl, _, rfl, by unfold D_found; rw [if_neg c2, if_pos c15]⟩
  · refine q_aload_n dX9_found_5 rfl rfl ?_
    refine q_mgi 2 dX9_found_6 hM fl_X9_172 (by decide) (fun b6 => ?_)
    refine q_goto (tgt := 26) dX9_found_9 (by decide) ?_
    exact q_ireturn dX9_found_26 rfl rfl ⟨rfl, rfl, _, rfl, by unfold D_found; rw [if_pos c2]⟩

set_option maxHeartbeats 4000000 in
set_option maxRecDepth 100000 in
theorem c_X9_count {T : q_T} {m : Nat} {G0 G : q_G} {I : md_I} {A : md_A} {sz : Nat} (hM : Mod T m G0 I A G) (x : Int32) : q_C T mX9_count 0 0 0 0 [.ref m, .int x] G sz (fun v G' sz' => sz = sz' ∧ G = G' ∧ ∃ z, v = some (.int z) ∧ D_count I x z) := by
  refine q_C.of (by decide) rfl (by simp [Value.category]) (Nat.le_of_ble_eq_true rfl) ?_
  refine q_iload_n dX9_count_0 rfl ?_
  refine q_if_ne (tgt := 11) dX9_count_1 (by decide) (fun c1 => ?_) (fun c1 => ?_)
  · refine q_iload_n dX9_count_11 rfl ?_
    refine q_iconst (v := nI 1) dX9_count_12 (by decide) ?_
    refine q_icmp_ne (tgt := 23) dX9_count_13 (by decide) (fun c13 => ?_) (fun c13 => ?_)
    · refine q_iconst (v := -1) dX9_count_23 (by decide) ?_
      exact q_ireturn dX9_count_24 rfl rfl ⟨rfl, rfl, _, rfl, by unfold D_count; rw [if_neg c1, if_neg c13]⟩
    · refine q_aload_n dX9_count_16 rfl rfl ?_
      refine q_mgi 7 dX9_count_17 hM fl_X9_213 (by decide) (fun b17 => ?_)
      refine q_goto (tgt := 24) dX9_count_20 (by decide) ?_
      exact q_ireturn dX9_count_24 rfl rfl ⟨rfl, rfl, _, rfl, by unfold D_count; rw [if_neg c1, if_pos c13]⟩
  · refine q_aload_n dX9_count_4 rfl rfl ?_
    refine q_mgi 0 dX9_count_5 hM fl_X9_92 (by decide) (fun b5 => ?_)
    refine q_goto (tgt := 24) dX9_count_8 (by decide) ?_
    exact q_ireturn dX9_count_24 rfl rfl ⟨rfl, rfl, _, rfl, by unfold D_count; rw [if_pos c1]⟩

set_option maxHeartbeats 4000000 in
set_option maxRecDepth 100000 in
theorem c_X9_probes {T : q_T} {m : Nat} {G0 G : q_G} {I : md_I} {A : md_A} {sz : Nat} (hM : Mod T m G0 I A G) : q_C T mX9_probes 0 0 0 0 [.ref m] G sz (fun v G' sz' => sz = sz' ∧ G = G' ∧ ∃ z, v = some (.int z) ∧ z = nI (I 5)) := by
  refine q_C.of (by decide) rfl (by simp [Value.category]) (Nat.le_of_ble_eq_true rfl) ?_
  refine q_aload_n dX9_probes_0 rfl rfl ?_
  refine q_mgi 5 dX9_probes_1 hM fl_X9_188 (by decide) (fun b1 => ?_)
  exact q_ireturn dX9_probes_4 rfl rfl ⟨rfl, rfl, _, rfl, rfl⟩

set_option maxHeartbeats 4000000 in
set_option maxRecDepth 100000 in
theorem c_X9_picture {T : q_T} {m : Nat} {G0 G : q_G} {I : md_I} {A : md_A} {sz t : Nat} (hM : Mod T m G0 I A G) (hI : Inv t I A) (x y : Int32) : q_C T mX9_picture 1 22 0 0 [.ref m, .int x, .int y] G sz (fun v G' sz' => sz = sz' ∧ G = G' ∧ ∃ z, v = some (.int z) ∧ D_picture I A x y z) := by
  refine q_C.of (by decide) rfl (by simp [Value.category]) (Nat.le_of_ble_eq_true rfl) ?_
  refine q_iload_n dX9_picture_0 rfl ?_
  refine q_iconst (v := nI 0) dX9_picture_1 (by decide) ?_
  refine q_aload_n dX9_picture_2 rfl rfl ?_
  refine q_mgi 2 dX9_picture_3 hM fl_X9_172 (by decide) (fun b3 => ?_)
  refine q_iconst (v := nI 1) dX9_picture_6 (by decide) ?_
  refine q_isub dX9_picture_7 rfl ?_
  refine q_is (As := [_, _, _]) dX9_picture_8 ml_X9_96 mt_X9_in ms_X9_in rfl (Nat.le_of_ble_eq_true rfl) (Nat.le_of_ble_eq_true rfl) (Nat.zero_le _) (Nat.zero_le _) (Nat.le_of_ble_eq_true rfl) (q_C.mono (c_X9_in _ _ _) (fun v G1 sz1 hq => ?_))
  rw [q_ixm (by omega)] at hq
  obtain ⟨⟨⟨i, hi, rfl⟩, rfl⟩ | ⟨hV8, rfl⟩, rfl, rfl⟩ := hq
  · refine q_if_eq (tgt := 42) dX9_picture_11 (by decide) (fun h => absurd h (by decide)) (fun _ => ?_)
    refine q_iload_n dX9_picture_14 rfl ?_
    refine q_iconst (v := nI 0) dX9_picture_15 (by decide) ?_
    refine q_aload_n dX9_picture_16 rfl rfl ?_
    refine q_mgi 4 dX9_picture_17 hM fl_X9_178 (by decide) (fun b17 => ?_)
    refine q_iconst (v := nI 1) dX9_picture_20 (by decide) ?_
    refine q_isub dX9_picture_21 rfl ?_
    refine q_is (As := [_, _, _]) dX9_picture_22 ml_X9_96 mt_X9_in ms_X9_in rfl (Nat.le_of_ble_eq_true rfl) (Nat.le_of_ble_eq_true rfl) (Nat.zero_le _) (Nat.zero_le _) (Nat.le_of_ble_eq_true rfl) (q_C.mono (c_X9_in _ _ _) (fun v G1 sz1 hq => ?_))
    rw [q_ixm (by omega)] at hq
    obtain ⟨⟨⟨k, hk, rfl⟩, rfl⟩ | ⟨hV22, rfl⟩, rfl, rfl⟩ := hq
    · refine q_if_eq (tgt := 42) dX9_picture_25 (by decide) (fun h => absurd h (by decide)) (fun _ => ?_)
      have h25 := hI.2.2.2.2.2.2.2.1
      have h4s := hI.2.2.2.2.2.2.2.2.2.1
      refine q_aload_n dX9_picture_28 rfl rfl ?_
      refine q_mga 20 16 dX9_picture_29 hM fl_X9_56 rfl ?_
      refine q_bipush (v := nI 100) dX9_picture_32 (by decide) ?_
      refine q_iload_n dX9_picture_34 rfl ?_
      refine q_imul dX9_picture_35 (pk_mul _ _) ?_
      refine q_iload_n dX9_picture_36 rfl ?_
      refine q_iadd dX9_picture_37 (nI_add _ _) ?_
      refine q_mld (k := 16) (v := nI _) dX9_picture_38 hM (by decide) rfl (show _ < (500 : Nat) by omega) rfl (fun b38 => ?_)
      refine q_goto (tgt := 43) dX9_picture_39 (by decide) ?_
      exact q_ireturn dX9_picture_43 rfl rfl ⟨rfl, rfl, _, rfl, Or.inl ⟨i, k, hi, rfl, hk, rfl, rfl⟩⟩
    · refine q_if_eq (tgt := 42) dX9_picture_25 (by decide) (fun _ => ?_) (fun h => absurd h (by decide))
      refine q_iconst (v := -1) dX9_picture_42 (by decide) ?_
      exact q_ireturn dX9_picture_43 rfl rfl ⟨rfl, rfl, _, rfl, Or.inr ⟨fun ⟨i, c, h1, h2, h3, h4⟩ => hV22 ⟨c, h3, h4⟩, rfl⟩⟩
  · refine q_if_eq (tgt := 42) dX9_picture_11 (by decide) (fun _ => ?_) (fun h => absurd h (by decide))
    refine q_iconst (v := -1) dX9_picture_42 (by decide) ?_
    exact q_ireturn dX9_picture_43 rfl rfl ⟨rfl, rfl, _, rfl, Or.inr ⟨fun ⟨i, c, h1, h2, h3, h4⟩ => hV8 ⟨i, h1, h2⟩, rfl⟩⟩

set_option maxHeartbeats 4000000 in
set_option maxRecDepth 100000 in
theorem c_X9_out {T : q_T} {m : Nat} {G0 G : q_G} {I : md_I} {A : md_A} {sz t : Nat} (hM : Mod T m G0 I A G) (hI : Inv t I A) (x : Int32) : q_C T mX9_out 1 22 0 0 [.ref m, .int x] G sz (fun v G' sz' => sz = sz' ∧ G = G' ∧ ∃ z, v = some (.int z) ∧ D_out I A x z) := by
  refine q_C.of (by decide) rfl (by simp [Value.category]) (Nat.le_of_ble_eq_true rfl) ?_
  refine q_iload_n dX9_out_0 rfl ?_
  refine q_iconst (v := nI 0) dX9_out_1 (by decide) ?_
  refine q_aload_n dX9_out_2 rfl rfl ?_
  refine q_mgi 8 dX9_out_3 hM fl_X9_223 (by decide) (fun b3 => ?_)
  refine q_iconst (v := nI 1) dX9_out_6 (by decide) ?_
  refine q_isub dX9_out_7 rfl ?_
  refine q_is (As := [_, _, _]) dX9_out_8 ml_X9_96 mt_X9_in ms_X9_in rfl (Nat.le_of_ble_eq_true rfl) (Nat.le_of_ble_eq_true rfl) (Nat.zero_le _) (Nat.zero_le _) (Nat.le_of_ble_eq_true rfl) (q_C.mono (c_X9_in _ _ _) (fun v G1 sz1 hq => ?_))
  rw [q_ixm (by omega)] at hq
  obtain ⟨⟨⟨i, hi, rfl⟩, rfl⟩ | ⟨hV8, rfl⟩, rfl, rfl⟩ := hq
  · refine q_if_eq (tgt := 23) dX9_out_11 (by decide) (fun h => absurd h (by decide)) (fun _ => ?_)
    have h8s := hI.2.2.2.2.2.2.2.2.2.2.2.1
    refine q_aload_n dX9_out_14 rfl rfl ?_
    refine q_mga 34 27 dX9_out_15 hM fl_X9_89 rfl ?_
    refine q_iload_n dX9_out_18 rfl ?_
    refine q_mld (k := 27) (v := nI _) dX9_out_19 hM (by decide) rfl (show _ < (64 : Nat) by omega) rfl (fun b19 => ?_)
    refine q_goto (tgt := 24) dX9_out_20 (by decide) ?_
    exact q_ireturn dX9_out_24 rfl rfl ⟨rfl, rfl, _, rfl, Or.inl ⟨i, hi, rfl, rfl⟩⟩
  · refine q_if_eq (tgt := 23) dX9_out_11 (by decide) (fun _ => ?_) (fun h => absurd h (by decide))
    refine q_iconst (v := -1) dX9_out_23 (by decide) ?_
    exact q_ireturn dX9_out_24 rfl rfl ⟨rfl, rfl, _, rfl, Or.inr ⟨fun ⟨i, h1, h2⟩ => hV8 ⟨i, h1, h2⟩, rfl⟩⟩

set_option maxHeartbeats 4000000 in
set_option maxRecDepth 100000 in
theorem c_X9_paint {T : q_T} {m : Nat} {G0 G : q_G} {I : md_I} {A : md_A} {sz : Nat} (hM : Mod T m G0 I A G) (x y w : Int32) : q_C T mX9_paint 1 22 0 0 [.ref m, .int x, .int y, .int w] G sz (fun v G' sz' => sz = sz' ∧ ∃ (I' : md_I) (A' : md_A), Mod T m G0 I' A' G' ∧ ∃ (z : Int32) (I2 : md_I) (A2 : md_A), v = some (.int z) ∧ D_paint I A x y w z I2 A2 ∧ Per I2 I' A2 A') := by
  refine q_C.of (by decide) rfl (by simp [Value.category]) (Nat.le_of_ble_eq_true rfl) ?_
  refine q_iload_n dX9_paint_0 rfl ?_
  refine q_iconst (v := nI 0) dX9_paint_1 (by decide) ?_
  refine q_bipush (v := nI 9) dX9_paint_2 (by decide) ?_
  refine q_is (As := [_, _, _]) dX9_paint_4 ml_X9_96 mt_X9_in ms_X9_in rfl (Nat.le_of_ble_eq_true rfl) (Nat.le_of_ble_eq_true rfl) (Nat.zero_le _) (Nat.zero_le _) (Nat.le_of_ble_eq_true rfl) (q_C.mono (c_X9_in _ _ _) (fun v G1 sz1 hq => ?_))
  rw [q_ixn (by omega)] at hq
  obtain ⟨⟨⟨i, hi, rfl⟩, rfl⟩ | ⟨hV4, rfl⟩, rfl, rfl⟩ := hq
  · refine q_if_eq (tgt := 29) dX9_paint_7 (by decide) (fun h => absurd h (by decide)) (fun _ => ?_)
    refine q_iload_n dX9_paint_10 rfl ?_
    refine q_iconst (v := nI 0) dX9_paint_11 (by decide) ?_
    refine q_bipush (v := nI 9) dX9_paint_12 (by decide) ?_
    refine q_is (As := [_, _, _]) dX9_paint_14 ml_X9_96 mt_X9_in ms_X9_in rfl (Nat.le_of_ble_eq_true rfl) (Nat.le_of_ble_eq_true rfl) (Nat.zero_le _) (Nat.zero_le _) (Nat.le_of_ble_eq_true rfl) (q_C.mono (c_X9_in _ _ _) (fun v G1 sz1 hq => ?_))
    rw [q_ixn (by omega)] at hq
    obtain ⟨⟨⟨j, hj, rfl⟩, rfl⟩ | ⟨hV14, rfl⟩, rfl, rfl⟩ := hq
    · refine q_if_eq (tgt := 29) dX9_paint_17 (by decide) (fun h => absurd h (by decide)) (fun _ => ?_)
      refine q_iload_n dX9_paint_20 rfl ?_
      refine q_iconst (v := nI 0) dX9_paint_21 (by decide) ?_
      refine q_iconst (v := nI 3) dX9_paint_22 (by decide) ?_
      refine q_is (As := [_, _, _]) dX9_paint_23 ml_X9_96 mt_X9_in ms_X9_in rfl (Nat.le_of_ble_eq_true rfl) (Nat.le_of_ble_eq_true rfl) (Nat.zero_le _) (Nat.zero_le _) (Nat.le_of_ble_eq_true rfl) (q_C.mono (c_X9_in _ _ _) (fun v G1 sz1 hq => ?_))
      rw [q_ixn (by omega)] at hq
      obtain ⟨⟨⟨k, hk, rfl⟩, rfl⟩ | ⟨hV23, rfl⟩, rfl, rfl⟩ := hq
      · refine q_if_ne (tgt := 31) dX9_paint_26 (by decide) (fun _ => ?_) (fun h => absurd h (by decide))
        refine q_aload_n dX9_paint_31 rfl rfl ?_
        refine q_mga 9 9 dX9_paint_32 hM fl_X9_35 rfl ?_
        refine q_bipush (v := nI 10) dX9_paint_35 (by decide) ?_
        refine q_iload_n dX9_paint_37 rfl ?_
        refine q_imul dX9_paint_38 (pk_mul _ _) ?_
        refine q_iload_n dX9_paint_39 rfl ?_
        refine q_iadd dX9_paint_40 (nI_add _ _) ?_
        refine q_iload_n dX9_paint_41 rfl ?_
        refine q_mst (k := 9) dX9_paint_42 hM (by decide) rfl (show _ < (100 : Nat) by omega) rfl (by omega) (fun G hM => ?_)
        refine q_iconst (v := nI 1) dX9_paint_43 (by decide) ?_
        exact q_ireturn dX9_paint_44 rfl (by decide +kernel) ⟨rfl, I, _, hM, _, I, _, rfl, ⟨rfl, Or.inl ⟨i, j, k, hi, rfl, hj, rfl, hk, rfl, rfl, rfl⟩⟩, Per.rfl'⟩
      · refine q_if_ne (tgt := 31) dX9_paint_26 (by decide) (fun h => absurd h (by decide)) (fun _ => ?_)
        refine q_iconst (v := nI 0) dX9_paint_29 (by decide) ?_
        exact q_ireturn dX9_paint_30 rfl (by decide +kernel) ⟨rfl, I, A, hM, _, I, A, rfl, ⟨rfl, Or.inr ⟨fun ⟨i, j, k, h1, h2, h3, h4, h5, h6⟩ => hV23 ⟨k, h5, h6⟩, rfl, rfl⟩⟩, Per.rfl'⟩
    · refine q_if_eq (tgt := 29) dX9_paint_17 (by decide) (fun _ => ?_) (fun h => absurd h (by decide))
      refine q_iconst (v := nI 0) dX9_paint_29 (by decide) ?_
      exact q_ireturn dX9_paint_30 rfl (by decide +kernel) ⟨rfl, I, A, hM, _, I, A, rfl, ⟨rfl, Or.inr ⟨fun ⟨i, j, k, h1, h2, h3, h4, h5, h6⟩ => hV14 ⟨j, h3, h4⟩, rfl, rfl⟩⟩, Per.rfl'⟩
  · refine q_if_eq (tgt := 29) dX9_paint_7 (by decide) (fun _ => ?_) (fun h => absurd h (by decide))
    refine q_iconst (v := nI 0) dX9_paint_29 (by decide) ?_
    exact q_ireturn dX9_paint_30 rfl (by decide +kernel) ⟨rfl, I, A, hM, _, I, A, rfl, ⟨rfl, Or.inr ⟨fun ⟨i, j, k, h1, h2, h3, h4, h5, h6⟩ => hV4 ⟨i, h1, h2⟩, rfl, rfl⟩⟩, Per.rfl'⟩

set_option maxHeartbeats 4000000 in
set_option maxRecDepth 100000 in
theorem c_X9_choose {T : q_T} {m : Nat} {G0 G : q_G} {I : md_I} {A : md_A} {sz t : Nat} (hM : Mod T m G0 I A G) (hI : Inv t I A) (x y w : Int32) : q_C T mX9_choose 3 65 0 0 [.ref m, .int x, .int y, .int w] G sz (fun v G' sz' => sz = sz' ∧ ∃ (I' : md_I) (A' : md_A), Mod T m G0 I' A' G' ∧ ∃ (z : Int32) (I2 : md_I) (A2 : md_A), v = some (.int z) ∧ D_choose I A x y w z I2 A2 ∧ Per I2 I' A2 A') := by
  refine q_C.of (by decide) rfl (by simp [Value.category]) (Nat.le_of_ble_eq_true rfl) ?_
  refine q_aload_n dX9_choose_0 rfl rfl ?_
  refine q_iload_n dX9_choose_1 rfl ?_
  refine q_iload_n dX9_choose_2 rfl ?_
  refine q_iv (As := [_, _]) dX9_choose_3 ml_X9_131 mt_X9_isCell mi_X9_isCell se_X9_isCell hM.1 rfl rfl (Nat.le_of_ble_eq_true rfl) (Nat.le_of_ble_eq_true rfl) (Nat.zero_le _) (Nat.zero_le _) (Nat.le_of_ble_eq_true rfl) (q_C.mono (c_X9_isCell hM hI.1 hI.puz _ _) (fun v G1 sz1 hq => ?_))
  obtain ⟨⟨⟨p, k, hp, rfl, hk, rfl⟩, rfl⟩ | ⟨hV3, rfl⟩, rfl, rfl⟩ := hq
  · have hz := (hI.2.1 p hp).1
    have hp30 := hI.1
    have hsz := pz_size hz
    refine q_if_eq (tgt := 36) dX9_choose_6 (by decide) (fun h => absurd h (by decide)) (fun _ => ?_)
    refine q_iload_n dX9_choose_9 rfl ?_
    refine q_iconst (v := nI 0) dX9_choose_10 (by decide) ?_
    refine q_iconst (v := nI 3) dX9_choose_11 (by decide) ?_
    refine q_is (As := [_, _, _]) dX9_choose_12 ml_X9_96 mt_X9_in ms_X9_in rfl (Nat.le_of_ble_eq_true rfl) (Nat.le_of_ble_eq_true rfl) (Nat.zero_le _) (Nat.zero_le _) (Nat.le_of_ble_eq_true rfl) (q_C.mono (c_X9_in _ _ _) (fun v G1 sz1 hq => ?_))
    rw [q_ixn (by omega)] at hq
    obtain ⟨⟨⟨j, hj, rfl⟩, rfl⟩ | ⟨hV12, rfl⟩, rfl, rfl⟩ := hq
    · refine q_if_eq (tgt := 36) dX9_choose_15 (by decide) (fun h => absurd h (by decide)) (fun _ => ?_)
      refine q_aload_n dX9_choose_18 rfl rfl ?_
      refine q_mga 8 8 dX9_choose_19 hM fl_X9_32 rfl ?_
      refine q_bipush (v := nI 100) dX9_choose_22 (by decide) ?_
      refine q_iload_n dX9_choose_24 rfl ?_
      refine q_imul dX9_choose_25 (pk_mul _ _) ?_
      refine q_iload_n dX9_choose_26 rfl ?_
      refine q_iadd dX9_choose_27 (nI_add _ _) ?_
      refine q_mld (k := 8) (v := nI _) dX9_choose_28 hM (by decide) rfl (show _ < (3000 : Nat) by omega) rfl (fun b28 => ?_)
      refine q_iload_n dX9_choose_29 rfl ?_
      refine q_ishr dX9_choose_30 (n_shr (by omega) (by omega)) ?_
      refine q_iconst (v := nI 1) dX9_choose_31 (by decide) ?_
      refine q_iand dX9_choose_32 (n_and _ _) ?_
      refine n_if_ne (tgt := 38) dX9_choose_33 (by decide) (Nat.lt_of_le_of_lt Nat.and_le_right (by decide)) (fun c33 => ?_) (fun c33 => ?_)
      · refine q_aload_n dX9_choose_38 rfl rfl ?_
        refine q_mga 8 8 dX9_choose_39 hM fl_X9_32 rfl ?_
        refine q_bipush (v := nI 100) dX9_choose_42 (by decide) ?_
        refine q_iload_n dX9_choose_44 rfl ?_
        refine q_imul dX9_choose_45 (pk_mul _ _) ?_
        refine q_iload_n dX9_choose_46 rfl ?_
        refine q_iadd dX9_choose_47 (nI_add _ _) ?_
        refine q_iconst (v := nI 1) dX9_choose_48 (by decide) ?_
        refine q_iload_n dX9_choose_49 rfl ?_
        refine q_ishl dX9_choose_50 (n_shl (by omega) rfl) ?_
        refine q_mst (k := 8) dX9_choose_51 hM (by decide) rfl (show _ < (3000 : Nat) by omega) rfl (by have := ln_bit16 (a := 0) (by decide) hj; rw [Nat.zero_or] at this; omega) (fun G hM => ?_)
        refine q_iconst (v := nI 1) dX9_choose_52 (by decide) ?_
        exact q_ireturn dX9_choose_53 rfl (by decide +kernel) ⟨rfl, I, _, hM, _, I, _, rfl, ⟨rfl, Or.inl ⟨p, k, j, ⟨hp, rfl, hk, rfl⟩, hj, rfl, (by rw [ln_tb] at c33; cases h9 : (A 8 (100 * p + k)).testBit j <;> simp_all), rfl, rfl⟩⟩, Per.rfl'⟩
      · refine q_iconst (v := nI 0) dX9_choose_36 (by decide) ?_
        exact q_ireturn dX9_choose_37 rfl (by decide +kernel) ⟨rfl, I, A, hM, _, I, A, rfl, ⟨rfl, Or.inr ⟨fun ⟨p', c', k', ⟨g1, g2, g3, g4⟩, h2, h3, h4⟩ => (by rw [(nI_eq (by omega) (by have := hI.1; omega)).mp g2, (nI_eq (by omega) (by have := pz_size (hI.2.1 p' g1).1; omega)).mp g4, (nI_eq (by omega) (by omega)).mp h3, ln_tb, h4] at c33; cases c33), rfl, rfl⟩⟩, Per.rfl'⟩
    · refine q_if_eq (tgt := 36) dX9_choose_15 (by decide) (fun _ => ?_) (fun h => absurd h (by decide))
      refine q_iconst (v := nI 0) dX9_choose_36 (by decide) ?_
      exact q_ireturn dX9_choose_37 rfl (by decide +kernel) ⟨rfl, I, A, hM, _, I, A, rfl, ⟨rfl, Or.inr ⟨fun ⟨p, c, k, h1, h2, h3, h4⟩ => hV12 ⟨k, h2, h3⟩, rfl, rfl⟩⟩, Per.rfl'⟩
  · refine q_if_eq (tgt := 36) dX9_choose_6 (by decide) (fun _ => ?_) (fun h => absurd h (by decide))
    refine q_iconst (v := nI 0) dX9_choose_36 (by decide) ?_
    exact q_ireturn dX9_choose_37 rfl (by decide +kernel) ⟨rfl, I, A, hM, _, I, A, rfl, ⟨rfl, Or.inr ⟨fun ⟨p, c, k, h1, h2, h3, h4⟩ => hV3 ⟨p, c, h1⟩, rfl, rfl⟩⟩, Per.rfl'⟩

theorem ln_and_le {a b : Nat} : a &&& b ≤ a := Nat.and_le_left

set_option maxHeartbeats 4000000 in
set_option maxRecDepth 100000 in
theorem c_X9_bar {T : q_T} {m : Nat} {G0 G : q_G} {I : md_I} {A : md_A} {sz t : Nat} (hM : Mod T m G0 I A G) (hI : Inv t I A) (x y w : Int32) : q_C T mX9_bar 3 65 0 0 [.ref m, .int x, .int y, .int w] G sz (fun v G' sz' => sz = sz' ∧ ∃ (I' : md_I) (A' : md_A), Mod T m G0 I' A' G' ∧ ∃ (z : Int32) (I2 : md_I) (A2 : md_A), v = some (.int z) ∧ D_bar I A x y w z I2 A2 ∧ Per I2 I' A2 A') := by
  refine q_C.of (by decide) rfl (by simp [Value.category]) (Nat.le_of_ble_eq_true rfl) ?_
  refine q_aload_n dX9_bar_0 rfl rfl ?_
  refine q_iload_n dX9_bar_1 rfl ?_
  refine q_iload_n dX9_bar_2 rfl ?_
  refine q_iv (As := [_, _]) dX9_bar_3 ml_X9_131 mt_X9_isCell mi_X9_isCell se_X9_isCell hM.1 rfl rfl (Nat.le_of_ble_eq_true rfl) (Nat.le_of_ble_eq_true rfl) (Nat.zero_le _) (Nat.zero_le _) (Nat.le_of_ble_eq_true rfl) (q_C.mono (c_X9_isCell hM hI.1 hI.puz _ _) (fun v G1 sz1 hq => ?_))
  obtain ⟨⟨⟨p, k, hp, rfl, hk, rfl⟩, rfl⟩ | ⟨hV3, rfl⟩, rfl, rfl⟩ := hq
  · have hz := (hI.2.1 p hp).1
    have hp30 := hI.1
    have hsz := pz_size hz
    refine q_if_eq (tgt := 18) dX9_bar_6 (by decide) (fun h => absurd h (by decide)) (fun _ => ?_)
    refine q_iload_n dX9_bar_9 rfl ?_
    refine q_iconst (v := nI 0) dX9_bar_10 (by decide) ?_
    refine q_iconst (v := nI 3) dX9_bar_11 (by decide) ?_
    refine q_is (As := [_, _, _]) dX9_bar_12 ml_X9_96 mt_X9_in ms_X9_in rfl (Nat.le_of_ble_eq_true rfl) (Nat.le_of_ble_eq_true rfl) (Nat.zero_le _) (Nat.zero_le _) (Nat.le_of_ble_eq_true rfl) (q_C.mono (c_X9_in _ _ _) (fun v G1 sz1 hq => ?_))
    rw [q_ixn (by omega)] at hq
    obtain ⟨⟨⟨j, hj, rfl⟩, rfl⟩ | ⟨hV12, rfl⟩, rfl, rfl⟩ := hq
    · refine q_if_ne (tgt := 20) dX9_bar_15 (by decide) (fun _ => ?_) (fun h => absurd h (by decide))
      have hs1 := (hI.2.1 p hp).2.2 k hk
      have hs16 : A 8 (100 * p + k) < 16 := hI.ps hp k hk
      refine q_aload_n dX9_bar_20 rfl rfl ?_
      refine q_mga 8 8 dX9_bar_21 hM fl_X9_32 rfl ?_
      refine q_bipush (v := nI 100) dX9_bar_24 (by decide) ?_
      refine q_iload_n dX9_bar_26 rfl ?_
      refine q_imul dX9_bar_27 (pk_mul _ _) ?_
      refine q_iload_n dX9_bar_28 rfl ?_
      refine q_iadd dX9_bar_29 (nI_add _ _) ?_
      refine q_mld (k := 8) (v := nI _) dX9_bar_30 hM (by decide) rfl (show _ < (3000 : Nat) by omega) rfl (fun b30 => ?_)
      refine s_istore dX9_bar_31 (by decide) rfl ?_
      refine q_iload dX9_bar_33 rfl ?_
      refine q_iload_n dX9_bar_35 rfl ?_
      refine q_ishr dX9_bar_36 (n_shr (by omega) (by omega)) ?_
      refine q_iconst (v := nI 1) dX9_bar_37 (by decide) ?_
      refine q_iand dX9_bar_38 (n_and _ _) ?_
      refine n_if_eq (tgt := 50) dX9_bar_39 (by decide) (Nat.lt_of_le_of_lt Nat.and_le_right (by decide)) (fun c39 => ?_) (fun c39 => ?_)
      · refine q_iconst (v := nI 0) dX9_bar_50 (by decide) ?_
        exact q_ireturn dX9_bar_51 rfl (by decide +kernel) ⟨rfl, I, A, hM, _, I, A, rfl, ⟨rfl, Or.inr ⟨fun ⟨p', c', k', ⟨g1, g2, g3, g4⟩, h2, h3, h4, h5⟩ => (by rw [(nI_eq (by omega) (by have := hI.1; omega)).mp g2, (nI_eq (by omega) (by have := pz_size (hI.2.1 p' g1).1; omega)).mp g4, (nI_eq (by omega) (by omega)).mp h3, ln_tb, h4] at c39; cases c39), rfl, rfl⟩⟩, Per.rfl'⟩
      · refine q_iload dX9_bar_42 rfl ?_
        refine q_is (As := [_]) dX9_bar_44 ml_X9_128 mt_X9_isOne ms_X9_isOne rfl (Nat.le_of_ble_eq_true rfl) (Nat.le_of_ble_eq_true rfl) (Nat.zero_le _) (Nat.zero_le _) (Nat.le_of_ble_eq_true rfl) (q_C.mono (c_X9_isOne hs1.1 (by omega)) (fun v G1 sz1 hq => ?_))
        obtain ⟨rfl, rfl, rfl⟩ := hq
        refine n_if_eq (tgt := 52) dX9_bar_47 (by decide) (by split <;> decide) (fun c47 => ?_) (fun c47 => ?_)
        · refine q_aload_n dX9_bar_52 rfl rfl ?_
          refine q_mga 8 8 dX9_bar_53 hM fl_X9_32 rfl ?_
          refine q_bipush (v := nI 100) dX9_bar_56 (by decide) ?_
          refine q_iload_n dX9_bar_58 rfl ?_
          refine q_imul dX9_bar_59 (pk_mul _ _) ?_
          refine q_iload_n dX9_bar_60 rfl ?_
          refine q_iadd dX9_bar_61 (nI_add _ _) ?_
          refine q_iload dX9_bar_62 rfl ?_
          refine q_iconst (v := nI 1) dX9_bar_64 (by decide) ?_
          refine q_iload_n dX9_bar_65 rfl ?_
          refine q_ishl dX9_bar_66 (n_shl (by omega) rfl) ?_
          refine q_iconst (v := -1) dX9_bar_67 (by decide) ?_
          refine q_ixor dX9_bar_68 rfl ?_
          refine q_iand dX9_bar_69 (ln_df_i hs16 (by have := ln_bit16 (a := 0) (by decide) hj; rw [Nat.zero_or] at this; exact this)) ?_
          refine q_mst (k := 8) dX9_bar_70 hM (by decide) rfl (show _ < (3000 : Nat) by omega) rfl (by have := ln_df_lt hs16 (ln_bit16 (a := 0) (by decide) hj); rw [Nat.zero_or] at this; omega) (fun G hM => ?_)
          refine q_iconst (v := nI 1) dX9_bar_71 (by decide) ?_
          exact q_ireturn dX9_bar_72 rfl (by decide +kernel) ⟨rfl, I, _, hM, _, I, _, rfl, ⟨rfl, Or.inl ⟨p, k, j, ⟨hp, rfl, hk, rfl⟩, hj, rfl, (by rw [ln_tb] at c39; cases h9 : (A 8 (100 * p + k)).testBit j <;> simp_all), (fun g => by rw [if_pos g] at c47; cases c47), rfl, rfl⟩⟩, Per.rfl'⟩
        · refine q_iconst (v := nI 0) dX9_bar_50 (by decide) ?_
          exact q_ireturn dX9_bar_51 rfl (by decide +kernel) ⟨rfl, I, A, hM, _, I, A, rfl, ⟨rfl, Or.inr ⟨fun ⟨p', c', k', ⟨g1, g2, g3, g4⟩, h2, h3, h4, h5⟩ => (by rw [(nI_eq (by omega) (by have := hI.1; omega)).mp g2, (nI_eq (by omega) (by have := pz_size (hI.2.1 p' g1).1; omega)).mp g4, if_neg h5] at c47; exact c47 rfl), rfl, rfl⟩⟩, Per.rfl'⟩
    · refine q_if_ne (tgt := 20) dX9_bar_15 (by decide) (fun h => absurd h (by decide)) (fun _ => ?_)
      refine q_iconst (v := nI 0) dX9_bar_18 (by decide) ?_
      exact q_ireturn dX9_bar_19 rfl (by decide +kernel) ⟨rfl, I, A, hM, _, I, A, rfl, ⟨rfl, Or.inr ⟨fun ⟨p, c, k, h1, h2, h3, h4⟩ => hV12 ⟨k, h2, h3⟩, rfl, rfl⟩⟩, Per.rfl'⟩
  · refine q_if_eq (tgt := 18) dX9_bar_6 (by decide) (fun _ => ?_) (fun h => absurd h (by decide))
    refine q_iconst (v := nI 0) dX9_bar_18 (by decide) ?_
    exact q_ireturn dX9_bar_19 rfl (by decide +kernel) ⟨rfl, I, A, hM, _, I, A, rfl, ⟨rfl, Or.inr ⟨fun ⟨p, c, k, h1, h2, h3, h4⟩ => hV3 ⟨p, c, h1⟩, rfl, rfl⟩⟩, Per.rfl'⟩
