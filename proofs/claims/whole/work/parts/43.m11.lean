def D_undo (I : md_I) (A : md_A) (x z : Int32) (I2 : md_I) (A2 : md_A) : Prop := I2 = I ∧ ((∃ g, g < I 7 ∧ x = nI g ∧ A 21 g ≠ 0 ∧ z = nI (A 24 (200 * g + (A 21 g - 1))) ∧ A2 = md_st (md_st A 21 g (A 21 g - 1)) 20 (100 * g + A 24 (200 * g + (A 21 g - 1))) (A 25 (200 * g + (A 21 g - 1)))) ∨ (¬ (∃ g, g < I 7 ∧ x = nI g ∧ A 21 g ≠ 0) ∧ z = -1 ∧ A2 = A))
def D_redo (I : md_I) (A : md_A) (x z : Int32) (I2 : md_I) (A2 : md_A) : Prop := I2 = I ∧ ((∃ g, g < I 7 ∧ x = nI g ∧ A 21 g ≠ A 22 g ∧ z = nI (A 24 (200 * g + A 21 g)) ∧ A2 = md_st (md_st A 21 g (A 21 g + 1)) 20 (100 * g + A 24 (200 * g + A 21 g)) (A 26 (200 * g + A 21 g))) ∨ (¬ (∃ g, g < I 7 ∧ x = nI g ∧ A 21 g ≠ A 22 g) ∧ z = -1 ∧ A2 = A))
def D_mk (I : md_I) (A : md_A) (x y w : Int32) (g c k : Nat) : Prop := g < I 7 ∧ x = nI g ∧ c < A 1 (A 19 g) * A 2 (A 19 g) ∧ y = nI c ∧ k ≤ A 3 (A 19 g) + 1 ∧ w = nI k - 1 ∧ A 20 (100 * g + c) ≠ k ∧ A 21 g ≠ 200
def D_mark (I : md_I) (A : md_A) (x y w z : Int32) (I2 : md_I) (A2 : md_A) : Prop := I2 = I ∧ ((∃ g c k, D_mk I A x y w g c k ∧ z = nI 1 ∧ A2 = md_st (md_st (md_st (md_st (md_st (md_st A 24 (200 * g + A 21 g) c) 25 (200 * g + A 21 g) (A 20 (100 * g + c))) 26 (200 * g + A 21 g) k) 21 g (A 21 g + 1)) 22 g (A 21 g + 1)) 20 (100 * g + c) k) ∨ (¬ (∃ g c k, D_mk I A x y w g c k) ∧ z = nI 0 ∧ A2 = A))
def D_game (I : md_I) (A : md_A) (x z : Int32) (I2 : md_I) (A2 : md_A) : Prop := (∃ p, p < I 0 ∧ x = nI p ∧ I 7 ≠ 20 ∧ z = nI (I 7) ∧ I2 = va_up I 7 (I 7 + 1) ∧ A2 = md_fill (md_st (md_st A 19 (I 7) p) 4 p 1) 20 (100 * I 7) 100 0) ∨ (¬ (∃ p, p < I 0 ∧ x = nI p ∧ I 7 ≠ 20) ∧ z = -1 ∧ I2 = I ∧ A2 = A)
theorem q_ixk {x : Int32} {n : Nat} (hn : n ≤ 100000) : (-1 ≤ x ∧ x ≤ nI n) ↔ ∃ k, k ≤ n + 1 ∧ x = nI k - 1 := by
  have h1 : ∀ k : Nat, k ≤ 100001 → (nI k - 1).toInt = (k : Int) - 1 := fun k hk => pk_sub_toInt (a := k) (b := 1) (by omega) (by omega)
  rw [Int32.le_iff_toInt_le, Int32.le_iff_toInt_le, nI_toInt (n := n) (by omega), show (-1 : Int32).toInt = -1 from rfl]
  constructor
  · intro h
    refine ⟨(x.toInt + 1).toNat, by omega, ?_⟩
    apply Int32.toInt_inj.mp
    rw [h1 _ (by omega)]
    omega
  · rintro ⟨k, hk, rfl⟩
    rw [h1 k (by omega)]
    omega
theorem nI_m1eq {a b : Nat} (ha : a ≤ 100001) (hb : b ≤ 100001) : (nI a - 1 = nI b - 1) ↔ a = b := by
  have h1 : ∀ k : Nat, k ≤ 100001 → (nI k - 1).toInt = (k : Int) - 1 := fun k hk => pk_sub_toInt (a := k) (b := 1) (by omega) (by omega)
  constructor
  · intro h
    have := congrArg Int32.toInt h
    rw [h1 a ha, h1 b hb] at this
    omega
  · intro h; rw [h]

set_option maxHeartbeats 4000000 in
set_option maxRecDepth 100000 in
theorem c_X9_clue {T : q_T} {m : Nat} {G0 G : q_G} {I : md_I} {A : md_A} {sz t : Nat} (hM : Mod T m G0 I A G) (hI : Inv t I A) (x y w u : Int32) : q_C T mX9_clue 3 65 0 0 [.ref m, .int x, .int y, .int w, .int u] G sz (fun v G' sz' => sz = sz' ∧ G = G' ∧ ∃ z, v = some (.int z) ∧ D_clue I A x y w u z) := by
  refine q_C.of (by decide) rfl (by simp [Value.category]) (Nat.le_of_ble_eq_true rfl) ?_
  refine q_aload_n dX9_clue_0 rfl rfl ?_
  refine q_iload_n dX9_clue_1 rfl ?_
  refine q_iload_n dX9_clue_2 rfl ?_
  refine q_iv (As := [_, _]) dX9_clue_3 ml_X9_117 mt_X9_isLine mi_X9_isLine se_X9_isLine hM.1 rfl rfl (Nat.le_of_ble_eq_true rfl) (Nat.le_of_ble_eq_true rfl) (Nat.zero_le _) (Nat.zero_le _) (Nat.le_of_ble_eq_true rfl) (q_C.mono (c_X9_isLine hM hI.1 hI.puz _ _) (fun v G1 sz1 hq => ?_))
  obtain ⟨⟨⟨p, ln, hp, rfl, hln, rfl⟩, rfl⟩ | ⟨hV3, rfl⟩, rfl, rfl⟩ := hq
  · have hz := (hI.2.1 p hp).1
    have hp30 := hI.1
    refine q_if_eq (tgt := 30) dX9_clue_6 (by decide) (fun h => absurd h (by decide)) (fun _ => ?_)
    have hww := hI.puz p hp
    refine q_iload_n dX9_clue_9 rfl ?_
    refine q_iconst (v := nI 0) dX9_clue_10 (by decide) ?_
    refine q_aload_n dX9_clue_11 rfl rfl ?_
    refine q_mga 5 5 dX9_clue_12 hM fl_X9_23 rfl ?_
    refine q_bipush (v := nI 20) dX9_clue_15 (by decide) ?_
    refine q_iload_n dX9_clue_17 rfl ?_
    refine q_imul dX9_clue_18 (pk_mul _ _) ?_
    refine q_iload_n dX9_clue_19 rfl ?_
    refine q_iadd dX9_clue_20 (nI_add _ _) ?_
    refine q_mld (k := 5) (v := nI (pz_n A p ln)) dX9_clue_21 hM (by decide) rfl (show _ < (600 : Nat) by omega) rfl (fun b21 => ?_)
    refine q_iconst (v := nI 1) dX9_clue_22 (by decide) ?_
    refine q_isub dX9_clue_23 rfl ?_
    refine q_is (As := [_, _, _]) dX9_clue_24 ml_X9_96 mt_X9_in ms_X9_in rfl (Nat.le_of_ble_eq_true rfl) (Nat.le_of_ble_eq_true rfl) (Nat.zero_le _) (Nat.zero_le _) (Nat.le_of_ble_eq_true rfl) (q_C.mono (c_X9_in _ _ _) (fun v G1 sz1 hq => ?_))
    rw [q_ixm (by have : pz_n A p ln ≤ 100000 := b21; omega)] at hq
    obtain ⟨⟨⟨i, hi, rfl⟩, rfl⟩ | ⟨hV24, rfl⟩, rfl, rfl⟩ := hq
    · refine q_if_ne (tgt := 32) dX9_clue_27 (by decide) (fun _ => ?_) (fun h => absurd h (by decide))
      have hn10 := (hz.2.2.2.2 ln hln).1
      have hww := hI.puz p hp
      refine q_iload dX9_clue_32 rfl ?_
      refine q_if_ne (tgt := 53) dX9_clue_34 (by decide) (fun c34 => ?_) (fun c34 => ?_)
      · refine q_iload dX9_clue_53 rfl ?_
        refine q_iconst (v := nI 1) dX9_clue_55 (by decide) ?_
        refine q_icmp_ne (tgt := 75) dX9_clue_56 (by decide) (fun c56 => ?_) (fun c56 => ?_)
        · refine q_iconst (v := -1) dX9_clue_75 (by decide) ?_
          exact q_ireturn dX9_clue_76 rfl rfl ⟨rfl, rfl, _, rfl, Or.inl ⟨p, ln, i, ⟨hp, rfl, hln, rfl⟩, hi, rfl, by rw [if_neg c34, if_neg c56]⟩⟩
        · refine q_aload_n dX9_clue_59 rfl rfl ?_
          refine q_mga 7 7 dX9_clue_60 hM fl_X9_29 rfl ?_
          refine q_aload_n dX9_clue_63 rfl rfl ?_
          refine q_iload_n dX9_clue_64 rfl ?_
          refine q_iload_n dX9_clue_65 rfl ?_
          refine q_iv (As := [_, _]) dX9_clue_66 ml_X9_121 mt_X9_runAt mi_X9_runAt se_X9_runAt hM.1 rfl rfl (Nat.le_of_ble_eq_true rfl) (Nat.le_of_ble_eq_true rfl) (Nat.zero_le _) (Nat.zero_le _) (Nat.le_of_ble_eq_true rfl) (q_C.mono (c_X9_runAt hM _ _) (fun v G1 sz1 hq => ?_))
          obtain ⟨rfl, rfl, rfl⟩ := hq
          refine q_iload_n dX9_clue_69 rfl ?_
          refine q_iadd dX9_clue_70 (nI_add _ _) ?_
          refine q_mld (k := 7) (v := nI (pz_l A p ln i)) dX9_clue_71 hM (by decide) rfl (show _ < (6000 : Nat) by omega) rfl (fun b71 => ?_)
          refine q_goto (tgt := 76) dX9_clue_72 (by decide) ?_
          exact q_ireturn dX9_clue_76 rfl rfl ⟨rfl, rfl, _, rfl, Or.inl ⟨p, ln, i, ⟨hp, rfl, hln, rfl⟩, hi, rfl, by rw [if_neg c34, if_pos c56]⟩⟩
      · refine q_aload_n dX9_clue_37 rfl rfl ?_
        refine q_mga 6 6 dX9_clue_38 hM fl_X9_26 rfl ?_
        refine q_aload_n dX9_clue_41 rfl rfl ?_
        refine q_iload_n dX9_clue_42 rfl ?_
        refine q_iload_n dX9_clue_43 rfl ?_
        refine q_iv (As := [_, _]) dX9_clue_44 ml_X9_121 mt_X9_runAt mi_X9_runAt se_X9_runAt hM.1 rfl rfl (Nat.le_of_ble_eq_true rfl) (Nat.le_of_ble_eq_true rfl) (Nat.zero_le _) (Nat.zero_le _) (Nat.le_of_ble_eq_true rfl) (q_C.mono (c_X9_runAt hM _ _) (fun v G1 sz1 hq => ?_))
        obtain ⟨rfl, rfl, rfl⟩ := hq
        refine q_iload_n dX9_clue_47 rfl ?_
        refine q_iadd dX9_clue_48 (nI_add _ _) ?_
        refine q_mld (k := 6) (v := nI (pz_c A p ln i)) dX9_clue_49 hM (by decide) rfl (show _ < (6000 : Nat) by omega) rfl (fun b49 => ?_)
        refine q_goto (tgt := 76) dX9_clue_50 (by decide) ?_
        exact q_ireturn dX9_clue_76 rfl rfl ⟨rfl, rfl, _, rfl, Or.inl ⟨p, ln, i, ⟨hp, rfl, hln, rfl⟩, hi, rfl, by rw [if_pos c34]⟩⟩
    · refine q_if_ne (tgt := 32) dX9_clue_27 (by decide) (fun h => absurd h (by decide)) (fun _ => ?_)
      refine q_iconst (v := -1) dX9_clue_30 (by decide) ?_
      exact q_ireturn dX9_clue_31 rfl rfl ⟨rfl, rfl, _, rfl, Or.inr ⟨fun ⟨p', ln', i, ⟨g1, g2, g3, g4⟩, h2, h3⟩ => hV24 ⟨i, by rw [(nI_eq (by omega) (by omega)).mp g2, (nI_eq (by omega) (by have := hI.puz p' g1; omega)).mp g4]; exact h2, h3⟩, rfl⟩⟩
  · refine q_if_eq (tgt := 30) dX9_clue_6 (by decide) (fun _ => ?_) (fun h => absurd h (by decide))
    refine q_iconst (v := -1) dX9_clue_30 (by decide) ?_
    exact q_ireturn dX9_clue_31 rfl rfl ⟨rfl, rfl, _, rfl, Or.inr ⟨fun ⟨p, ln, i, h1, h2, h3⟩ => hV3 ⟨p, ln, h1⟩, rfl⟩⟩

set_option maxHeartbeats 4000000 in
set_option maxRecDepth 100000 in
theorem c_X9_isGame {T : q_T} {m : Nat} {G0 G : q_G} {I : md_I} {A : md_A} {sz : Nat} (hM : Mod T m G0 I A G) (p : Int32) : q_C T mX9_isGame 1 22 0 0 [.ref m, .int p] G sz (fun v G' sz' => ((∃ j, j < I 7 ∧ p = nI j) ∧ v = some (.int (nI 1)) ∨ ¬ (∃ j, j < I 7 ∧ p = nI j) ∧ v = some (.int (nI 0))) ∧ G = G' ∧ sz = sz') := by
  refine q_C.of (by decide) rfl (by simp [Value.category]) (Nat.le_of_ble_eq_true rfl) ?_
  refine q_iload_n dX9_isGame_0 rfl ?_
  refine q_iconst (v := nI 0) dX9_isGame_1 (by decide) ?_
  refine q_aload_n dX9_isGame_2 rfl rfl ?_
  refine q_mgi 7 dX9_isGame_3 hM fl_X9_213 (by decide) (fun b3 => ?_)
  refine q_iconst (v := nI 1) dX9_isGame_6 (by decide) ?_
  refine q_isub dX9_isGame_7 rfl ?_
  refine q_is (As := [_, _, _]) dX9_isGame_8 ml_X9_96 mt_X9_in ms_X9_in rfl (Nat.le_of_ble_eq_true rfl) (Nat.le_of_ble_eq_true rfl) (Nat.zero_le _) (Nat.zero_le _) (Nat.le_of_ble_eq_true rfl) (q_C.mono (c_X9_in _ _ _) (fun v G1 sz1 hq => ?_))
  obtain ⟨⟨hq8, rfl⟩ | ⟨hq8, rfl⟩, rfl, rfl⟩ := hq
  · exact q_ireturn dX9_isGame_11 rfl (by decide +kernel) ⟨Or.inl ⟨(q_ixm (by omega)).mp hq8, rfl⟩, rfl, rfl⟩
  · exact q_ireturn dX9_isGame_11 rfl (by decide +kernel) ⟨Or.inr ⟨fun h => hq8 ((q_ixm (by omega)).mpr h), rfl⟩, rfl, rfl⟩

set_option maxHeartbeats 4000000 in
set_option maxRecDepth 100000 in
theorem c_X9_marked {T : q_T} {m : Nat} {G0 G : q_G} {I : md_I} {A : md_A} {sz t : Nat} (hM : Mod T m G0 I A G) (hI : Inv t I A) (x y : Int32) : q_C T mX9_marked 3 65 0 0 [.ref m, .int x, .int y] G sz (fun v G' sz' => sz = sz' ∧ G = G' ∧ ∃ z, v = some (.int z) ∧ D_marked I A x y z) := by
  refine q_C.of (by decide) rfl (by simp [Value.category]) (Nat.le_of_ble_eq_true rfl) ?_
  refine q_aload_n dX9_marked_0 rfl rfl ?_
  refine q_iload_n dX9_marked_1 rfl ?_
  refine q_iv (As := [_]) dX9_marked_2 ml_X9_216 mt_X9_isGame mi_X9_isGame se_X9_isGame hM.1 rfl rfl (Nat.le_of_ble_eq_true rfl) (Nat.le_of_ble_eq_true rfl) (Nat.zero_le _) (Nat.zero_le _) (Nat.le_of_ble_eq_true rfl) (q_C.mono (c_X9_isGame hM _) (fun v G1 sz1 hq => ?_))
  obtain ⟨⟨⟨g, hg, rfl⟩, rfl⟩ | ⟨hV2, rfl⟩, rfl, rfl⟩ := hq
  · have hg20 := hI.2.2.2.2.1
    have hgg := hI.2.2.2.2.2.1 g hg
    have hp30 := hI.1
    have hzg := (hI.2.1 _ hgg.1).1
    have hsg := pz_size hzg
    refine q_if_eq (tgt := 36) dX9_marked_5 (by decide) (fun h => absurd h (by decide)) (fun _ => ?_)
    refine q_aload_n dX9_marked_8 rfl rfl ?_
    refine q_aload_n dX9_marked_9 rfl rfl ?_
    refine q_mga 26 19 dX9_marked_10 hM fl_X9_65 rfl ?_
    refine q_iload_n dX9_marked_13 rfl ?_
    refine q_mld (k := 19) (v := nI _) dX9_marked_14 hM (by decide) rfl (show _ < (20 : Nat) by omega) rfl (fun b14 => ?_)
    refine q_iload_n dX9_marked_15 rfl ?_
    refine q_iv (As := [_, _]) dX9_marked_16 ml_X9_131 mt_X9_isCell mi_X9_isCell se_X9_isCell hM.1 rfl rfl (Nat.le_of_ble_eq_true rfl) (Nat.le_of_ble_eq_true rfl) (Nat.zero_le _) (Nat.zero_le _) (Nat.le_of_ble_eq_true rfl) (q_C.mono (c_X9_isCell hM hI.1 hI.puz _ _) (fun v G1 sz1 hq => ?_))
    obtain ⟨⟨⟨p1, k, hp1, e1, hk, rfl⟩, rfl⟩ | ⟨hV16, rfl⟩, rfl, rfl⟩ := hq
    · obtain rfl : A 19 g = p1 := (nI_eq (by omega) (by omega)).mp e1
      refine q_if_eq (tgt := 36) dX9_marked_19 (by decide) (fun h => absurd h (by decide)) (fun _ => ?_)
      refine q_aload_n dX9_marked_22 rfl rfl ?_
      refine q_mga 27 20 dX9_marked_23 hM fl_X9_68 rfl ?_
      refine q_bipush (v := nI 100) dX9_marked_26 (by decide) ?_
      refine q_iload_n dX9_marked_28 rfl ?_
      refine q_imul dX9_marked_29 (pk_mul _ _) ?_
      refine q_iload_n dX9_marked_30 rfl ?_
      refine q_iadd dX9_marked_31 (nI_add _ _) ?_
      refine q_mld (k := 20) (v := nI _ - 1) dX9_marked_32 hM (by decide) rfl (show _ < (2000 : Nat) by omega) rfl (fun b32 => ?_)
      refine q_goto (tgt := 37) dX9_marked_33 (by decide) ?_
      exact q_ireturn dX9_marked_37 rfl rfl ⟨rfl, rfl, _, rfl, Or.inl ⟨g, k, hg, rfl, hk, rfl, rfl⟩⟩
    · refine q_if_eq (tgt := 36) dX9_marked_19 (by decide) (fun _ => ?_) (fun h => absurd h (by decide))
      refine q_iconst (v := -1) dX9_marked_36 (by decide) ?_
      exact q_ireturn dX9_marked_37 rfl rfl ⟨rfl, rfl, _, rfl, Or.inr ⟨fun ⟨g', c, h1, h2, h3, h4⟩ => hV16 ⟨A 19 g, c, hgg.1, rfl, by rw [(nI_eq (by omega) (by omega)).mp h2]; exact h3, h4⟩, rfl⟩⟩
  · refine q_if_eq (tgt := 36) dX9_marked_5 (by decide) (fun _ => ?_) (fun h => absurd h (by decide))
    refine q_iconst (v := -1) dX9_marked_36 (by decide) ?_
    exact q_ireturn dX9_marked_37 rfl rfl ⟨rfl, rfl, _, rfl, Or.inr ⟨fun ⟨g, c, h1, h2, h3, h4⟩ => hV2 ⟨g, h1, h2⟩, rfl⟩⟩

set_option maxHeartbeats 4000000 in
set_option maxRecDepth 100000 in
theorem c_X9_undo {T : q_T} {m : Nat} {G0 G : q_G} {I : md_I} {A : md_A} {sz t : Nat} (hM : Mod T m G0 I A G) (hI : Inv t I A) (x : Int32) : q_C T mX9_undo 2 43 0 0 [.ref m, .int x] G sz (fun v G' sz' => sz = sz' ∧ ∃ (I' : md_I) (A' : md_A), Mod T m G0 I' A' G' ∧ ∃ (z : Int32) (I2 : md_I) (A2 : md_A), v = some (.int z) ∧ D_undo I A x z I2 A2 ∧ Per I2 I' A2 A') := by
  refine q_C.of (by decide) rfl (by simp [Value.category]) (Nat.le_of_ble_eq_true rfl) ?_
  refine q_aload_n dX9_undo_0 rfl rfl ?_
  refine q_iload_n dX9_undo_1 rfl ?_
  refine q_iv (As := [_]) dX9_undo_2 ml_X9_216 mt_X9_isGame mi_X9_isGame se_X9_isGame hM.1 rfl rfl (Nat.le_of_ble_eq_true rfl) (Nat.le_of_ble_eq_true rfl) (Nat.zero_le _) (Nat.zero_le _) (Nat.le_of_ble_eq_true rfl) (q_C.mono (c_X9_isGame hM _) (fun v G1 sz1 hq => ?_))
  obtain ⟨⟨⟨g, hg, rfl⟩, rfl⟩ | ⟨hV2, rfl⟩, rfl, rfl⟩ := hq
  · have hg20 := hI.2.2.2.2.1
    have hgg := hI.2.2.2.2.2.1 g hg
    have hp30 := hI.1
    have hzg := (hI.2.1 _ hgg.1).1
    have hsg := pz_size hzg
    refine q_if_eq (tgt := 17) dX9_undo_5 (by decide) (fun h => absurd h (by decide)) (fun _ => ?_)
    refine q_aload_n dX9_undo_8 rfl rfl ?_
    refine q_mga 28 21 dX9_undo_9 hM fl_X9_71 rfl ?_
    refine q_iload_n dX9_undo_12 rfl ?_
    refine q_mld (k := 21) (v := nI _) dX9_undo_13 hM (by decide) rfl (show _ < (20 : Nat) by omega) rfl (fun b13 => ?_)
    refine n_if_ne (tgt := 19) dX9_undo_14 (by decide) (by omega) (fun c14 => ?_) (fun c14 => ?_)
    · have hch := hgg.2.2.2.2.2.2 (A 21 g - 1) (by have := hgg.2.1; omega)
      have hk2 := hgg.2.1
      have hk3 := hgg.2.2.1
      refine q_aload_n dX9_undo_19 rfl rfl ?_
      refine q_mga 28 21 dX9_undo_20 hM fl_X9_71 rfl ?_
      refine q_iload_n dX9_undo_23 rfl ?_
      refine q_dup2 dX9_undo_24 rfl rfl ?_
      refine q_mld (k := 21) (v := nI _) dX9_undo_25 hM (by decide) rfl (show _ < (20 : Nat) by omega) rfl (fun b25 => ?_)
      refine q_iconst (v := nI 1) dX9_undo_26 (by decide) ?_
      refine q_isub dX9_undo_27 (pk_sub (by omega)) ?_
      refine q_mst (k := 21) dX9_undo_28 hM (by decide) rfl (show _ < (20 : Nat) by omega) rfl (by omega) (fun G hM => ?_)
      refine q_sipush (v := nI 200) dX9_undo_29 (by decide) ?_
      refine q_iload_n dX9_undo_32 rfl ?_
      refine q_imul dX9_undo_33 (pk_mul _ _) ?_
      refine q_aload_n dX9_undo_34 rfl rfl ?_
      refine q_mga 28 21 dX9_undo_35 hM fl_X9_71 rfl ?_
      refine q_iload_n dX9_undo_38 rfl ?_
      refine q_mld (k := 21) (v := nI (A 21 g - 1)) dX9_undo_39 hM (by decide) rfl (show _ < (20 : Nat) by omega) (congrArg nI (md_st_s _ _ _ _)) (fun b39 => ?_)
      refine q_iadd dX9_undo_40 (nI_add _ _) ?_
      refine s_istore_n dX9_undo_41 (by decide) rfl ?_
      refine q_aload_n dX9_undo_42 rfl rfl ?_
      refine q_mga 27 20 dX9_undo_43 hM fl_X9_68 rfl ?_
      refine q_bipush (v := nI 100) dX9_undo_46 (by decide) ?_
      refine q_iload_n dX9_undo_48 rfl ?_
      refine q_imul dX9_undo_49 (pk_mul _ _) ?_
      refine q_aload_n dX9_undo_50 rfl rfl ?_
      refine q_mga 31 24 dX9_undo_51 hM fl_X9_80 rfl ?_
      refine q_iload_n dX9_undo_54 rfl ?_
      refine q_mld (k := 24) (v := nI (A 24 (200 * g + (A 21 g - 1)))) dX9_undo_55 hM (by decide) rfl (show _ < (4000 : Nat) by omega) rfl (fun b55 => ?_)
      refine q_iadd dX9_undo_56 (nI_add _ _) ?_
      refine q_aload_n dX9_undo_57 rfl rfl ?_
      refine q_mga 32 25 dX9_undo_58 hM fl_X9_83 rfl ?_
      refine q_iload_n dX9_undo_61 rfl ?_
      refine q_mld (k := 25) (v := nI (A 25 (200 * g + (A 21 g - 1))) - 1) dX9_undo_62 hM (by decide) rfl (show _ < (4000 : Nat) by omega) rfl (fun b62 => ?_)
      refine q_mst (k := 20) dX9_undo_63 hM (by decide) rfl (show _ < (2000 : Nat) by omega) rfl (show A 25 (200 * g + (A 21 g - 1)) ≤ 100000 from b62) (fun G hM => ?_)
      refine q_aload_n dX9_undo_64 rfl rfl ?_
      refine q_mga 31 24 dX9_undo_65 hM fl_X9_80 rfl ?_
      refine q_iload_n dX9_undo_68 rfl ?_
      refine q_mld (k := 24) (v := nI (A 24 (200 * g + (A 21 g - 1)))) dX9_undo_69 hM (by decide) rfl (show _ < (4000 : Nat) by omega) rfl (fun b69 => ?_)
      exact q_ireturn dX9_undo_70 rfl rfl ⟨rfl, I, _, hM, _, I, _, rfl, ⟨rfl, Or.inl ⟨g, hg, rfl, c14, rfl, rfl⟩⟩, Per.rfl'⟩
    · refine q_iconst (v := -1) dX9_undo_17 (by decide) ?_
      exact q_ireturn dX9_undo_18 rfl rfl ⟨rfl, I, A, hM, _, I, A, rfl, ⟨rfl, Or.inr ⟨fun ⟨g', h1, h2, h3⟩ => h3 (by rw [← (nI_eq (by omega) (by omega)).mp h2]; exact c14), rfl, rfl⟩⟩, Per.rfl'⟩
  · refine q_if_eq (tgt := 17) dX9_undo_5 (by decide) (fun _ => ?_) (fun h => absurd h (by decide))
    refine q_iconst (v := -1) dX9_undo_17 (by decide) ?_
    exact q_ireturn dX9_undo_18 rfl rfl ⟨rfl, I, A, hM, _, I, A, rfl, ⟨rfl, Or.inr ⟨fun ⟨g, h1, h2, h3⟩ => hV2 ⟨g, h1, h2⟩, rfl, rfl⟩⟩, Per.rfl'⟩

set_option maxHeartbeats 4000000 in
set_option maxRecDepth 100000 in
theorem c_X9_redo {T : q_T} {m : Nat} {G0 G : q_G} {I : md_I} {A : md_A} {sz t : Nat} (hM : Mod T m G0 I A G) (hI : Inv t I A) (x : Int32) : q_C T mX9_redo 2 43 0 0 [.ref m, .int x] G sz (fun v G' sz' => sz = sz' ∧ ∃ (I' : md_I) (A' : md_A), Mod T m G0 I' A' G' ∧ ∃ (z : Int32) (I2 : md_I) (A2 : md_A), v = some (.int z) ∧ D_redo I A x z I2 A2 ∧ Per I2 I' A2 A') := by
  refine q_C.of (by decide) rfl (by simp [Value.category]) (Nat.le_of_ble_eq_true rfl) ?_
  refine q_aload_n dX9_redo_0 rfl rfl ?_
  refine q_iload_n dX9_redo_1 rfl ?_
  refine q_iv (As := [_]) dX9_redo_2 ml_X9_216 mt_X9_isGame mi_X9_isGame se_X9_isGame hM.1 rfl rfl (Nat.le_of_ble_eq_true rfl) (Nat.le_of_ble_eq_true rfl) (Nat.zero_le _) (Nat.zero_le _) (Nat.le_of_ble_eq_true rfl) (q_C.mono (c_X9_isGame hM _) (fun v G1 sz1 hq => ?_))
  obtain ⟨⟨⟨g, hg, rfl⟩, rfl⟩ | ⟨hV2, rfl⟩, rfl, rfl⟩ := hq
  · have hg20 := hI.2.2.2.2.1
    have hgg := hI.2.2.2.2.2.1 g hg
    have hp30 := hI.1
    have hzg := (hI.2.1 _ hgg.1).1
    have hsg := pz_size hzg
    refine q_if_eq (tgt := 23) dX9_redo_5 (by decide) (fun h => absurd h (by decide)) (fun _ => ?_)
    refine q_aload_n dX9_redo_8 rfl rfl ?_
    refine q_mga 28 21 dX9_redo_9 hM fl_X9_71 rfl ?_
    refine q_iload_n dX9_redo_12 rfl ?_
    refine q_mld (k := 21) (v := nI _) dX9_redo_13 hM (by decide) rfl (show _ < (20 : Nat) by omega) rfl (fun b13 => ?_)
    refine q_aload_n dX9_redo_14 rfl rfl ?_
    refine q_mga 29 22 dX9_redo_15 hM fl_X9_74 rfl ?_
    refine q_iload_n dX9_redo_18 rfl ?_
    refine q_mld (k := 22) (v := nI _) dX9_redo_19 hM (by decide) rfl (show _ < (20 : Nat) by omega) rfl (fun b19 => ?_)
    refine n_icmp_ne (tgt := 25) dX9_redo_20 (by decide) (by omega) (by omega) (fun c20 => ?_) (fun c20 => ?_)
    · have hk2 := hgg.2.1
      have hk3 := hgg.2.2.1
      have hch := hgg.2.2.2.2.2.2 (A 21 g) (by omega)
      refine q_sipush (v := nI 200) dX9_redo_25 (by decide) ?_
      refine q_iload_n dX9_redo_28 rfl ?_
      refine q_imul dX9_redo_29 (pk_mul _ _) ?_
      refine q_aload_n dX9_redo_30 rfl rfl ?_
      refine q_mga 28 21 dX9_redo_31 hM fl_X9_71 rfl ?_
      refine q_iload_n dX9_redo_34 rfl ?_
      refine q_mld (k := 21) (v := nI (A 21 g)) dX9_redo_35 hM (by decide) rfl (show _ < (20 : Nat) by omega) rfl (fun b35 => ?_)
      refine q_iadd dX9_redo_36 (nI_add _ _) ?_
      refine s_istore_n dX9_redo_37 (by decide) rfl ?_
      refine q_aload_n dX9_redo_38 rfl rfl ?_
      refine q_mga 28 21 dX9_redo_39 hM fl_X9_71 rfl ?_
      refine q_iload_n dX9_redo_42 rfl ?_
      refine q_dup2 dX9_redo_43 rfl rfl ?_
      refine q_mld (k := 21) (v := nI (A 21 g)) dX9_redo_44 hM (by decide) rfl (show _ < (20 : Nat) by omega) rfl (fun b44 => ?_)
      refine q_iconst (v := nI 1) dX9_redo_45 (by decide) ?_
      refine q_iadd dX9_redo_46 (nI_add _ _) ?_
      refine q_mst (k := 21) dX9_redo_47 hM (by decide) rfl (show _ < (20 : Nat) by omega) rfl (by omega) (fun G hM => ?_)
      refine q_aload_n dX9_redo_48 rfl rfl ?_
      refine q_mga 27 20 dX9_redo_49 hM fl_X9_68 rfl ?_
      refine q_bipush (v := nI 100) dX9_redo_52 (by decide) ?_
      refine q_iload_n dX9_redo_54 rfl ?_
      refine q_imul dX9_redo_55 (pk_mul _ _) ?_
      refine q_aload_n dX9_redo_56 rfl rfl ?_
      refine q_mga 31 24 dX9_redo_57 hM fl_X9_80 rfl ?_
      refine q_iload_n dX9_redo_60 rfl ?_
      refine q_mld (k := 24) (v := nI (A 24 (200 * g + A 21 g))) dX9_redo_61 hM (by decide) rfl (show _ < (4000 : Nat) by omega) rfl (fun b61 => ?_)
      refine q_iadd dX9_redo_62 (nI_add _ _) ?_
      refine q_aload_n dX9_redo_63 rfl rfl ?_
      refine q_mga 33 26 dX9_redo_64 hM fl_X9_86 rfl ?_
      refine q_iload_n dX9_redo_67 rfl ?_
      refine q_mld (k := 26) (v := nI (A 26 (200 * g + A 21 g)) - 1) dX9_redo_68 hM (by decide) rfl (show _ < (4000 : Nat) by omega) rfl (fun b68 => ?_)
      refine q_mst (k := 20) dX9_redo_69 hM (by decide) rfl (show _ < (2000 : Nat) by omega) rfl (show A 26 (200 * g + A 21 g) ≤ 100000 from b68) (fun G hM => ?_)
      refine q_aload_n dX9_redo_70 rfl rfl ?_
      refine q_mga 31 24 dX9_redo_71 hM fl_X9_80 rfl ?_
      refine q_iload_n dX9_redo_74 rfl ?_
      refine q_mld (k := 24) (v := nI (A 24 (200 * g + A 21 g))) dX9_redo_75 hM (by decide) rfl (show _ < (4000 : Nat) by omega) rfl (fun b75 => ?_)
      exact q_ireturn dX9_redo_76 rfl rfl ⟨rfl, I, _, hM, _, I, _, rfl, ⟨rfl, Or.inl ⟨g, hg, rfl, c20, rfl, rfl⟩⟩, Per.rfl'⟩
    · refine q_iconst (v := -1) dX9_redo_23 (by decide) ?_
      exact q_ireturn dX9_redo_24 rfl rfl ⟨rfl, I, A, hM, _, I, A, rfl, ⟨rfl, Or.inr ⟨fun ⟨g', h1, h2, h3⟩ => h3 (by rw [← (nI_eq (by omega) (by omega)).mp h2]; exact c20), rfl, rfl⟩⟩, Per.rfl'⟩
  · refine q_if_eq (tgt := 23) dX9_redo_5 (by decide) (fun _ => ?_) (fun h => absurd h (by decide))
    refine q_iconst (v := -1) dX9_redo_23 (by decide) ?_
    exact q_ireturn dX9_redo_24 rfl rfl ⟨rfl, I, A, hM, _, I, A, rfl, ⟨rfl, Or.inr ⟨fun ⟨g, h1, h2, h3⟩ => hV2 ⟨g, h1, h2⟩, rfl, rfl⟩⟩, Per.rfl'⟩

set_option maxHeartbeats 4000000 in
set_option maxRecDepth 100000 in
theorem c_X9_mark {T : q_T} {m : Nat} {G0 G : q_G} {I : md_I} {A : md_A} {sz t : Nat} (hM : Mod T m G0 I A G) (hI : Inv t I A) (x y w : Int32) : q_C T mX9_mark 3 65 0 0 [.ref m, .int x, .int y, .int w] G sz (fun v G' sz' => sz = sz' ∧ ∃ (I' : md_I) (A' : md_A), Mod T m G0 I' A' G' ∧ ∃ (z : Int32) (I2 : md_I) (A2 : md_A), v = some (.int z) ∧ D_mark I A x y w z I2 A2 ∧ Per I2 I' A2 A') := by
  refine q_C.of (by decide) rfl (by simp [Value.category]) (Nat.le_of_ble_eq_true rfl) ?_
  refine q_aload_n dX9_mark_0 rfl rfl ?_
  refine q_iload_n dX9_mark_1 rfl ?_
  refine q_iv (As := [_]) dX9_mark_2 ml_X9_216 mt_X9_isGame mi_X9_isGame se_X9_isGame hM.1 rfl rfl (Nat.le_of_ble_eq_true rfl) (Nat.le_of_ble_eq_true rfl) (Nat.zero_le _) (Nat.zero_le _) (Nat.le_of_ble_eq_true rfl) (q_C.mono (c_X9_isGame hM _) (fun v G1 sz1 hq => ?_))
  obtain ⟨⟨⟨g, hg, rfl⟩, rfl⟩ | ⟨hV2, rfl⟩, rfl, rfl⟩ := hq
  · have hg20 := hI.2.2.2.2.1
    have hgg := hI.2.2.2.2.2.1 g hg
    have hp30 := hI.1
    have hzg := (hI.2.1 _ hgg.1).1
    have hsg := pz_size hzg
    refine q_if_eq (tgt := 41) dX9_mark_5 (by decide) (fun h => absurd h (by decide)) (fun _ => ?_)
    refine q_aload_n dX9_mark_8 rfl rfl ?_
    refine q_aload_n dX9_mark_9 rfl rfl ?_
    refine q_mga 26 19 dX9_mark_10 hM fl_X9_65 rfl ?_
    refine q_iload_n dX9_mark_13 rfl ?_
    refine q_mld (k := 19) (v := nI (A 19 g)) dX9_mark_14 hM (by decide) rfl (show _ < (20 : Nat) by omega) rfl (fun b14 => ?_)
    refine q_iload_n dX9_mark_15 rfl ?_
    refine q_iv (As := [_, _]) dX9_mark_16 ml_X9_131 mt_X9_isCell mi_X9_isCell se_X9_isCell hM.1 rfl rfl (Nat.le_of_ble_eq_true rfl) (Nat.le_of_ble_eq_true rfl) (Nat.zero_le _) (Nat.zero_le _) (Nat.le_of_ble_eq_true rfl) (q_C.mono (c_X9_isCell hM hI.1 hI.puz _ _) (fun v G1 sz1 hq => ?_))
    obtain ⟨⟨⟨p1, k, hp1, e1, hk, rfl⟩, rfl⟩ | ⟨hV16, rfl⟩, rfl, rfl⟩ := hq
    · obtain rfl : A 19 g = p1 := (nI_eq (by omega) (by omega)).mp e1
      refine q_if_eq (tgt := 41) dX9_mark_19 (by decide) (fun h => absurd h (by decide)) (fun _ => ?_)
      refine q_iload_n dX9_mark_22 rfl ?_
      refine q_iconst (v := -1) dX9_mark_23 (by decide) ?_
      refine q_aload_n dX9_mark_24 rfl rfl ?_
      refine q_mga 3 3 dX9_mark_25 hM fl_X9_16 rfl ?_
      refine q_aload_n dX9_mark_28 rfl rfl ?_
      refine q_mga 26 19 dX9_mark_29 hM fl_X9_65 rfl ?_
      refine q_iload_n dX9_mark_32 rfl ?_
      refine q_mld (k := 19) (v := nI (A 19 g)) dX9_mark_33 hM (by decide) rfl (show _ < (20 : Nat) by omega) rfl (fun b33 => ?_)
      refine q_mld (k := 3) (v := nI (A 3 (A 19 g))) dX9_mark_34 hM (by decide) rfl (show _ < (30 : Nat) by omega) rfl (fun b34 => ?_)
      refine q_is (As := [_, _, _]) dX9_mark_35 ml_X9_96 mt_X9_in ms_X9_in rfl (Nat.le_of_ble_eq_true rfl) (Nat.le_of_ble_eq_true rfl) (Nat.zero_le _) (Nat.zero_le _) (Nat.le_of_ble_eq_true rfl) (q_C.mono (c_X9_in _ _ _) (fun v G1 sz1 hq => ?_))
      rw [q_ixk (by omega)] at hq
      obtain ⟨⟨⟨j, hj, rfl⟩, rfl⟩ | ⟨hV35, rfl⟩, rfl, rfl⟩ := hq
      · refine q_if_ne (tgt := 43) dX9_mark_38 (by decide) (fun _ => ?_) (fun h => absurd h (by decide))
        refine q_aload_n dX9_mark_43 rfl rfl ?_
        refine q_mga 27 20 dX9_mark_44 hM fl_X9_68 rfl ?_
        refine q_bipush (v := nI 100) dX9_mark_47 (by decide) ?_
        refine q_iload_n dX9_mark_49 rfl ?_
        refine q_imul dX9_mark_50 (pk_mul _ _) ?_
        refine q_iload_n dX9_mark_51 rfl ?_
        refine q_iadd dX9_mark_52 (nI_add _ _) ?_
        refine q_mld (k := 20) (v := nI (A 20 (100 * g + k)) - 1) dX9_mark_53 hM (by decide) rfl (show _ < (2000 : Nat) by omega) rfl (fun b53 => ?_)
        refine q_iload_n dX9_mark_54 rfl ?_
        refine q_icmp_eq (tgt := 70) dX9_mark_55 (by decide) (fun c55 => ?_) (fun c55 => ?_)
        · refine q_iconst (v := nI 0) dX9_mark_70 (by decide) ?_
          exact q_ireturn dX9_mark_71 rfl (by decide +kernel) ⟨rfl, I, A, hM, _, I, A, rfl, ⟨rfl, Or.inr ⟨fun ⟨g', c', k', h1, h2, h3, h4, h5, h6, h7, h8⟩ => (by obtain rfl : g = g' := (nI_eq (by omega) (by omega)).mp h2; obtain rfl : k = c' := (nI_eq (by omega) (by omega)).mp h4; obtain rfl : j = k' := (nI_m1eq (by omega) (by omega)).mp h6; exact h7 ((nI_m1eq (by omega) (by omega)).mp c55)), rfl, rfl⟩⟩, Per.rfl'⟩
        · refine q_aload_n dX9_mark_58 rfl rfl ?_
          refine q_mga 28 21 dX9_mark_59 hM fl_X9_71 rfl ?_
          refine q_iload_n dX9_mark_62 rfl ?_
          refine q_mld (k := 21) (v := nI (A 21 g)) dX9_mark_63 hM (by decide) rfl (show _ < (20 : Nat) by omega) rfl (fun b63 => ?_)
          refine q_sipush (v := nI 200) dX9_mark_64 (by decide) ?_
          refine n_icmp_ne (tgt := 72) dX9_mark_67 (by decide) (by omega) (by omega) (fun c67 => ?_) (fun c67 => ?_)
          · have hk2 := hgg.2.1
            have hk3 := hgg.2.2.1
            refine q_sipush (v := nI 200) dX9_mark_72 (by decide) ?_
            refine q_iload_n dX9_mark_75 rfl ?_
            refine q_imul dX9_mark_76 (pk_mul _ _) ?_
            refine q_aload_n dX9_mark_77 rfl rfl ?_
            refine q_mga 28 21 dX9_mark_78 hM fl_X9_71 rfl ?_
            refine q_iload_n dX9_mark_81 rfl ?_
            refine q_mld (k := 21) (v := nI (A 21 g)) dX9_mark_82 hM (by decide) rfl (show _ < (20 : Nat) by omega) rfl (fun b82 => ?_)
            refine q_iadd dX9_mark_83 (nI_add _ _) ?_
            refine s_istore dX9_mark_84 (by decide) rfl ?_
            refine q_aload_n dX9_mark_86 rfl rfl ?_
            refine q_mga 31 24 dX9_mark_87 hM fl_X9_80 rfl ?_
            refine q_iload dX9_mark_90 rfl ?_
            refine q_iload_n dX9_mark_92 rfl ?_
            refine q_mst (k := 24) dX9_mark_93 hM (by decide) rfl (show _ < (4000 : Nat) by omega) rfl (by omega) (fun G hM => ?_)
            refine q_aload_n dX9_mark_94 rfl rfl ?_
            refine q_mga 32 25 dX9_mark_95 hM fl_X9_83 rfl ?_
            refine q_iload dX9_mark_98 rfl ?_
            refine q_aload_n dX9_mark_100 rfl rfl ?_
            refine q_mga 27 20 dX9_mark_101 hM fl_X9_68 rfl ?_
            refine q_bipush (v := nI 100) dX9_mark_104 (by decide) ?_
            refine q_iload_n dX9_mark_106 rfl ?_
            refine q_imul dX9_mark_107 (pk_mul _ _) ?_
            refine q_iload_n dX9_mark_108 rfl ?_
            refine q_iadd dX9_mark_109 (nI_add _ _) ?_
            refine q_mld (k := 20) (v := nI (A 20 (100 * g + k)) - 1) dX9_mark_110 hM (by decide) rfl (show _ < (2000 : Nat) by omega) rfl (fun b110 => ?_)
            refine q_mst (k := 25) (v := A 20 (100 * g + k)) dX9_mark_111 hM (by decide) rfl (show _ < (4000 : Nat) by omega) rfl (show A 20 (100 * g + k) ≤ 100000 from b110) (fun G hM => ?_)
            refine q_aload_n dX9_mark_112 rfl rfl ?_
            refine q_mga 33 26 dX9_mark_113 hM fl_X9_86 rfl ?_
            refine q_iload dX9_mark_116 rfl ?_
            refine q_iload_n dX9_mark_118 rfl ?_
            refine q_mst (k := 26) (v := j) dX9_mark_119 hM (by decide) rfl (show _ < (4000 : Nat) by omega) rfl (by have := hzg.2.2.2.1.2; omega) (fun G hM => ?_)
            refine q_aload_n dX9_mark_120 rfl rfl ?_
            refine q_mga 28 21 dX9_mark_121 hM fl_X9_71 rfl ?_
            refine q_iload_n dX9_mark_124 rfl ?_
            refine q_dup2 dX9_mark_125 rfl rfl ?_
            refine q_mld (k := 21) (v := nI (A 21 g)) dX9_mark_126 hM (by decide) rfl (show _ < (20 : Nat) by omega) rfl (fun b126 => ?_)
            refine q_iconst (v := nI 1) dX9_mark_127 (by decide) ?_
            refine q_iadd dX9_mark_128 (nI_add _ _) ?_
            refine q_mst (k := 21) dX9_mark_129 hM (by decide) rfl (show _ < (20 : Nat) by omega) rfl (by omega) (fun G hM => ?_)
            refine q_aload_n dX9_mark_130 rfl rfl ?_
            refine q_mga 29 22 dX9_mark_131 hM fl_X9_74 rfl ?_
            refine q_iload_n dX9_mark_134 rfl ?_
            refine q_aload_n dX9_mark_135 rfl rfl ?_
            refine q_mga 28 21 dX9_mark_136 hM fl_X9_71 rfl ?_
            refine q_iload_n dX9_mark_139 rfl ?_
            refine q_mld (k := 21) (v := nI (A 21 g + 1)) dX9_mark_140 hM (by decide) rfl (show _ < (20 : Nat) by omega) (congrArg nI (md_st_s _ _ _ _)) (fun b140 => ?_)
            refine q_mst (k := 22) dX9_mark_141 hM (by decide) rfl (show _ < (20 : Nat) by omega) rfl (by omega) (fun G hM => ?_)
            refine q_aload_n dX9_mark_142 rfl rfl ?_
            refine q_mga 27 20 dX9_mark_143 hM fl_X9_68 rfl ?_
            refine q_bipush (v := nI 100) dX9_mark_146 (by decide) ?_
            refine q_iload_n dX9_mark_148 rfl ?_
            refine q_imul dX9_mark_149 (pk_mul _ _) ?_
            refine q_iload_n dX9_mark_150 rfl ?_
            refine q_iadd dX9_mark_151 (nI_add _ _) ?_
            refine q_iload_n dX9_mark_152 rfl ?_
            refine q_mst (k := 20) (v := j) dX9_mark_153 hM (by decide) rfl (show _ < (2000 : Nat) by omega) rfl (by have := hzg.2.2.2.1.2; omega) (fun G hM => ?_)
            refine q_iconst (v := nI 1) dX9_mark_154 (by decide) ?_
            exact q_ireturn dX9_mark_155 rfl (by decide +kernel) ⟨rfl, I, _, hM, _, I, _, rfl, ⟨rfl, Or.inl ⟨g, k, j, ⟨hg, rfl, hk, rfl, hj, rfl, fun e => c55 (by rw [e]), c67⟩, rfl, rfl⟩⟩, Per.rfl'⟩
          · refine q_iconst (v := nI 0) dX9_mark_70 (by decide) ?_
            exact q_ireturn dX9_mark_71 rfl (by decide +kernel) ⟨rfl, I, A, hM, _, I, A, rfl, ⟨rfl, Or.inr ⟨fun ⟨g', c', k', h1, h2, h3, h4, h5, h6, h7, h8⟩ => (by obtain rfl : g = g' := (nI_eq (by omega) (by omega)).mp h2; obtain rfl : k = c' := (nI_eq (by omega) (by omega)).mp h4; obtain rfl : j = k' := (nI_m1eq (by omega) (by omega)).mp h6; exact h8 c67), rfl, rfl⟩⟩, Per.rfl'⟩
      · refine q_if_ne (tgt := 43) dX9_mark_38 (by decide) (fun h => absurd h (by decide)) (fun _ => ?_)
        refine q_iconst (v := nI 0) dX9_mark_41 (by decide) ?_
        exact q_ireturn dX9_mark_42 rfl (by decide +kernel) ⟨rfl, I, A, hM, _, I, A, rfl, ⟨rfl, Or.inr ⟨fun ⟨g', c, k', h1, h2, h3, h4, h5, h6, h7⟩ => (by obtain rfl : g = g' := (nI_eq (by omega) (by omega)).mp h2; exact hV35 ⟨k', h5, h6⟩), rfl, rfl⟩⟩, Per.rfl'⟩
    · refine q_if_eq (tgt := 41) dX9_mark_19 (by decide) (fun _ => ?_) (fun h => absurd h (by decide))
      refine q_iconst (v := nI 0) dX9_mark_41 (by decide) ?_
      exact q_ireturn dX9_mark_42 rfl (by decide +kernel) ⟨rfl, I, A, hM, _, I, A, rfl, ⟨rfl, Or.inr ⟨fun ⟨g', c, k, h1, h2, h3, h4, h5⟩ => (by obtain rfl : g = g' := (nI_eq (by omega) (by omega)).mp h2; exact hV16 ⟨A 19 g, c, hgg.1, rfl, h3, h4⟩), rfl, rfl⟩⟩, Per.rfl'⟩
  · refine q_if_eq (tgt := 41) dX9_mark_5 (by decide) (fun _ => ?_) (fun h => absurd h (by decide))
    refine q_iconst (v := nI 0) dX9_mark_41 (by decide) ?_
    exact q_ireturn dX9_mark_42 rfl (by decide +kernel) ⟨rfl, I, A, hM, _, I, A, rfl, ⟨rfl, Or.inr ⟨fun ⟨g, c, k, h1, h2, h3⟩ => hV2 ⟨g, h1, h2⟩, rfl, rfl⟩⟩, Per.rfl'⟩

set_option maxHeartbeats 4000000 in
set_option maxRecDepth 100000 in
theorem l_X9_game {T : q_T} {m : Nat} {G0 : q_G} {I : md_I} {A : md_A} {sz : Nat} {E : q_E} {p : Nat} (hg : I 7 < 20) (hx : ∀ G, Mod T m G0 I (md_fill A 20 (100 * I 7) 100 0) G → q_R T mX9_game 2 43 65 [some (.ref m), some (.int (nI p)), some (.int (nI 100))] [] G sz 0 0 E) : ∀ (c : Nat) (G : q_G), c ≤ 100 → Mod T m G0 I (md_fill A 20 (100 * I 7) c 0) G → q_R T mX9_game 2 43 38 [some (.ref m), some (.int (nI p)), some (.int (nI c))] [] G sz 0 0 E := by
  refine q_indN (fun c a => 100 - c) _ (fun c G ih => ?_)
  intro hc2 hM
  refine q_iload_n dX9_game_38 rfl ?_
  refine q_bipush (v := nI 100) dX9_game_39 (by decide) ?_
  refine n_icmp_ge (tgt := 65) dX9_game_41 (by decide) (by omega) (by omega) (fun c41 => ?_) (fun c41 => ?_)
  · obtain rfl : c = 100 := by omega
    exact hx G hM
  · refine q_aload_n dX9_game_44 rfl rfl ?_
    refine q_mga 27 20 dX9_game_45 hM fl_X9_68 rfl ?_
    refine q_bipush (v := nI 100) dX9_game_48 (by decide) ?_
    refine q_aload_n dX9_game_50 rfl rfl ?_
    refine q_mgi 7 dX9_game_51 hM fl_X9_213 (by decide) (fun b51 => ?_)
    refine q_imul dX9_game_54 (pk_mul _ _) ?_
    refine q_iload_n dX9_game_55 rfl ?_
    refine q_iadd dX9_game_56 (nI_add _ _) ?_
    refine q_iconst (v := -1) dX9_game_57 (by decide) ?_
    refine q_mst (k := 20) (v := 0) dX9_game_58 hM (by decide) rfl (show _ < (2000 : Nat) by omega) (by decide) (by omega) (fun G hM => ?_)
    refine s_iinc dX9_game_59 rfl (s_inc1 _) (by decide) rfl ?_
    refine q_goto (tgt := 38) dX9_game_62 (by decide) ?_
    exact ih (c + 1) G (by omega) (by omega) (by rw [← md_fill_s]; exact hM)

set_option maxHeartbeats 4000000 in
set_option maxRecDepth 100000 in
theorem c_X9_game {T : q_T} {m : Nat} {G0 G : q_G} {I : md_I} {A : md_A} {sz t : Nat} (hM : Mod T m G0 I A G) (hI : Inv t I A) (x : Int32) : q_C T mX9_game 2 43 0 0 [.ref m, .int x] G sz (fun v G' sz' => sz = sz' ∧ ∃ (I' : md_I) (A' : md_A), Mod T m G0 I' A' G' ∧ ∃ (z : Int32) (I2 : md_I) (A2 : md_A), v = some (.int z) ∧ D_game I A x z I2 A2 ∧ Per I2 I' A2 A') := by
  refine q_C.of (by decide) rfl (by simp [Value.category]) (Nat.le_of_ble_eq_true rfl) ?_
  refine q_aload_n dX9_game_0 rfl rfl ?_
  refine q_iload_n dX9_game_1 rfl ?_
  refine q_iv (As := [_]) dX9_game_2 ml_X9_100 mt_X9_isPuzzle mi_X9_isPuzzle se_X9_isPuzzle hM.1 rfl rfl (Nat.le_of_ble_eq_true rfl) (Nat.le_of_ble_eq_true rfl) (Nat.zero_le _) (Nat.zero_le _) (Nat.le_of_ble_eq_true rfl) (q_C.mono (c_X9_isPuzzle hM _) (fun v G1 sz1 hq => ?_))
  obtain ⟨⟨⟨p, hp, rfl⟩, rfl⟩ | ⟨hV2, rfl⟩, rfl, rfl⟩ := hq
  · have hz := (hI.2.1 p hp).1
    have hp30 := hI.1
    refine q_if_eq (tgt := 17) dX9_game_5 (by decide) (fun h => absurd h (by decide)) (fun _ => ?_)
    refine q_aload_n dX9_game_8 rfl rfl ?_
    refine q_mgi 7 dX9_game_9 hM fl_X9_213 (by decide) (fun b9 => ?_)
    refine q_bipush (v := nI 20) dX9_game_12 (by decide) ?_
    refine n_icmp_ne (tgt := 19) dX9_game_14 (by decide) (by omega) (by omega) (fun c14 => ?_) (fun c14 => ?_)
    · have hg20 := hI.2.2.2.2.1
      refine q_aload_n dX9_game_19 rfl rfl ?_
      refine q_mga 26 19 dX9_game_20 hM fl_X9_65 rfl ?_
      refine q_aload_n dX9_game_23 rfl rfl ?_
      refine q_mgi 7 dX9_game_24 hM fl_X9_213 (by decide) (fun b24 => ?_)
      refine q_iload_n dX9_game_27 rfl ?_
      refine q_mst (k := 19) dX9_game_28 hM (by decide) rfl (show _ < (20 : Nat) by omega) rfl (by omega) (fun G hM => ?_)
      refine q_aload_n dX9_game_29 rfl rfl ?_
      refine q_mga 4 4 dX9_game_30 hM fl_X9_19 rfl ?_
      refine q_iload_n dX9_game_33 rfl ?_
      refine q_iconst (v := nI 1) dX9_game_34 (by decide) ?_
      refine q_mstZ dX9_game_35 hM rfl (by omega) (by omega) (fun G hM => ?_)
      refine q_iconst (v := nI 0) dX9_game_36 (by decide) ?_
      refine s_istore_n dX9_game_37 (by decide) rfl ?_
      refine l_X9_game (I := I) (by omega) (fun G hM => ?_) 0 G (Nat.zero_le _) (by rw [md_fill_0]; exact hM)
      refine q_aload_n dX9_game_65 rfl rfl ?_
      refine q_dup dX9_game_66 rfl ?_
      refine q_mgi 7 dX9_game_67 hM fl_X9_213 (by decide) (fun b67 => ?_)
      refine q_iconst (v := nI 1) dX9_game_70 (by decide) ?_
      refine q_iadd dX9_game_71 (nI_add _ _) ?_
      refine q_mpi 7 dX9_game_72 hM fl_X9_213 fp_X9_213 (by decide) rfl (by omega) (fun G hM => ?_)
      refine q_aload_n dX9_game_75 rfl rfl ?_
      refine q_mgi 7 dX9_game_76 hM fl_X9_213 (by decide) (fun b76 => ?_)
      refine q_iconst (v := nI 1) dX9_game_79 (by decide) ?_
      refine q_isub dX9_game_80 (show nI (I 7 + 1) - nI 1 = nI (I 7) from pk_sub (by omega)) ?_
      exact q_ireturn dX9_game_81 rfl rfl ⟨rfl, _, _, hM, _, _, _, rfl, Or.inl ⟨p, hp, rfl, c14, rfl, rfl, rfl⟩, Per.rfl'⟩
    · refine q_iconst (v := -1) dX9_game_17 (by decide) ?_
      exact q_ireturn dX9_game_18 rfl rfl ⟨rfl, I, A, hM, _, I, A, rfl, Or.inr ⟨fun ⟨p, h1, h2, h3⟩ => h3 c14, rfl, rfl, rfl⟩, Per.rfl'⟩
  · refine q_if_eq (tgt := 17) dX9_game_5 (by decide) (fun _ => ?_) (fun h => absurd h (by decide))
    refine q_iconst (v := -1) dX9_game_17 (by decide) ?_
    exact q_ireturn dX9_game_18 rfl rfl ⟨rfl, I, A, hM, _, I, A, rfl, Or.inr ⟨fun ⟨p, h1, h2, h3⟩ => hV2 ⟨p, h1, h2⟩, rfl, rfl, rfl⟩, Per.rfl'⟩
