theorem Rep.adv {T : q_T} {X : Nat} {I : md_I} {A : md_A} {G G1 : q_G} {sz : Nat} {pa gq lv O : Nat → Nat} {m vb : Nat} {S : Nat → Nat} (R : Rep T X I A G sz pa gq lv O m vb) (h : Adv T X G G1 S) : Rep T X I A G1 sz pa gq lv O m vb := R.work (fun b hb => h.2.2 b ⟨hb.1, hb.2.1, hb.2.2.1⟩) ⟨S, h.2.1⟩ h.1 (R.2.2.2.2.2.2.2.2.1.imp (fun _ hW => (h.2.2 _ (by omega)).trans hW))
theorem ne_m1 {l : Nat} (h : l ≤ 100) : ¬ ((-2 : Int32) - nI l = -1) := fun e => by
  have h1 := congrArg Int32.toInt e
  have h2 : ((-2 : Int32) - nI l).toInt = -2 - (l : Int) := by
    rw [Int32.toInt_sub, nI_toInt (by omega)]
    show Int.bmod (-2 - (l : Int)) (2 ^ 32) = _
    rw [Int.bmod_eq_of_le (by omega) (by omega)]
  rw [h2] at h1
  have h3 : (-1 : Int32).toInt = -1 := by decide
  omega
theorem h23_geq {A : md_A} {g v q : Nat} (hne : q ≠ g) : GEq A (md_st A 23 g v) q := by
  refine ⟨by rw [md_st_k _ (by decide)], by rw [md_st_k _ (by decide)], by rw [md_st_k _ (by decide)], by rw [md_st_n _ hne], by rw [md_st_k _ (by decide)], by rw [md_st_k _ (by decide)], fun i hi => by rw [md_st_k _ (by decide)], fun i hi => ⟨by rw [md_st_k _ (by decide)], by rw [md_st_k _ (by decide)], by rw [md_st_k _ (by decide)]⟩⟩

set_option maxHeartbeats 4000000 in
set_option maxRecDepth 100000 in
theorem c_X8_hint {T : q_T} {G0 : q_G} {sz X t : Nat} {I : md_I} {A : md_A} {pa gq lv O : Nat → Nat} {m vb : Nat} (R : Rep T X I A G0 sz pa gq lv O m vb) (hI : Inv t I A) (x : Int32) : q_C T mX8_hint 3 75 0 0 [.ref X, .int x] G0 sz (fun v G' sz' => (sz ≤ sz' ∧ ∀ b, X + 18 ≤ b → b < X + 46 → G' b = G0 b) ∧ ∃ z I2 A2, v = some (.int z) ∧ D_hint I A x z I2 A2 ∧ RepX T X I2 A2 G' sz') := by
  refine q_C.of (by decide) rfl (by simp [Value.category]) (Nat.le_of_ble_eq_true rfl) ?_
  obtain ⟨hgeo, hX, hcP, hcG, hcan, hscr, hsht, hscn, hstl, hsea, hpic, hlvs, hgra, hgs1, hgs2, hPz, hGm⟩ := id R
  have hI0 := hI.1
  have hI7 := hI.2.2.2.2.1
  have hgX := hgeo.1
  refine q_aload_n dX8_hint_0 rfl rfl ?_
  refine q_iload_n dX8_hint_1 rfl ?_
  refine q_iv (As := [_]) dX8_hint_2 ml_X8_208 mt_X8_gameAt mi_X8_gameAt se_X8_gameAt hX rfl rfl (Nat.le_of_ble_eq_true rfl) (Nat.le_of_ble_eq_true rfl) (Nat.zero_le _) (Nat.zero_le _) (Nat.le_of_ble_eq_true rfl) (q_C.mono (c_X8_gameAt hX hcG hI.2.2.2.2.1 _) (fun v G1 sz1 hq => ?_))
  obtain ⟨⟨g, hg, rfl, rfl⟩ | ⟨hno, rfl⟩, rfl, rfl⟩ := hq
  · obtain ⟨hp, gM, gC, gB, gA, hGam, hgm, hgc⟩ := hGm g hg
    obtain ⟨hgo, hgM, hgC, hgB, hgA⟩ := id hGam
    have hgi := hI.2.2.2.2.2.1 g hg
    have hz := (hI.2.1 (A 19 g) hp).1
    obtain ⟨hPl, Fd, hd, hFd⟩ := hPz (A 19 g) hp
    have hu := hPl.1
    obtain ⟨fL, hls, hfL⟩ := hPl.2.1
    have hwh := pz_size hz
    have hb10 := hz.2
    refine s_astore_n dX8_hint_5 (by decide) rfl rfl ?_
    refine q_aload_n dX8_hint_6 rfl rfl ?_
    refine q_ifnonnull (tgt := 12) dX8_hint_7 (by decide) rfl (fun _ => ?_) (fun h => by cases h)
    refine q_aload_n dX8_hint_12 rfl rfl ?_
    refine q_aload_n dX8_hint_13 rfl rfl ?_
    have hgg := hgeo.2.2.2.1 g hg
    refine q_iv (As := [_]) dX8_hint_14 ml_X8_228 mt_X8_adviceFor mi_X8_adviceFor se_X8_adviceFor hX rfl rfl (Nat.le_of_ble_eq_true rfl) (Nat.le_of_ble_eq_true rfl) (Nat.zero_le _) (Nat.zero_le _) (Nat.le_of_ble_eq_true rfl) (q_C.mono (c_X8_adviceFor R hI hg) (fun v G sz1 hq => ?_))
    obtain ⟨rfl, ⟨S1, hA⟩, z, rfl, hz3⟩ := hq
    have hgo := (hA.2.2 _ (by omega)).trans hgo
    rcases hz3 with ⟨l, hl, h1, h2, rfl⟩ | ⟨l, k, hl, h1, h2, h3, h4, h5, rfl⟩ | ⟨h1, rfl⟩
    · have hgg1 := hgg
      refine s_istore_n dX8_hint_17 (by decide) rfl ?_
      refine q_iload_n dX8_hint_18 rfl ?_
      refine q_iconst (v := -1) dX8_hint_19 (by decide) ?_
      refine q_icmp_eq (tgt := 33) dX8_hint_20 (by decide) (fun c20 => absurd c20 (ne_m1 (by omega))) (fun c20 => ?_)
      refine q_aload_n dX8_hint_23 rfl rfl ?_
      refine q_dup dX8_hint_24 rfl ?_
      refine q_get dX8_hint_25 fl_X8_232 hgo rfl ?_
      refine q_iconst (v := nI 1) dX8_hint_28 (by decide) ?_
      refine q_iadd dX8_hint_29 (nI_add _ _) ?_
      refine w_put (fs2 := gm_ob (gq g) (A 19 g) (pa (A 19 g)) (A 21 g) (A 22 g) (A 23 g + 1)) dX8_hint_30 fl_X8_232 fp_X8_232 hgo (Nat.le_of_ble_eq_true rfl) rfl rfl rfl (fun G hgo hN => ?_)
      refine q_iload_n dX8_hint_33 rfl ?_
      exact q_ireturn dX8_hint_34 rfl rfl ⟨⟨Nat.le_refl _, fun b b1 b2 => (hN b (by omega)).trans (hA.2.2 b (by omega))⟩, _, I, md_st A 23 g (A 23 g + 1), rfl, ⟨rfl, Or.inl ⟨g, hg, rfl, Or.inl ⟨l, hl, h1, h2, rfl, rfl⟩⟩⟩, (R.adv hA).gm hg (fun i hi => md_st_k _ (by omega)) (fun q hq hne => h23_geq hne) (fun b hb => hN b (by omega)) ⟨gM, gC, gB, gA, by rw [md_st_k _ (show (19 : Nat) ≠ 23 by decide), md_st_k _ (show (1 : Nat) ≠ 23 by decide), md_st_k _ (show (2 : Nat) ≠ 23 by decide), md_st_k _ (show (21 : Nat) ≠ 23 by decide), md_st_k _ (show (22 : Nat) ≠ 23 by decide), md_st_s]; exact ⟨hgo, (hN _ (by omega)).trans ((hA.2.2 _ (by omega)).trans hGam.2.1), (hN _ (by omega)).trans ((hA.2.2 _ (by omega)).trans hGam.2.2.1), (hN _ (by omega)).trans ((hA.2.2 _ (by omega)).trans hGam.2.2.2.1), (hN _ (by omega)).trans ((hA.2.2 _ (by omega)).trans hGam.2.2.2.2)⟩, by rw [md_st_k _ (show (19 : Nat) ≠ 23 by decide), md_st_k _ (show (1 : Nat) ≠ 23 by decide), md_st_k _ (show (2 : Nat) ≠ 23 by decide), md_st_k _ (show (20 : Nat) ≠ 23 by decide)]; exact hgm, by rw [md_st_k _ (show (22 : Nat) ≠ 23 by decide), md_st_k _ (show (24 : Nat) ≠ 23 by decide), md_st_k _ (show (25 : Nat) ≠ 23 by decide), md_st_k _ (show (26 : Nat) ≠ 23 by decide)]; exact hgc⟩⟩
    · have hcl := pz_cell_lt hz hl h3
      have hlg : pz_log (pz_K A (A 19 g) l (gm_S A g) k) ≤ 3 := pz_log_le _
      refine s_istore_n dX8_hint_17 (by decide) rfl ?_
      refine q_iload_n dX8_hint_18 rfl ?_
      refine q_iconst (v := -1) dX8_hint_19 (by decide) ?_
      refine q_icmp_eq (tgt := 33) dX8_hint_20 (by decide) (fun c20 => absurd c20 (nI_nm1 (by omega))) (fun c20 => ?_)
      refine q_aload_n dX8_hint_23 rfl rfl ?_
      refine q_dup dX8_hint_24 rfl ?_
      refine q_get dX8_hint_25 fl_X8_232 hgo rfl ?_
      refine q_iconst (v := nI 1) dX8_hint_28 (by decide) ?_
      refine q_iadd dX8_hint_29 (nI_add _ _) ?_
      refine w_put (fs2 := gm_ob (gq g) (A 19 g) (pa (A 19 g)) (A 21 g) (A 22 g) (A 23 g + 1)) dX8_hint_30 fl_X8_232 fp_X8_232 hgo (Nat.le_of_ble_eq_true rfl) rfl rfl rfl (fun G hgo hN => ?_)
      refine q_iload_n dX8_hint_33 rfl ?_
      exact q_ireturn dX8_hint_34 rfl rfl ⟨⟨Nat.le_refl _, fun b b1 b2 => (hN b (by omega)).trans (hA.2.2 b (by omega))⟩, _, I, md_st A 23 g (A 23 g + 1), rfl, ⟨rfl, Or.inl ⟨g, hg, rfl, Or.inr (Or.inl ⟨l, k, hl, h1, h2, h3, h4, h5, rfl, rfl⟩)⟩⟩, (R.adv hA).gm hg (fun i hi => md_st_k _ (by omega)) (fun q hq hne => h23_geq hne) (fun b hb => hN b (by omega)) ⟨gM, gC, gB, gA, by rw [md_st_k _ (show (19 : Nat) ≠ 23 by decide), md_st_k _ (show (1 : Nat) ≠ 23 by decide), md_st_k _ (show (2 : Nat) ≠ 23 by decide), md_st_k _ (show (21 : Nat) ≠ 23 by decide), md_st_k _ (show (22 : Nat) ≠ 23 by decide), md_st_s]; exact ⟨hgo, (hN _ (by omega)).trans ((hA.2.2 _ (by omega)).trans hGam.2.1), (hN _ (by omega)).trans ((hA.2.2 _ (by omega)).trans hGam.2.2.1), (hN _ (by omega)).trans ((hA.2.2 _ (by omega)).trans hGam.2.2.2.1), (hN _ (by omega)).trans ((hA.2.2 _ (by omega)).trans hGam.2.2.2.2)⟩, by rw [md_st_k _ (show (19 : Nat) ≠ 23 by decide), md_st_k _ (show (1 : Nat) ≠ 23 by decide), md_st_k _ (show (2 : Nat) ≠ 23 by decide), md_st_k _ (show (20 : Nat) ≠ 23 by decide)]; exact hgm, by rw [md_st_k _ (show (22 : Nat) ≠ 23 by decide), md_st_k _ (show (24 : Nat) ≠ 23 by decide), md_st_k _ (show (25 : Nat) ≠ 23 by decide), md_st_k _ (show (26 : Nat) ≠ 23 by decide)]; exact hgc⟩⟩
    · have hgg1 := hgg
      refine s_istore_n dX8_hint_17 (by decide) rfl ?_
      refine q_iload_n dX8_hint_18 rfl ?_
      refine q_iconst (v := -1) dX8_hint_19 (by decide) ?_
      refine q_icmp_eq (tgt := 33) dX8_hint_20 (by decide) (fun _ => ?_) (fun h => absurd h (by decide))
      refine q_iload_n dX8_hint_33 rfl ?_
      exact q_ireturn dX8_hint_34 rfl rfl ⟨⟨Nat.le_refl _, fun b b1 b2 => hA.2.2 b (by omega)⟩, _, I, A, rfl, ⟨rfl, Or.inl ⟨g, hg, rfl, Or.inr (Or.inr ⟨h1, rfl, rfl⟩)⟩⟩, ⟨pa, gq, lv, O, m, vb, R.adv hA⟩⟩
  · refine s_astore_n dX8_hint_5 (by decide) rfl rfl ?_
    refine q_aload_n dX8_hint_6 rfl rfl ?_
    refine q_ifnonnull (tgt := 12) dX8_hint_7 (by decide) rfl (fun h => absurd rfl h) (fun _ => ?_)
    refine q_iconst (v := -1) dX8_hint_10 (by decide) ?_
    exact q_ireturn dX8_hint_11 rfl rfl ⟨⟨Nat.le_refl _, fun _ _ _ => rfl⟩, _, I, A, rfl, ⟨rfl, Or.inr ⟨fun ⟨g', h1, h2⟩ => hno ⟨g', h1, h2⟩, rfl, rfl⟩⟩, ⟨pa, gq, lv, O, m, vb, R⟩⟩

theorem ln_sum_b {f : Nat → Nat} (h : ∀ x, f x ≤ 1) : ∀ n, ln_sum f 0 n ≤ n
  | 0 => Nat.le_refl _
  | n + 1 => by
    rw [ln_sum_snoc]
    have := ln_sum_b h n
    have := h (0 + n)
    omega

set_option maxHeartbeats 4000000 in
set_option maxRecDepth 100000 in
theorem c_X8_state {T : q_T} {G0 : q_G} {sz X t : Nat} {I : md_I} {A : md_A} {pa gq lv O : Nat → Nat} {m vb : Nat} (R : Rep T X I A G0 sz pa gq lv O m vb) (hI : Inv t I A) (x y : Int32) : q_C T mX8_state 3 74 0 0 [.ref X, .int x, .int y] G0 sz (fun v G' sz' => (sz ≤ sz' ∧ ∀ b, X + 18 ≤ b → b < X + 46 → G' b = G0 b) ∧ ∃ z I2 A2, v = some (.int z) ∧ (I2 = I ∧ A2 = A ∧ D_state I A x y z) ∧ RepX T X I2 A2 G' sz') := by
  refine q_C.of (by decide) rfl (by simp [Value.category]) (Nat.le_of_ble_eq_true rfl) ?_
  obtain ⟨hgeo, hX, hcP, hcG, hcan, hscr, hsht, hscn, hstl, hsea, hpic, hlvs, hgra, hgs1, hgs2, hPz, hGm⟩ := id R
  have hI0 := hI.1
  have hI7 := hI.2.2.2.2.1
  have hgX := hgeo.1
  refine q_aload_n dX8_state_0 rfl rfl ?_
  refine q_iload_n dX8_state_1 rfl ?_
  refine q_iv (As := [_]) dX8_state_2 ml_X8_208 mt_X8_gameAt mi_X8_gameAt se_X8_gameAt hX rfl rfl (Nat.le_of_ble_eq_true rfl) (Nat.le_of_ble_eq_true rfl) (Nat.zero_le _) (Nat.zero_le _) (Nat.le_of_ble_eq_true rfl) (q_C.mono (c_X8_gameAt hX hcG hI.2.2.2.2.1 _) (fun v G1 sz1 hq => ?_))
  obtain ⟨⟨g, hg, rfl, rfl⟩ | ⟨hno, rfl⟩, rfl, rfl⟩ := hq
  · obtain ⟨hp, gM, gC, gB, gA, hGam, hgm, hgc⟩ := hGm g hg
    obtain ⟨hgo, hgM, hgC, hgB, hgA⟩ := id hGam
    have hgi := hI.2.2.2.2.2.1 g hg
    have hz := (hI.2.1 (A 19 g) hp).1
    obtain ⟨hPl, Fd, hd, hFd⟩ := hPz (A 19 g) hp
    have hu := hPl.1
    obtain ⟨fL, hls, hfL⟩ := hPl.2.1
    have hwh := pz_size hz
    have hb10 := hz.2
    refine s_astore_n dX8_state_5 (by decide) rfl rfl ?_
    refine q_aload_n dX8_state_6 rfl rfl ?_
    refine q_ifnonnull (tgt := 12) dX8_state_7 (by decide) rfl (fun _ => ?_) (fun h => by cases h)
    refine q_iload_n dX8_state_12 rfl ?_
    rcases q_sw y 6 (by omega) with ⟨k, hk, rfl⟩ | ⟨hnoy, hout⟩
    · rcases (show k = 0 ∨ k = 1 ∨ k = 2 ∨ k = 3 ∨ k = 4 ∨ k = 5 ∨ k = 6 by omega) with rfl | rfl | rfl | rfl | rfl | rfl | rfl
      · refine q_tableIn (off := 43) (tgt := 56) dX8_state_13 (by decide) (by decide) (by decide) (by decide) ?_
        refine q_aload_n dX8_state_56 rfl rfl ?_
        refine q_get dX8_state_57 fl_X8_235 hgo rfl ?_
        exact q_ireturn dX8_state_60 rfl rfl ⟨⟨Nat.le_refl _, fun _ _ _ => rfl⟩, _, I, A, rfl, ⟨rfl, rfl, Or.inl ⟨g, hg, rfl, Or.inl (⟨rfl, rfl⟩)⟩⟩, ⟨pa, gq, lv, O, m, vb, R⟩⟩
      · refine q_tableIn (off := 48) (tgt := 61) dX8_state_13 (by decide) (by decide) (by decide) (by decide) ?_
        refine q_aload_n dX8_state_61 rfl rfl ?_
        refine q_iv (As := []) dX8_state_62 ml_X8_238 mt_X0_markedCells mi_X0_markedCells se_X0_markedCells hgo rfl rfl (Nat.le_of_ble_eq_true rfl) (Nat.le_of_ble_eq_true rfl) (Nat.zero_le _) (Nat.zero_le _) (Nat.le_of_ble_eq_true rfl) (q_C.mono (c_X0_markedCells hgo hgM hwh (fun i hi => by rw [hgm i hi]; have := hgi.2.2.2.2.2.1 i hi; omega)) (fun v G1 sz1 hq => ?_))
        obtain ⟨rfl, rfl, rfl⟩ := hq
        have hms : ln_sum (fun i => if gM i = 0 then 0 else 1) 0 (A 1 (A 19 g) * A 2 (A 19 g)) = gm_marked A g := ln_sum_congr _ _ (fun x _ hx => by rw [hgm x (by omega)])
        rw [hms]
        exact q_ireturn dX8_state_65 rfl rfl ⟨⟨Nat.le_refl _, fun _ _ _ => rfl⟩, _, I, A, rfl, ⟨rfl, rfl, Or.inl ⟨g, hg, rfl, Or.inr (Or.inl (⟨rfl, rfl⟩))⟩⟩, ⟨pa, gq, lv, O, m, vb, R⟩⟩
      · refine q_tableIn (off := 53) (tgt := 66) dX8_state_13 (by decide) (by decide) (by decide) (by decide) ?_
        refine q_aload_n dX8_state_66 rfl rfl ?_
        refine q_aload_n dX8_state_67 rfl rfl ?_
        have hgg := hgeo.2.2.2.1 g hg
        refine q_iv (As := [_]) dX8_state_68 ml_X8_241 mt_X8_brokenLines mi_X8_brokenLines se_X8_brokenLines hX rfl rfl (Nat.le_of_ble_eq_true rfl) (Nat.le_of_ble_eq_true rfl) (Nat.zero_le _) (Nat.zero_le _) (Nat.le_of_ble_eq_true rfl) (q_C.mono (c_X8_brokenLines R hI hg) (fun v G sz1 hq => ?_))
        obtain ⟨rfl, rfl, S1, hA⟩ := hq
        exact q_ireturn dX8_state_71 rfl rfl ⟨⟨Nat.le_refl _, fun b b1 b2 => hA.2.2 b (by omega)⟩, _, I, A, rfl, ⟨rfl, rfl, Or.inl ⟨g, hg, rfl, Or.inr (Or.inr (Or.inl (⟨rfl, rfl⟩)))⟩⟩, ⟨pa, gq, lv, O, m, vb, R.adv hA⟩⟩
      · refine q_tableIn (off := 59) (tgt := 72) dX8_state_13 (by decide) (by decide) (by decide) (by decide) ?_
        refine q_aload_n dX8_state_72 rfl rfl ?_
        refine q_iv (As := []) dX8_state_73 ml_X8_238 mt_X0_markedCells mi_X0_markedCells se_X0_markedCells hgo rfl rfl (Nat.le_of_ble_eq_true rfl) (Nat.le_of_ble_eq_true rfl) (Nat.zero_le _) (Nat.zero_le _) (Nat.le_of_ble_eq_true rfl) (q_C.mono (c_X0_markedCells hgo hgM hwh (fun i hi => by rw [hgm i hi]; have := hgi.2.2.2.2.2.1 i hi; omega)) (fun v G1 sz1 hq => ?_))
        obtain ⟨rfl, rfl, rfl⟩ := hq
        have hms : ln_sum (fun i => if gM i = 0 then 0 else 1) 0 (A 1 (A 19 g) * A 2 (A 19 g)) = gm_marked A g := ln_sum_congr _ _ (fun x _ hx => by rw [hgm x (by omega)])
        rw [hms]
        refine q_aload_n dX8_state_76 rfl rfl ?_
        refine q_get dX8_state_77 fl_X8_212 hgo rfl ?_
        refine q_get dX8_state_80 fl_X8_151 hu rfl ?_
        have hmb : gm_marked A g ≤ A 1 (A 19 g) * A 2 (A 19 g) := ln_sum_b (fun x => by split <;> omega) _
        refine n_icmp_ne (tgt := 98) dX8_state_83 (by decide) (by omega) (by omega) (fun c83 => ?_) (fun c83 => ?_)
        · refine q_iconst (v := nI 0) dX8_state_98 (by decide) ?_
          exact q_ireturn dX8_state_99 rfl rfl ⟨⟨Nat.le_refl _, fun _ _ _ => rfl⟩, _, I, A, rfl, ⟨rfl, rfl, Or.inl ⟨g, hg, rfl, Or.inr (Or.inr (Or.inr (Or.inl (⟨rfl, by rw [if_neg (fun h => c83 h.1)]⟩))))⟩⟩, ⟨pa, gq, lv, O, m, vb, R⟩⟩
        · refine q_aload_n dX8_state_86 rfl rfl ?_
          refine q_aload_n dX8_state_87 rfl rfl ?_
          have hgg := hgeo.2.2.2.1 g hg
          refine q_iv (As := [_]) dX8_state_88 ml_X8_241 mt_X8_brokenLines mi_X8_brokenLines se_X8_brokenLines hX rfl rfl (Nat.le_of_ble_eq_true rfl) (Nat.le_of_ble_eq_true rfl) (Nat.zero_le _) (Nat.zero_le _) (Nat.le_of_ble_eq_true rfl) (q_C.mono (c_X8_brokenLines R hI hg) (fun v G sz1 hq => ?_))
          obtain ⟨rfl, rfl, S1, hA⟩ := hq
          have hbb : gm_broken A g ≤ A 1 (A 19 g) + A 2 (A 19 g) := ln_sum_b (fun x => by split <;> omega) _
          refine n_if_ne (tgt := 98) dX8_state_91 (by decide) (by omega) (fun c91 => ?_) (fun c91 => ?_)
          · refine q_iconst (v := nI 0) dX8_state_98 (by decide) ?_
            exact q_ireturn dX8_state_99 rfl rfl ⟨⟨Nat.le_refl _, fun b b1 b2 => hA.2.2 b (by omega)⟩, _, I, A, rfl, ⟨rfl, rfl, Or.inl ⟨g, hg, rfl, Or.inr (Or.inr (Or.inr (Or.inl (⟨rfl, by rw [if_neg (fun h => c91 h.2)]⟩))))⟩⟩, ⟨pa, gq, lv, O, m, vb, R.adv hA⟩⟩
          · refine q_iconst (v := nI 1) dX8_state_94 (by decide) ?_
            refine q_goto (tgt := 99) dX8_state_95 (by decide) ?_
            exact q_ireturn dX8_state_99 rfl rfl ⟨⟨Nat.le_refl _, fun b b1 b2 => hA.2.2 b (by omega)⟩, _, I, A, rfl, ⟨rfl, rfl, Or.inl ⟨g, hg, rfl, Or.inr (Or.inr (Or.inr (Or.inl (⟨rfl, by rw [if_pos ⟨c83, c91⟩]⟩))))⟩⟩, ⟨pa, gq, lv, O, m, vb, R.adv hA⟩⟩
      · refine q_tableIn (off := 87) (tgt := 100) dX8_state_13 (by decide) (by decide) (by decide) (by decide) ?_
        refine q_aload_n dX8_state_100 rfl rfl ?_
        refine q_get dX8_state_101 fl_X8_244 hgo rfl ?_
        exact q_ireturn dX8_state_104 rfl rfl ⟨⟨Nat.le_refl _, fun _ _ _ => rfl⟩, _, I, A, rfl, ⟨rfl, rfl, Or.inl ⟨g, hg, rfl, Or.inr (Or.inr (Or.inr (Or.inr (Or.inl (⟨rfl, rfl⟩)))))⟩⟩, ⟨pa, gq, lv, O, m, vb, R⟩⟩
      · refine q_tableIn (off := 92) (tgt := 105) dX8_state_13 (by decide) (by decide) (by decide) (by decide) ?_
        refine q_aload_n dX8_state_105 rfl rfl ?_
        refine q_get dX8_state_106 fl_X8_247 hgo rfl ?_
        refine q_aload_n dX8_state_109 rfl rfl ?_
        refine q_get dX8_state_110 fl_X8_244 hgo rfl ?_
        refine q_isub dX8_state_113 (pk_sub (by omega)) ?_
        exact q_ireturn dX8_state_114 rfl rfl ⟨⟨Nat.le_refl _, fun _ _ _ => rfl⟩, _, I, A, rfl, ⟨rfl, rfl, Or.inl ⟨g, hg, rfl, Or.inr (Or.inr (Or.inr (Or.inr (Or.inr (Or.inl (⟨rfl, rfl⟩))))))⟩⟩, ⟨pa, gq, lv, O, m, vb, R⟩⟩
      · refine q_tableIn (off := 102) (tgt := 115) dX8_state_13 (by decide) (by decide) (by decide) (by decide) ?_
        refine q_aload_n dX8_state_115 rfl rfl ?_
        refine q_get dX8_state_116 fl_X8_232 hgo rfl ?_
        exact q_ireturn dX8_state_119 rfl rfl ⟨⟨Nat.le_refl _, fun _ _ _ => rfl⟩, _, I, A, rfl, ⟨rfl, rfl, Or.inl ⟨g, hg, rfl, Or.inr (Or.inr (Or.inr (Or.inr (Or.inr (Or.inr (Or.inl (⟨rfl, rfl⟩)))))))⟩⟩, ⟨pa, gq, lv, O, m, vb, R⟩⟩
    · refine q_tableOut (tgt := 120) dX8_state_13 hout (by decide) ?_
      refine q_iconst (v := -1) dX8_state_120 (by decide) ?_
      exact q_ireturn dX8_state_121 rfl rfl ⟨⟨Nat.le_refl _, fun _ _ _ => rfl⟩, _, I, A, rfl, ⟨rfl, rfl, Or.inl ⟨g, hg, rfl, Or.inr (Or.inr (Or.inr (Or.inr (Or.inr (Or.inr (Or.inr (⟨hnoy, rfl⟩)))))))⟩⟩, ⟨pa, gq, lv, O, m, vb, R⟩⟩
  · refine s_astore_n dX8_state_5 (by decide) rfl rfl ?_
    refine q_aload_n dX8_state_6 rfl rfl ?_
    refine q_ifnonnull (tgt := 12) dX8_state_7 (by decide) rfl (fun h => absurd rfl h) (fun _ => ?_)
    refine q_iconst (v := -1) dX8_state_10 (by decide) ?_
    exact q_ireturn dX8_state_11 rfl rfl ⟨⟨Nat.le_refl _, fun _ _ _ => rfl⟩, _, I, A, rfl, ⟨rfl, rfl, Or.inr ⟨fun ⟨g', h1, h2⟩ => hno ⟨g', h1, h2⟩, rfl⟩⟩, ⟨pa, gq, lv, O, m, vb, R⟩⟩
