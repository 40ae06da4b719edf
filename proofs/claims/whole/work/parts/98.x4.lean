set_option maxHeartbeats 4000000 in
set_option maxRecDepth 100000 in
theorem c_X8_ways {T : q_T} {G0 : q_G} {sz X t : Nat} {I : md_I} {A : md_A} {pa gq lv O : Nat → Nat} {m vb : Nat} (R : Rep T X I A G0 sz pa gq lv O m vb) (hI : Inv t I A) (x y : Int32) : q_C T mX8_ways 2 48 0 0 [.ref X, .int x, .int y] G0 sz (fun v G' sz' => (sz ≤ sz' ∧ ∀ b, X + 18 ≤ b → b < X + 46 → G' b = G0 b) ∧ ∃ z I2 A2, v = some (.int z) ∧ (I2 = I ∧ A2 = A ∧ D_ways I A x y z) ∧ RepX T X I2 A2 G' sz') := by
  refine q_C.of (by decide) rfl (by simp [Value.category]) (Nat.le_of_ble_eq_true rfl) ?_
  obtain ⟨hgeo, hX, hcP, hcG, hcan, hscr, hsht, hscn, hstl, hsea, hpic, hlvs, hgra, hgs1, hgs2, hPz, hGm⟩ := id R
  have hI0 := hI.1
  have hI7 := hI.2.2.2.2.1
  have hgX := hgeo.1
  refine q_aload_n dX8_ways_0 rfl rfl ?_
  refine q_iload_n dX8_ways_1 rfl ?_
  refine q_iv (As := [_]) dX8_ways_2 ml_X8_85 mt_X8_puzzleAt mi_X8_puzzleAt se_X8_puzzleAt hX rfl rfl (Nat.le_of_ble_eq_true rfl) (Nat.le_of_ble_eq_true rfl) (Nat.zero_le _) (Nat.zero_le _) (Nat.le_of_ble_eq_true rfl) (q_C.mono (c_X8_puzzleAt hX hcP hI.1 _) (fun v G1 sz1 hq => ?_))
  obtain ⟨⟨p, hp, rfl, rfl⟩ | ⟨hno, rfl⟩, rfl, rfl⟩ := hq
  · have hz := (hI.2.1 p hp).1
    obtain ⟨hPl, Fd, hd, hFd⟩ := hPz p hp
    have hu := hPl.1
    obtain ⟨fL, hls, hfL⟩ := hPl.2.1
    have hwh := pz_size hz
    have hb10 := hz.2
    refine s_astore_n dX8_ways_5 (by decide) rfl rfl ?_
    refine q_aload_n dX8_ways_6 rfl rfl ?_
    refine q_iload_n dX8_ways_7 rfl ?_
    refine q_is (As := [_, _]) dX8_ways_8 ml_X8_89 mt_X8_lineAt ms_X8_lineAt rfl (Nat.le_of_ble_eq_true rfl) (Nat.le_of_ble_eq_true rfl) (Nat.zero_le _) (Nat.zero_le _) (Nat.le_of_ble_eq_true rfl) (q_C.mono (c_X8_lineAt hu hls hfL (by omega) _) (fun v G1 sz1 hq => ?_))
    obtain ⟨⟨ln, hln, rfl, rfl⟩ | ⟨hnol, rfl⟩, rfl, rfl⟩ := hq
    · have hLn := hPl.2.2 ln hln
      obtain ⟨gg, gj, ge, lC, lL, lP, hl, hlC, hlL, hlP, hlc, hlb, hlr⟩ := id hLn
      have hl10 := hlr.2
      have hnS := (pl_p_S (c := pz_c A p ln) (l := pz_l A p ln) (n := pz_n A p ln) hlr.bd.2.2.1).1
      refine s_astore dX8_ways_11 (by decide) rfl rfl ?_
      refine q_aload_n dX8_ways_13 rfl rfl ?_
      refine q_ifnull (tgt := 22) dX8_ways_14 (by decide) rfl (fun h => by cases h) (fun _ => ?_)
      refine q_aload dX8_ways_17 rfl rfl ?_
      refine q_ifnonnull (tgt := 26) dX8_ways_19 (by decide) rfl (fun _ => ?_) (fun h => by cases h)
      refine q_aload_n dX8_ways_26 rfl rfl ?_
      refine q_get dX8_ways_27 fl_X8_38 hX rfl ?_
      refine q_aload dX8_ways_30 rfl rfl ?_
      refine q_aload_n dX8_ways_32 rfl rfl ?_
      refine q_get dX8_ways_33 fl_X8_122 hu rfl ?_
      have hgp := (hgeo.2.2.1 p hp)
      have h16 : Ps A p Fd := fun a ha => by rw [hFd a ha]; exact hI.ps hp a ha
      refine q_iv (As := [_, _]) dX8_ways_36 ml_X8_148 mt_X5_countFillings mi_X5_countFillings se_X5_countFillings hscn.1 rfl rfl (Nat.le_of_ble_eq_true rfl) (Nat.le_of_ble_eq_true rfl) (Nat.zero_le _) (Nat.zero_le _) (Nat.le_of_ble_eq_true rfl) (q_C.mono (c_X5_countFillings hscn hLn hd (by omega) (by omega) (by omega) (fun i hi => by rw [li_cell]; exact ⟨pz_cell_lt hz hln hi, h16 _ (pz_cell_lt hz hln hi)⟩)) (fun v G sz1 hq => ?_))
      obtain ⟨rfl, rfl, hN, Y1, hY1⟩ := hq
      have hW : ln_W (pz_c A p ln) (pz_l A p ln) (pz_n A p ln) (pz_L A p ln) (fun i => Fd (li_fi (A 1 p) (A 2 p) ln + i * li_sr (A 1 p) (A 2 p) ln)) = pz_W A p ln Fd := by unfold pz_W; congr 1; funext i; rw [li_cell]; rfl
      rw [hW, pz_on_W hz hln (desk_on hFd)]
      have hscn1 : Scn T G (X + 7) := ⟨(hN _ (by omega)).trans hscn.1, hscn.2.1.imp (fun K h => (hN _ (by omega)).trans h), hscn.2.2.1.imp (fun K h => (hN _ (by omega)).trans h), Y1, hY1⟩
      exact q_ireturn dX8_ways_39 rfl rfl ⟨⟨Nat.le_refl _, fun b b1 b2 => hN b (by omega)⟩, _, I, A, rfl, ⟨rfl, rfl, Or.inl ⟨p, ln, ⟨hp, rfl, hln, rfl⟩, rfl⟩⟩, ⟨pa, gq, lv, O, m, vb, R.work (fun b hb => hN b (by omega)) (hscr.imp (fun _ h => (hN _ (by omega)).trans h)) hscn1 (hstl.imp (fun _ h => (hN _ (by omega)).trans h))⟩⟩
    · refine s_astore dX8_ways_11 (by decide) rfl rfl ?_
      refine q_aload_n dX8_ways_13 rfl rfl ?_
      refine q_ifnull (tgt := 22) dX8_ways_14 (by decide) rfl (fun h => by cases h) (fun _ => ?_)
      refine q_aload dX8_ways_17 rfl rfl ?_
      refine q_ifnonnull (tgt := 26) dX8_ways_19 (by decide) rfl (fun h => absurd rfl h) (fun _ => ?_)
      refine q_iconst (v := -1) dX8_ways_22 (by decide) ?_
      refine q_goto (tgt := 39) dX8_ways_23 (by decide) ?_
      exact q_ireturn dX8_ways_39 rfl rfl ⟨⟨Nat.le_refl _, fun _ _ _ => rfl⟩, _, I, A, rfl, ⟨rfl, rfl, Or.inr ⟨fun ⟨p2, ln2, h1, h2, h3, h4⟩ => hnol ⟨ln2, by rw [nI_un h2 (by omega) (by omega)]; exact h3, h4⟩, rfl⟩⟩, ⟨pa, gq, lv, O, m, vb, R⟩⟩
  · refine s_astore_n dX8_ways_5 (by decide) rfl rfl ?_
    refine q_aload_n dX8_ways_6 rfl rfl ?_
    refine q_iload_n dX8_ways_7 rfl ?_
    refine q_is (As := [_, _]) dX8_ways_8 ml_X8_89 mt_X8_lineAt ms_X8_lineAt rfl (Nat.le_of_ble_eq_true rfl) (Nat.le_of_ble_eq_true rfl) (Nat.zero_le _) (Nat.zero_le _) (Nat.le_of_ble_eq_true rfl) (q_C.mono (c_X8_lineAt_null _) (fun v G1 sz1 hq => ?_))
    obtain ⟨rfl, rfl, rfl⟩ := hq
    refine s_astore dX8_ways_11 (by decide) rfl rfl ?_
    refine q_aload_n dX8_ways_13 rfl rfl ?_
    refine q_ifnull (tgt := 22) dX8_ways_14 (by decide) rfl (fun _ => ?_) (fun h => absurd rfl h)
    refine q_iconst (v := -1) dX8_ways_22 (by decide) ?_
    refine q_goto (tgt := 39) dX8_ways_23 (by decide) ?_
    exact q_ireturn dX8_ways_39 rfl rfl ⟨⟨Nat.le_refl _, fun _ _ _ => rfl⟩, _, I, A, rfl, ⟨rfl, rfl, Or.inr ⟨fun ⟨p2, ln2, h1, h2, h3, h4⟩ => hno ⟨p2, h1, h2⟩, rfl⟩⟩, ⟨pa, gq, lv, O, m, vb, R⟩⟩

set_option maxHeartbeats 4000000 in
set_option maxRecDepth 100000 in
theorem c_X8_settle {T : q_T} {G0 : q_G} {sz X t : Nat} {I : md_I} {A : md_A} {pa gq lv O : Nat → Nat} {m vb : Nat} (R : Rep T X I A G0 sz pa gq lv O m vb) (hI : Inv t I A) (x : Int32) : q_C T mX8_settle 4 104 0 0 [.ref X, .int x] G0 sz (fun v G' sz' => (sz ≤ sz' ∧ ∀ b, X + 18 ≤ b → b < X + 46 → G' b = G0 b) ∧ ∃ z I2 A2, v = some (.int z) ∧ D_settle I A x z I2 A2 ∧ RepX T X I2 A2 G' sz') := by
  refine q_C.of (by decide) rfl (by simp [Value.category]) (Nat.le_of_ble_eq_true rfl) ?_
  obtain ⟨hgeo, hX, hcP, hcG, hcan, hscr, hsht, hscn, hstl, hsea, hpic, hlvs, hgra, hgs1, hgs2, hPz, hGm⟩ := id R
  have hI0 := hI.1
  have hI7 := hI.2.2.2.2.1
  have hgX := hgeo.1
  refine q_aload_n dX8_settle_0 rfl rfl ?_
  refine q_iload_n dX8_settle_1 rfl ?_
  refine q_iv (As := [_]) dX8_settle_2 ml_X8_85 mt_X8_puzzleAt mi_X8_puzzleAt se_X8_puzzleAt hX rfl rfl (Nat.le_of_ble_eq_true rfl) (Nat.le_of_ble_eq_true rfl) (Nat.zero_le _) (Nat.zero_le _) (Nat.le_of_ble_eq_true rfl) (q_C.mono (c_X8_puzzleAt hX hcP hI.1 _) (fun v G1 sz1 hq => ?_))
  obtain ⟨⟨p, hp, rfl, rfl⟩ | ⟨hno, rfl⟩, rfl, rfl⟩ := hq
  · have hz := (hI.2.1 p hp).1
    obtain ⟨hPl, Fd, hd, hFd⟩ := hPz p hp
    have hu := hPl.1
    obtain ⟨fL, hls, hfL⟩ := hPl.2.1
    have hwh := pz_size hz
    have hb10 := hz.2
    refine s_astore_n dX8_settle_5 (by decide) rfl rfl ?_
    refine q_aload_n dX8_settle_6 rfl rfl ?_
    refine q_ifnonnull (tgt := 12) dX8_settle_7 (by decide) rfl (fun _ => ?_) (fun h => by cases h)
    refine q_aload_n dX8_settle_12 rfl rfl ?_
    refine q_get dX8_settle_13 fl_X8_122 hu rfl ?_
    refine q_iconst (v := nI 0) dX8_settle_16 (by decide) ?_
    refine q_aload_n dX8_settle_17 rfl rfl ?_
    refine q_get dX8_settle_18 fl_X8_25 hX rfl ?_
    refine q_iconst (v := nI 0) dX8_settle_21 (by decide) ?_
    refine q_aload_n dX8_settle_22 rfl rfl ?_
    refine q_get dX8_settle_23 fl_X8_151 hu rfl ?_
    have hgp := (hgeo.2.2.1 p hp)
    obtain ⟨Fs, hFs⟩ := hscr
    refine w_acopy dX8_settle_26 ml_X8_154 hd hFs (Nat.le_refl _) hwh (by omega) (by omega) (Nat.le_of_ble_eq_true rfl) (Nat.le_of_ble_eq_true rfl) (Nat.le_of_ble_eq_true rfl) (fun G hs1 hN => ?_)
    have hPl1 := hPl.fr (fun b b1 b2 => hN b (by omega))
    have hu := hPl1.1
    have hls := (hN _ (by omega)).trans hls
    have hX := (hN _ (by omega)).trans hX
    have hd := (hN _ (by omega)).trans hd
    have hscn := hscn.fr (fun b b1 b2 => hN b (by omega))
    have hstl := hstl.imp (fun _ h => (hN _ (by omega)).trans h)
    have hF : ∀ b, b ≠ X + 4 ∧ b ≠ X + 8 ∧ b ≠ X + 9 ∧ b ≠ X + 11 → G b = G0 b := fun b hb => hN b (by omega)
    refine q_aload_n dX8_settle_29 rfl rfl ?_
    refine q_get dX8_settle_30 fl_X8_47 hX rfl ?_
    refine q_aload_n dX8_settle_33 rfl rfl ?_
    refine q_aload_n dX8_settle_34 rfl rfl ?_
    refine q_get dX8_settle_35 fl_X8_25 hX rfl ?_
    refine q_aload_n dX8_settle_38 rfl rfl ?_
    refine q_iv (As := []) dX8_settle_39 ml_X8_160 mt_X4_everyLine mi_X4_everyLine se_X4_everyLine hu rfl rfl (Nat.le_of_ble_eq_true rfl) (Nat.le_of_ble_eq_true rfl) (Nat.zero_le _) (Nat.zero_le _) (Nat.le_of_ble_eq_true rfl) (q_C.mono (c_X4_everyLine hu hls (by omega)) (fun v G1 sz1 hq => ?_))
    obtain ⟨rfl, rfl, rfl⟩ := hq
    have hon : pz_on A p (fun i => if i < A 1 p * A 2 p then Fd i else Fs i) (fun x => A 8 (100 * p + x)) := fun x hx => Eq.trans (if_pos hx) (hFd x hx)
    have hps := pz_on_ps hon.symm (hI.ps hp)
    obtain ⟨W0, hW0⟩ := hstl
    refine q_iv (As := [_, _, _]) dX8_settle_42 ml_X8_163 mt_X7_bringToRest mi_X7_bringToRest se_X7_bringToRest hW0 rfl rfl (Nat.le_of_ble_eq_true rfl) (Nat.le_of_ble_eq_true rfl) (Nat.zero_le _) (Nat.zero_le _) (Nat.le_of_ble_eq_true rfl) (q_C.mono (c_X7_bringToRest hscn ⟨W0, hW0⟩ hPl1 hs1 hps (Wt.every hz) hz ⟨hwh, by omega⟩ (by omega) (by omega) (by omega)) (fun v G sz1 hq => ?_))
    obtain ⟨rfl, hN, hscn, hstl, S1, hs1, hv⟩ := hq
    have hu := (hN _ (by omega)).trans hu
    have hX := (hN _ (by omega)).trans hX
    have hd := (hN _ (by omega)).trans hd
    have hF : ∀ b, b ≠ X + 4 ∧ b ≠ X + 8 ∧ b ≠ X + 9 ∧ b ≠ X + 11 → G b = G0 b := fun b hb => (hN b (by omega)).trans (hF b hb)
    have hso := pz_st_on hz hon
    rcases hv with ⟨hst, rfl⟩ | ⟨r, S3, hst, rfl, ho, -⟩
    · refine s_istore_n dX8_settle_45 (by decide) rfl ?_
      refine q_iload_n dX8_settle_46 rfl ?_
      refine q_bipush (v := -2) dX8_settle_47 (by decide) ?_
      refine q_icmp_eq (tgt := 69) dX8_settle_49 (by decide) (fun _ => ?_) (fun h => absurd h (by decide))
      refine q_iload_n dX8_settle_69 rfl ?_
      exact q_ireturn dX8_settle_70 rfl rfl ⟨⟨Nat.le_refl _, fun b b1 b2 => hF b (by omega)⟩, _, I, A, rfl, ⟨rfl, Or.inl ⟨p, hp, rfl, Or.inl ⟨hso.1 hst, rfl, rfl⟩⟩⟩, ⟨pa, gq, lv, O, m, vb, R.work (fun b hb => hF b (by omega)) ⟨_, hs1⟩ hscn hstl⟩⟩
    · obtain ⟨ip, it, ir, -⟩ := pz_st_inv hz 401 _ hps r S3 hst
      have htl := pz_tot_le hz hps
      obtain ⟨S4, hst4, ho4⟩ := hso.2 r S3 hst
      refine s_istore_n dX8_settle_45 (by decide) rfl ?_
      refine q_iload_n dX8_settle_46 rfl ?_
      refine q_bipush (v := -2) dX8_settle_47 (by decide) ?_
      refine q_icmp_eq (tgt := 69) dX8_settle_49 (by decide) (fun c49 => absurd c49 (nI_nm2 (by omega))) (fun c49 => ?_)
      refine q_aload_n dX8_settle_52 rfl rfl ?_
      refine q_get dX8_settle_53 fl_X8_25 hX rfl ?_
      refine q_iconst (v := nI 0) dX8_settle_56 (by decide) ?_
      refine q_aload_n dX8_settle_57 rfl rfl ?_
      refine q_get dX8_settle_58 fl_X8_122 hu rfl ?_
      refine q_iconst (v := nI 0) dX8_settle_61 (by decide) ?_
      refine q_aload_n dX8_settle_62 rfl rfl ?_
      refine q_get dX8_settle_63 fl_X8_151 hu rfl ?_
      refine w_acopy dX8_settle_66 ml_X8_154 hs1 hd hwh (Nat.le_refl _) (by omega) (by omega) (Nat.le_of_ble_eq_true rfl) (Nat.le_of_ble_eq_true rfl) (Nat.le_of_ble_eq_true rfl) (fun G hd hN => ?_)
      have hs1 := (hN _ (by omega)).trans hs1
      have hscn := hscn.fr (fun b b1 b2 => hN b (by omega))
      have hstl := hstl.imp (fun _ h => (hN _ (by omega)).trans h)
      refine q_iload_n dX8_settle_69 rfl ?_
      exact q_ireturn dX8_settle_70 rfl rfl ⟨⟨Nat.le_refl _, fun b b1 b2 => (hN b (by omega)).trans (hF b (by omega))⟩, _, I, _, rfl, ⟨rfl, Or.inl ⟨p, hp, rfl, Or.inr ⟨r, S4, hst4, rfl, rfl⟩⟩⟩, R.desk hI hp (fun k hk => md_cp_k _ hk) (fun q hq x hx => cp_8 (by omega) hq hx) (fun b hb => (hN b (by omega)).trans (hF b (by omega))) ⟨_, hs1⟩ hscn hstl ⟨_, hd, fun x hx => by rw [md_cp_in _ hx]; exact Eq.trans (if_pos hx) ((ho x hx).trans (ho4 x hx))⟩⟩
  · refine s_astore_n dX8_settle_5 (by decide) rfl rfl ?_
    refine q_aload_n dX8_settle_6 rfl rfl ?_
    refine q_ifnonnull (tgt := 12) dX8_settle_7 (by decide) rfl (fun h => absurd rfl h) (fun _ => ?_)
    refine q_iconst (v := -1) dX8_settle_10 (by decide) ?_
    exact q_ireturn dX8_settle_11 rfl rfl ⟨⟨Nat.le_refl _, fun _ _ _ => rfl⟩, _, I, A, rfl, ⟨rfl, Or.inr ⟨fun ⟨p', h1, h2⟩ => hno ⟨p', h1, h2⟩, rfl, rfl⟩⟩, ⟨pa, gq, lv, O, m, vb, R⟩⟩

set_option maxHeartbeats 4000000 in
set_option maxRecDepth 100000 in
theorem c_X8_grade {T : q_T} {G0 : q_G} {sz X t : Nat} {I : md_I} {A : md_A} {pa gq lv O : Nat → Nat} {m vb : Nat} (R : Rep T X I A G0 sz pa gq lv O m vb) (hI : Inv t I A) (x : Int32) : q_C T mX8_grade 6 151 0 0 [.ref X, .int x] G0 sz (fun v G' sz' => (sz ≤ sz' ∧ ∀ b, X + 18 ≤ b → b < X + 46 → G' b = G0 b) ∧ ∃ z I2 A2, v = some (.int z) ∧ D_grade I A x z I2 A2 ∧ RepX T X I2 A2 G' sz') := by
  refine q_C.of (by decide) rfl (by simp [Value.category]) (Nat.le_of_ble_eq_true rfl) ?_
  obtain ⟨hgeo, hX, hcP, hcG, hcan, hscr, hsht, hscn, hstl, hsea, hpic, hlvs, hgra, hgs1, hgs2, hPz, hGm⟩ := id R
  have hI0 := hI.1
  have hI7 := hI.2.2.2.2.1
  have hgX := hgeo.1
  refine q_aload_n dX8_grade_0 rfl rfl ?_
  refine q_iload_n dX8_grade_1 rfl ?_
  refine q_iv (As := [_]) dX8_grade_2 ml_X8_85 mt_X8_puzzleAt mi_X8_puzzleAt se_X8_puzzleAt hX rfl rfl (Nat.le_of_ble_eq_true rfl) (Nat.le_of_ble_eq_true rfl) (Nat.zero_le _) (Nat.zero_le _) (Nat.le_of_ble_eq_true rfl) (q_C.mono (c_X8_puzzleAt hX hcP hI.1 _) (fun v G1 sz1 hq => ?_))
  obtain ⟨⟨p, hp, rfl, rfl⟩ | ⟨hno, rfl⟩, rfl, rfl⟩ := hq
  · have hz := (hI.2.1 p hp).1
    obtain ⟨hPl, Fd, hd, hFd⟩ := hPz p hp
    have hu := hPl.1
    obtain ⟨fL, hls, hfL⟩ := hPl.2.1
    have hwh := pz_size hz
    have hb10 := hz.2
    refine s_astore_n dX8_grade_5 (by decide) rfl rfl ?_
    refine q_aload_n dX8_grade_6 rfl rfl ?_
    refine q_ifnonnull (tgt := 14) dX8_grade_7 (by decide) rfl (fun _ => ?_) (fun h => by cases h)
    refine q_aload_n dX8_grade_14 rfl rfl ?_
    refine q_get dX8_grade_15 fl_X8_63 hX rfl ?_
    refine q_aload_n dX8_grade_18 rfl rfl ?_
    have hgp := (hgeo.2.2.1 p hp)
    obtain ⟨F1, hF1⟩ := hgs1
    obtain ⟨F2, hF2⟩ := hgs2
    refine q_iv (As := [_]) dX8_grade_19 ml_X8_181 mt_X1_assess mi_X1_assess se_X1_assess hgra rfl rfl (Nat.le_of_ble_eq_true rfl) (Nat.le_of_ble_eq_true rfl) (Nat.zero_le _) (Nat.zero_le _) (Nat.le_of_ble_eq_true rfl) (q_C.mono (c_X1_assess hz (by omega) hscn hstl hPl hgra hF1 hF2) (fun v G sz1 hq => ?_))
    obtain ⟨rfl, rfl, hy⟩ := hq
    exact q_ireturn dX8_grade_22 rfl rfl ⟨⟨Nat.le_refl _, fun b b1 b2 => hy.2.2.2.2.2.2 b (by omega)⟩, _, _, A, rfl, Or.inl ⟨p, hp, rfl, rfl, rfl, rfl⟩, ⟨pa, gq, lv, O, m, vb, R.grad hy⟩⟩
  · refine s_astore_n dX8_grade_5 (by decide) rfl rfl ?_
    refine q_aload_n dX8_grade_6 rfl rfl ?_
    refine q_ifnonnull (tgt := 14) dX8_grade_7 (by decide) rfl (fun h => absurd rfl h) (fun _ => ?_)
    refine q_iconst (v := -1) dX8_grade_10 (by decide) ?_
    refine q_goto (tgt := 22) dX8_grade_11 (by decide) ?_
    exact q_ireturn dX8_grade_22 rfl rfl ⟨⟨Nat.le_refl _, fun _ _ _ => rfl⟩, _, I, A, rfl, Or.inr ⟨fun ⟨p', h1, h2⟩ => hno ⟨p', h1, h2⟩, rfl, rfl, rfl⟩, ⟨pa, gq, lv, O, m, vb, R⟩⟩

set_option maxHeartbeats 4000000 in
set_option maxRecDepth 100000 in
theorem c_X8_paint {T : q_T} {G0 : q_G} {sz X t : Nat} {I : md_I} {A : md_A} {pa gq lv O : Nat → Nat} {m vb : Nat} (R : Rep T X I A G0 sz pa gq lv O m vb) (hI : Inv t I A) (x y w : Int32) : q_C T mX8_paint 0 0 0 0 [.ref X, .int x, .int y, .int w] G0 sz (fun v G' sz' => (sz ≤ sz' ∧ ∀ b, X + 18 ≤ b → b < X + 46 → G' b = G0 b) ∧ ∃ z I2 A2, v = some (.int z) ∧ D_paint I A x y w z I2 A2 ∧ RepX T X I2 A2 G' sz') := by
  refine q_C.of (by decide) rfl (by simp [Value.category]) (Nat.le_of_ble_eq_true rfl) ?_
  obtain ⟨hgeo, hX, hcP, hcG, hcan, hscr, hsht, hscn, hstl, hsea, hpic, hlvs, hgra, hgs1, hgs2, hPz, hGm⟩ := id R
  have hI0 := hI.1
  have hI7 := hI.2.2.2.2.1
  have hgX := hgeo.1
  obtain ⟨cF, hcan, hcF⟩ := hcan
  refine q_iload_n dX8_paint_0 rfl ?_
  refine q_if_lt (tgt := 29) dX8_paint_1 (by decide) (fun c1 => ?_) (fun c1 => ?_)
  · refine q_iconst (v := nI 0) dX8_paint_29 (by decide) ?_
    exact q_ireturn dX8_paint_30 rfl (by decide +kernel) ⟨⟨Nat.le_refl _, fun _ _ _ => rfl⟩, _, I, A, rfl, ⟨rfl, Or.inr ⟨fun ⟨i2, j2, k2, h1, h2, h3, h4, h5, h6⟩ => absurd c1 (by rw [h2]; exact nI_pos (by omega)), rfl, rfl⟩⟩, ⟨pa, gq, lv, O, m, vb, R⟩⟩
  · obtain ⟨i, hi, rfl⟩ := nI_of c1
    refine q_iload_n dX8_paint_4 rfl ?_
    refine q_bipush (v := nI 10) dX8_paint_5 (by decide) ?_
    refine n_icmp_ge (tgt := 29) dX8_paint_7 (by decide) (by omega) (by omega) (fun c7 => ?_) (fun c7 => ?_)
    · refine q_iconst (v := nI 0) dX8_paint_29 (by decide) ?_
      exact q_ireturn dX8_paint_30 rfl (by decide +kernel) ⟨⟨Nat.le_refl _, fun _ _ _ => rfl⟩, _, I, A, rfl, ⟨rfl, Or.inr ⟨fun ⟨i2, j2, k2, h1, h2, h3, h4, h5, h6⟩ => (by have := nI_un h2 hi (by omega); omega), rfl, rfl⟩⟩, ⟨pa, gq, lv, O, m, vb, R⟩⟩
    · refine q_iload_n dX8_paint_10 rfl ?_
      refine q_if_lt (tgt := 29) dX8_paint_11 (by decide) (fun c11 => ?_) (fun c11 => ?_)
      · refine q_iconst (v := nI 0) dX8_paint_29 (by decide) ?_
        exact q_ireturn dX8_paint_30 rfl (by decide +kernel) ⟨⟨Nat.le_refl _, fun _ _ _ => rfl⟩, _, I, A, rfl, ⟨rfl, Or.inr ⟨fun ⟨i2, j2, k2, h1, h2, h3, h4, h5, h6⟩ => absurd c11 (by rw [h4]; exact nI_pos (by omega)), rfl, rfl⟩⟩, ⟨pa, gq, lv, O, m, vb, R⟩⟩
      · obtain ⟨j, hj, rfl⟩ := nI_of c11
        refine q_iload_n dX8_paint_14 rfl ?_
        refine q_bipush (v := nI 10) dX8_paint_15 (by decide) ?_
        refine n_icmp_ge (tgt := 29) dX8_paint_17 (by decide) (by omega) (by omega) (fun c17 => ?_) (fun c17 => ?_)
        · refine q_iconst (v := nI 0) dX8_paint_29 (by decide) ?_
          exact q_ireturn dX8_paint_30 rfl (by decide +kernel) ⟨⟨Nat.le_refl _, fun _ _ _ => rfl⟩, _, I, A, rfl, ⟨rfl, Or.inr ⟨fun ⟨i2, j2, k2, h1, h2, h3, h4, h5, h6⟩ => (by have := nI_un h4 hj (by omega); omega), rfl, rfl⟩⟩, ⟨pa, gq, lv, O, m, vb, R⟩⟩
        · refine q_iload_n dX8_paint_20 rfl ?_
          refine q_if_lt (tgt := 29) dX8_paint_21 (by decide) (fun c21 => ?_) (fun c21 => ?_)
          · refine q_iconst (v := nI 0) dX8_paint_29 (by decide) ?_
            exact q_ireturn dX8_paint_30 rfl (by decide +kernel) ⟨⟨Nat.le_refl _, fun _ _ _ => rfl⟩, _, I, A, rfl, ⟨rfl, Or.inr ⟨fun ⟨i2, j2, k2, h1, h2, h3, h4, h5, h6⟩ => absurd c21 (by rw [h6]; exact nI_pos (by omega)), rfl, rfl⟩⟩, ⟨pa, gq, lv, O, m, vb, R⟩⟩
          · obtain ⟨k, hk, rfl⟩ := nI_of c21
            refine q_iload_n dX8_paint_24 rfl ?_
            refine q_iconst (v := nI 3) dX8_paint_25 (by decide) ?_
            refine n_icmp_le (tgt := 31) dX8_paint_26 (by decide) (by omega) (by omega) (fun c26 => ?_) (fun c26 => ?_)
            · refine q_aload_n dX8_paint_31 rfl rfl ?_
              refine q_get dX8_paint_32 fl_X8_21 hX rfl ?_
              refine q_iload_n dX8_paint_35 rfl ?_
              refine q_bipush (v := nI 10) dX8_paint_36 (by decide) ?_
              refine q_imul dX8_paint_38 (pk_mul _ _) ?_
              refine q_iload_n dX8_paint_39 rfl ?_
              refine q_iadd dX8_paint_40 (nI_add _ _) ?_
              refine q_iload_n dX8_paint_41 rfl ?_
              refine w_st (k := j * 10 + i) (v := k) dX8_paint_42 hcan rfl (by omega) (by omega) rfl (fun G hcan hN => ?_)
              refine q_iconst (v := nI 1) dX8_paint_43 (by decide) ?_
              exact q_ireturn dX8_paint_44 rfl (by decide +kernel) ⟨⟨Nat.le_refl _, fun b b1 b2 => hN b (by omega)⟩, _, I, md_st A 9 (10 * j + i) k, rfl, ⟨rfl, Or.inl ⟨i, j, k, by omega, rfl, by omega, rfl, by omega, rfl, rfl, rfl⟩⟩, ⟨pa, gq, lv, O, m, vb, R.can (fun q hq => md_st_k _ hq) hN ⟨_, hcan, fun x hx => by rw [show j * 10 + i = 10 * j + i by omega]; exact if e : x = 10 * j + i then (by rw [e, va_up_s, md_st_s]) else (by rw [va_up_n _ _ e, md_st_n _ e]; exact hcF x hx)⟩⟩⟩
            · refine q_iconst (v := nI 0) dX8_paint_29 (by decide) ?_
              exact q_ireturn dX8_paint_30 rfl (by decide +kernel) ⟨⟨Nat.le_refl _, fun _ _ _ => rfl⟩, _, I, A, rfl, ⟨rfl, Or.inr ⟨fun ⟨i2, j2, k2, h1, h2, h3, h4, h5, h6⟩ => (by have := nI_un h6 hk (by omega); omega), rfl, rfl⟩⟩, ⟨pa, gq, lv, O, m, vb, R⟩⟩
