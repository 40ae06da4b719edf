set_option maxHeartbeats 4000000 in
set_option maxRecDepth 100000 in
theorem c_X8_set {T : q_T} {G : q_G} {sz X t : Nat} {I : md_I} {A : md_A} {pa gq lv O : Nat → Nat} {m vb : Nat} (R : Rep T X I A G sz pa gq lv O m vb) (hI : Inv t I A) (x y : Int32) : q_C T mX8_set 1 21 0 0 [.ref X, .int x, .int y] G sz (fun v G' sz' => sz = sz' ∧ G = G' ∧ ∃ z, v = some (.int z) ∧ D_set I A x y z) := by
  refine q_C.of (by decide) rfl (by simp [Value.category]) (Nat.le_of_ble_eq_true rfl) ?_
  obtain ⟨hgeo, hX, hcP, hcG, hcan, hscr, hsht, hscn, hstl, hsea, hpic, hlvs, hgra, hgs1, hgs2, hPz, hGm⟩ := id R
  have hI0 := hI.1
  have hI7 := hI.2.2.2.2.1
  refine q_aload_n dX8_set_0 rfl rfl ?_
  refine q_iload_n dX8_set_1 rfl ?_
  refine q_iv (As := [_]) dX8_set_2 ml_X8_85 mt_X8_puzzleAt mi_X8_puzzleAt se_X8_puzzleAt hX rfl rfl (Nat.le_of_ble_eq_true rfl) (Nat.le_of_ble_eq_true rfl) (Nat.zero_le _) (Nat.zero_le _) (Nat.le_of_ble_eq_true rfl) (q_C.mono (c_X8_puzzleAt hX hcP hI.1 _) (fun v G1 sz1 hq => ?_))
  obtain ⟨⟨p, hp, rfl, rfl⟩ | ⟨hno, rfl⟩, rfl, rfl⟩ := hq
  · have hz := (hI.2.1 p hp).1
    obtain ⟨hPl, Fd, hd, hFd⟩ := hPz p hp
    have hu := hPl.1
    obtain ⟨fL, hls, hfL⟩ := hPl.2.1
    have hwh := pz_size hz
    have hb10 := hz.2
    refine s_astore_n dX8_set_5 (by decide) rfl rfl ?_
    refine q_aload_n dX8_set_6 rfl rfl ?_
    refine q_ifnull (tgt := 18) dX8_set_7 (by decide) rfl (fun h => by cases h) (fun _ => ?_)
    refine q_aload_n dX8_set_10 rfl rfl ?_
    refine q_iload_n dX8_set_11 rfl ?_
    refine q_iv (As := [_]) dX8_set_12 ml_X8_141 mt_X4_hasCell mi_X4_hasCell se_X4_hasCell hu rfl rfl (Nat.le_of_ble_eq_true rfl) (Nat.le_of_ble_eq_true rfl) (Nat.zero_le _) (Nat.zero_le _) (Nat.le_of_ble_eq_true rfl) (q_C.mono (c_X4_hasCell hu (by omega)) (fun v G1 sz1 hq => ?_))
    obtain ⟨⟨hq12, rfl⟩ | ⟨hq12, rfl⟩, rfl, rfl⟩ := hq
    · refine q_if_ne (tgt := 22) dX8_set_15 (by decide) (fun _ => ?_) (fun h => absurd h (by decide))
      obtain ⟨c, hc, rfl⟩ := hq12
      refine q_aload_n dX8_set_22 rfl rfl ?_
      refine q_get dX8_set_23 fl_X8_122 hu rfl ?_
      refine q_iload_n dX8_set_26 rfl ?_
      refine w_ld (v := A 8 (100 * p + c)) dX8_set_27 hd rfl (by omega) (by omega) (hFd c hc) ?_
      exact q_ireturn dX8_set_28 rfl rfl ⟨rfl, rfl, _, rfl, Or.inl ⟨p, c, ⟨hp, rfl, hc, rfl⟩, rfl⟩⟩
    · refine q_if_ne (tgt := 22) dX8_set_15 (by decide) (fun h => absurd h (by decide)) (fun _ => ?_)
      refine q_iconst (v := nI 0) dX8_set_18 (by decide) ?_
      refine q_goto (tgt := 28) dX8_set_19 (by decide) ?_
      exact q_ireturn dX8_set_28 rfl rfl ⟨rfl, rfl, _, rfl, Or.inr ⟨fun ⟨p', c', h1, h2, h3, h4⟩ => hq12 ⟨c', by rw [nI_un h2 (by omega) (by omega)]; exact h3, h4⟩, rfl⟩⟩
  · refine s_astore_n dX8_set_5 (by decide) rfl rfl ?_
    refine q_aload_n dX8_set_6 rfl rfl ?_
    refine q_ifnull (tgt := 18) dX8_set_7 (by decide) rfl (fun _ => ?_) (fun h => absurd rfl h)
    refine q_iconst (v := nI 0) dX8_set_18 (by decide) ?_
    refine q_goto (tgt := 28) dX8_set_19 (by decide) ?_
    exact q_ireturn dX8_set_28 rfl rfl ⟨rfl, rfl, _, rfl, Or.inr ⟨fun ⟨p', c', h1, h2, h3, h4⟩ => hno ⟨p', h1, h2⟩, rfl⟩⟩

set_option maxHeartbeats 4000000 in
set_option maxRecDepth 100000 in
theorem c_X8_told {T : q_T} {G : q_G} {sz X t : Nat} {I : md_I} {A : md_A} {pa gq lv O : Nat → Nat} {m vb : Nat} (R : Rep T X I A G sz pa gq lv O m vb) (hI : Inv t I A) (x y : Int32) : q_C T mX8_told 3 63 0 0 [.ref X, .int x, .int y] G sz (fun v G' sz' => sz = sz' ∧ G = G' ∧ ∃ z, v = some (.int z) ∧ D_told I A x y z) := by
  refine q_C.of (by decide) rfl (by simp [Value.category]) (Nat.le_of_ble_eq_true rfl) ?_
  obtain ⟨hgeo, hX, hcP, hcG, hcan, hscr, hsht, hscn, hstl, hsea, hpic, hlvs, hgra, hgs1, hgs2, hPz, hGm⟩ := id R
  have hI0 := hI.1
  have hI7 := hI.2.2.2.2.1
  refine q_aload_n dX8_told_0 rfl rfl ?_
  refine q_iload_n dX8_told_1 rfl ?_
  refine q_iv (As := [_]) dX8_told_2 ml_X8_85 mt_X8_puzzleAt mi_X8_puzzleAt se_X8_puzzleAt hX rfl rfl (Nat.le_of_ble_eq_true rfl) (Nat.le_of_ble_eq_true rfl) (Nat.zero_le _) (Nat.zero_le _) (Nat.le_of_ble_eq_true rfl) (q_C.mono (c_X8_puzzleAt hX hcP hI.1 _) (fun v G1 sz1 hq => ?_))
  obtain ⟨⟨p, hp, rfl, rfl⟩ | ⟨hno, rfl⟩, rfl, rfl⟩ := hq
  · have hz := (hI.2.1 p hp).1
    obtain ⟨hPl, Fd, hd, hFd⟩ := hPz p hp
    have hu := hPl.1
    obtain ⟨fL, hls, hfL⟩ := hPl.2.1
    have hwh := pz_size hz
    have hb10 := hz.2
    refine s_astore_n dX8_told_5 (by decide) rfl rfl ?_
    refine q_aload_n dX8_told_6 rfl rfl ?_
    refine q_ifnonnull (tgt := 12) dX8_told_7 (by decide) rfl (fun _ => ?_) (fun h => by cases h)
    refine q_iload_n dX8_told_12 rfl ?_
    rcases q_sw y 4 (by omega) with ⟨k, hk, rfl⟩ | ⟨hnoy, hout⟩
    · rcases (show k = 0 ∨ k = 1 ∨ k = 2 ∨ k = 3 ∨ k = 4 by omega) with rfl | rfl | rfl | rfl | rfl
      · refine q_tableIn (off := 35) (tgt := 48) dX8_told_13 (by decide) (by decide) (by decide) (by decide) ?_
        refine q_aload_n dX8_told_48 rfl rfl ?_
        refine q_get dX8_told_49 fl_X8_112 hu rfl ?_
        exact q_ireturn dX8_told_52 rfl rfl ⟨rfl, rfl, _, rfl, Or.inl ⟨p, hp, rfl, Or.inl (⟨rfl, rfl⟩)⟩⟩
      · refine q_tableIn (off := 40) (tgt := 53) dX8_told_13 (by decide) (by decide) (by decide) (by decide) ?_
        refine q_aload_n dX8_told_53 rfl rfl ?_
        refine q_get dX8_told_54 fl_X8_115 hu rfl ?_
        exact q_ireturn dX8_told_57 rfl rfl ⟨rfl, rfl, _, rfl, Or.inl ⟨p, hp, rfl, Or.inr (Or.inl (⟨rfl, rfl⟩))⟩⟩
      · refine q_tableIn (off := 45) (tgt := 58) dX8_told_13 (by decide) (by decide) (by decide) (by decide) ?_
        refine q_aload_n dX8_told_58 rfl rfl ?_
        refine q_get dX8_told_59 fl_X8_97 hu rfl ?_
        exact q_ireturn dX8_told_62 rfl rfl ⟨rfl, rfl, _, rfl, Or.inl ⟨p, hp, rfl, Or.inr (Or.inr (Or.inl (⟨rfl, rfl⟩)))⟩⟩
      · refine q_tableIn (off := 50) (tgt := 63) dX8_told_13 (by decide) (by decide) (by decide) (by decide) ?_
        refine q_aload_n dX8_told_63 rfl rfl ?_
        refine q_iv (As := []) dX8_told_64 ml_X8_118 mt_X4_allRuns mi_X4_allRuns se_X4_allRuns hu rfl rfl (Nat.le_of_ble_eq_true rfl) (Nat.le_of_ble_eq_true rfl) (Nat.zero_le _) (Nat.zero_le _) (Nat.le_of_ble_eq_true rfl) (q_C.mono (c_X4_allRuns (F := fun l => A 5 (20 * p + l)) hu hls hfL (fun k hk => by obtain ⟨g, j, e, C, L, P, h, -⟩ := hPl.2.2 k hk; exact ⟨_, _, _, _, _, _, _, _, _, h⟩) (by omega)) (fun v G1 sz1 hq => ?_))
        obtain ⟨rfl, rfl, rfl⟩ := hq
        exact q_ireturn dX8_told_67 rfl rfl ⟨rfl, rfl, _, rfl, Or.inl ⟨p, hp, rfl, Or.inr (Or.inr (Or.inr (Or.inl (⟨rfl, rfl⟩))))⟩⟩
      · refine q_tableIn (off := 55) (tgt := 68) dX8_told_13 (by decide) (by decide) (by decide) (by decide) ?_
        refine q_aload_n dX8_told_68 rfl rfl ?_
        refine q_aload_n dX8_told_69 rfl rfl ?_
        refine q_get dX8_told_70 fl_X8_122 hu rfl ?_
        have hin := (hI.2.1 p hp).2.2
        have h16 : ∀ x, x < A 1 p * A 2 p → Fd x < 16 ∧ 1 ≤ Fd x := fun x hx => by rw [hFd x hx]; exact ⟨hI.ps hp x hx, (hin x hx).1⟩
        refine q_iv (As := [_]) dX8_told_73 ml_X8_125 mt_X4_decidedCells mi_X4_decidedCells se_X4_decidedCells hu rfl rfl (Nat.le_of_ble_eq_true rfl) (Nat.le_of_ble_eq_true rfl) (Nat.zero_le _) (Nat.zero_le _) (Nat.le_of_ble_eq_true rfl) (q_C.mono (c_X4_decidedCells hu hd ⟨Nat.le_refl _, by omega⟩ (fun x hx => (h16 x hx).1)) (fun v G1 sz1 hq => ?_))
        obtain ⟨rfl, rfl, rfl⟩ := hq
        have hdc : dc_n Fd (A 1 p * A 2 p) = pz_dec A p := ln_sum_congr _ _ (fun x _ hx => by have := h16 x (by omega); rw [← hFd x (by omega)]; by_cases h1 : ln_pop (Fd x) = 1; rw [if_pos h1, if_pos ((one_and this.1 this.2).mp h1)]; rw [if_neg h1, if_neg (fun h => h1 ((one_and this.1 this.2).mpr h))])
        rw [hdc]
        exact q_ireturn dX8_told_76 rfl rfl ⟨rfl, rfl, _, rfl, Or.inl ⟨p, hp, rfl, Or.inr (Or.inr (Or.inr (Or.inr (Or.inl (⟨rfl, rfl⟩)))))⟩⟩
    · refine q_tableOut (tgt := 77) dX8_told_13 hout (by decide) ?_
      refine q_iconst (v := -1) dX8_told_77 (by decide) ?_
      exact q_ireturn dX8_told_78 rfl rfl ⟨rfl, rfl, _, rfl, Or.inl ⟨p, hp, rfl, Or.inr (Or.inr (Or.inr (Or.inr (Or.inr (⟨hnoy, rfl⟩)))))⟩⟩
  · refine s_astore_n dX8_told_5 (by decide) rfl rfl ?_
    refine q_aload_n dX8_told_6 rfl rfl ?_
    refine q_ifnonnull (tgt := 12) dX8_told_7 (by decide) rfl (fun h => absurd rfl h) (fun _ => ?_)
    refine q_iconst (v := -1) dX8_told_10 (by decide) ?_
    exact q_ireturn dX8_told_11 rfl rfl ⟨rfl, rfl, _, rfl, Or.inr ⟨fun ⟨p', h1, h2⟩ => hno ⟨p', h1, h2⟩, rfl⟩⟩

set_option maxHeartbeats 4000000 in
set_option maxRecDepth 100000 in
theorem c_X8_clue {T : q_T} {G : q_G} {sz X t : Nat} {I : md_I} {A : md_A} {pa gq lv O : Nat → Nat} {m vb : Nat} (R : Rep T X I A G sz pa gq lv O m vb) (hI : Inv t I A) (x y w u : Int32) : q_C T mX8_clue 1 21 0 0 [.ref X, .int x, .int y, .int w, .int u] G sz (fun v G' sz' => sz = sz' ∧ G = G' ∧ ∃ z, v = some (.int z) ∧ D_clue I A x y w u z) := by
  refine q_C.of (by decide) rfl (by simp [Value.category]) (Nat.le_of_ble_eq_true rfl) ?_
  obtain ⟨hgeo, hX, hcP, hcG, hcan, hscr, hsht, hscn, hstl, hsea, hpic, hlvs, hgra, hgs1, hgs2, hPz, hGm⟩ := id R
  have hI0 := hI.1
  have hI7 := hI.2.2.2.2.1
  refine q_aload_n dX8_clue_0 rfl rfl ?_
  refine q_iload_n dX8_clue_1 rfl ?_
  refine q_iv (As := [_]) dX8_clue_2 ml_X8_85 mt_X8_puzzleAt mi_X8_puzzleAt se_X8_puzzleAt hX rfl rfl (Nat.le_of_ble_eq_true rfl) (Nat.le_of_ble_eq_true rfl) (Nat.zero_le _) (Nat.zero_le _) (Nat.le_of_ble_eq_true rfl) (q_C.mono (c_X8_puzzleAt hX hcP hI.1 _) (fun v G1 sz1 hq => ?_))
  obtain ⟨⟨p, hp, rfl, rfl⟩ | ⟨hno, rfl⟩, rfl, rfl⟩ := hq
  · have hz := (hI.2.1 p hp).1
    obtain ⟨hPl, Fd, hd, hFd⟩ := hPz p hp
    have hu := hPl.1
    obtain ⟨fL, hls, hfL⟩ := hPl.2.1
    have hwh := pz_size hz
    have hb10 := hz.2
    refine q_iload_n dX8_clue_5 rfl ?_
    refine q_is (As := [_, _]) dX8_clue_6 ml_X8_89 mt_X8_lineAt ms_X8_lineAt rfl (Nat.le_of_ble_eq_true rfl) (Nat.le_of_ble_eq_true rfl) (Nat.zero_le _) (Nat.zero_le _) (Nat.le_of_ble_eq_true rfl) (q_C.mono (c_X8_lineAt hu hls hfL (by omega) _) (fun v G1 sz1 hq => ?_))
    obtain ⟨⟨ln, hln, rfl, rfl⟩ | ⟨hnol, rfl⟩, rfl, rfl⟩ := hq
    · have hLn := hPl.2.2 ln hln
      obtain ⟨gg, gj, ge, lC, lL, lP, hl, hlC, hlL, hlP, hlc, hlb, hlr⟩ := id hLn
      have hl10 := hlr.2
      have hnS := (pl_p_S (c := pz_c A p ln) (l := pz_l A p ln) (n := pz_n A p ln) hlr.bd.2.2.1).1
      refine s_astore dX8_clue_9 (by decide) rfl rfl ?_
      refine q_aload dX8_clue_11 rfl rfl ?_
      refine q_ifnull (tgt := 29) dX8_clue_13 (by decide) rfl (fun h => by cases h) (fun _ => ?_)
      refine q_iload_n dX8_clue_16 rfl ?_
      refine q_if_lt (tgt := 29) dX8_clue_17 (by decide) (fun c17 => ?_) (fun c17 => ?_)
      · refine q_iconst (v := -1) dX8_clue_29 (by decide) ?_
        exact q_ireturn dX8_clue_30 rfl rfl ⟨rfl, rfl, _, rfl, Or.inr ⟨fun ⟨p2, ln2, i2, ⟨h1, h2, h3, h4⟩, h5, h6⟩ => absurd c17 (by rw [h6]; exact nI_pos (by have := (hI.2.1 p2 h1).1.2.2.2.2 ln2 h3; omega)), rfl⟩⟩
      · obtain ⟨i, hi, rfl⟩ := nI_of c17
        refine q_iload_n dX8_clue_20 rfl ?_
        refine q_aload dX8_clue_21 rfl rfl ?_
        refine q_get dX8_clue_23 fl_X8_109 hl rfl ?_
        refine n_icmp_lt (tgt := 31) dX8_clue_26 (by decide) (by omega) (by omega) (fun c26 => ?_) (fun c26 => ?_)
        · refine q_iload dX8_clue_31 rfl ?_
          refine q_if_ne (tgt := 44) dX8_clue_33 (by decide) (fun c33 => ?_) (fun c33 => ?_)
          · refine q_iload dX8_clue_44 rfl ?_
            refine q_iconst (v := nI 1) dX8_clue_46 (by decide) ?_
            refine q_icmp_ne (tgt := 60) dX8_clue_47 (by decide) (fun c47 => ?_) (fun c47 => ?_)
            · refine q_iconst (v := -1) dX8_clue_60 (by decide) ?_
              exact q_ireturn dX8_clue_61 rfl rfl ⟨rfl, rfl, _, rfl, Or.inl ⟨p, ln, i, ⟨hp, rfl, hln, rfl⟩, c26, rfl, by rw [if_neg c33, if_neg c47]⟩⟩
            · refine q_aload dX8_clue_50 rfl rfl ?_
              refine q_get dX8_clue_52 fl_X8_131 hl rfl ?_
              refine q_iload_n dX8_clue_55 rfl ?_
              refine w_ld (v := pz_l A p ln i) dX8_clue_56 hlL rfl (by omega) (by omega) ((hlc i c26).2) ?_
              refine q_goto (tgt := 61) dX8_clue_57 (by decide) ?_
              exact q_ireturn dX8_clue_61 rfl rfl ⟨rfl, rfl, _, rfl, Or.inl ⟨p, ln, i, ⟨hp, rfl, hln, rfl⟩, c26, rfl, by rw [if_neg c33, if_pos c47]⟩⟩
          · refine q_aload dX8_clue_36 rfl rfl ?_
            refine q_get dX8_clue_38 fl_X8_129 hl rfl ?_
            refine q_iload_n dX8_clue_41 rfl ?_
            refine w_ld (v := pz_c A p ln i) dX8_clue_42 hlC rfl (by omega) (by omega) ((hlc i c26).1) ?_
            exact q_ireturn dX8_clue_43 rfl rfl ⟨rfl, rfl, _, rfl, Or.inl ⟨p, ln, i, ⟨hp, rfl, hln, rfl⟩, c26, rfl, by rw [if_pos c33]⟩⟩
        · refine q_iconst (v := -1) dX8_clue_29 (by decide) ?_
          exact q_ireturn dX8_clue_30 rfl rfl ⟨rfl, rfl, _, rfl, Or.inr ⟨fun ⟨p2, ln2, i2, ⟨h1, h2, h3, h4⟩, h5, h6⟩ => (by have e1 := nI_un h2 (by omega) (by omega); have e2 := nI_un h4 (by omega) (by have := (hI.2.1 p2 h1).1.2; omega); have e3 := nI_un h6 hi (by have := (hI.2.1 p2 h1).1.2.2.2.2 ln2 h3; omega); subst e1; subst e2; subst e3; omega), rfl⟩⟩
    · refine s_astore dX8_clue_9 (by decide) rfl rfl ?_
      refine q_aload dX8_clue_11 rfl rfl ?_
      refine q_ifnull (tgt := 29) dX8_clue_13 (by decide) rfl (fun _ => ?_) (fun h => absurd rfl h)
      refine q_iconst (v := -1) dX8_clue_29 (by decide) ?_
      exact q_ireturn dX8_clue_30 rfl rfl ⟨rfl, rfl, _, rfl, Or.inr ⟨fun ⟨p2, ln2, i2, ⟨h1, h2, h3, h4⟩, h5, h6⟩ => hnol ⟨ln2, by rw [nI_un h2 (by omega) (by omega)]; exact h3, h4⟩, rfl⟩⟩
  · refine q_iload_n dX8_clue_5 rfl ?_
    refine q_is (As := [_, _]) dX8_clue_6 ml_X8_89 mt_X8_lineAt ms_X8_lineAt rfl (Nat.le_of_ble_eq_true rfl) (Nat.le_of_ble_eq_true rfl) (Nat.zero_le _) (Nat.zero_le _) (Nat.le_of_ble_eq_true rfl) (q_C.mono (c_X8_lineAt_null _) (fun v G1 sz1 hq => ?_))
    obtain ⟨rfl, rfl, rfl⟩ := hq
    refine s_astore dX8_clue_9 (by decide) rfl rfl ?_
    refine q_aload dX8_clue_11 rfl rfl ?_
    refine q_ifnull (tgt := 29) dX8_clue_13 (by decide) rfl (fun _ => ?_) (fun h => absurd rfl h)
    refine q_iconst (v := -1) dX8_clue_29 (by decide) ?_
    exact q_ireturn dX8_clue_30 rfl rfl ⟨rfl, rfl, _, rfl, Or.inr ⟨fun ⟨p2, ln2, i2, ⟨h1, h2, h3, h4⟩, h5, h6⟩ => hno ⟨p2, h1, h2⟩, rfl⟩⟩

set_option maxHeartbeats 4000000 in
set_option maxRecDepth 100000 in
theorem c_X8_found {T : q_T} {G : q_G} {sz X t : Nat} {I : md_I} {A : md_A} {pa gq lv O : Nat → Nat} {m vb : Nat} (R : Rep T X I A G sz pa gq lv O m vb) (hI : Inv t I A) (x : Int32) : q_C T mX8_found 0 0 0 0 [.ref X, .int x] G sz (fun v G' sz' => sz = sz' ∧ G = G' ∧ ∃ z, v = some (.int z) ∧ D_found I x z) := by
  refine q_C.of (by decide) rfl (by simp [Value.category]) (Nat.le_of_ble_eq_true rfl) ?_
  obtain ⟨hgeo, hX, hcP, hcG, hcan, hscr, hsht, hscn, hstl, hsea, hpic, hlvs, hgra, hgs1, hgs2, hPz, hGm⟩ := id R
  have hI0 := hI.1
  have hI7 := hI.2.2.2.2.1
  refine q_iload_n dX8_found_0 rfl ?_
  refine q_iconst (v := -1) dX8_found_1 (by decide) ?_
  refine q_icmp_ne (tgt := 13) dX8_found_2 (by decide) (fun c2 => ?_) (fun c2 => ?_)
  · refine q_iload_n dX8_found_13 rfl ?_
    refine q_bipush (v := -2) dX8_found_14 (by decide) ?_
    refine q_icmp_ne (tgt := 29) dX8_found_16 (by decide) (fun c16 => ?_) (fun c16 => ?_)
    · refine q_iconst (v := -1) dX8_found_29 (by decide) ?_
      exact q_ireturn dX8_found_30 rfl rfl ⟨rfl, rfl, _, rfl, by unfold D_found; rw [if_neg c2, if_neg c16]⟩
    · refine q_aload_n dX8_found_19 rfl rfl ?_
      refine q_get dX8_found_20 fl_X8_56 hX rfl ?_
      refine q_get dX8_found_23 fl_X8_174 hsea rfl ?_
      refine q_goto (tgt := 30) dX8_found_26 (by decide) ?_
      exact q_ireturn dX8_found_30 rfl rfl ⟨rfl, rfl, _, rfl, by unfold D_found; rw [if_neg c2, if_pos c16]⟩
  · refine q_aload_n dX8_found_5 rfl rfl ?_
    refine q_get dX8_found_6 fl_X8_56 hX rfl ?_
    refine q_get dX8_found_9 fl_X8_171 hsea rfl ?_
    exact q_ireturn dX8_found_12 rfl rfl ⟨rfl, rfl, _, rfl, by unfold D_found; rw [if_pos c2]⟩

set_option maxHeartbeats 4000000 in
set_option maxRecDepth 100000 in
theorem c_X8_count {T : q_T} {G : q_G} {sz X t : Nat} {I : md_I} {A : md_A} {pa gq lv O : Nat → Nat} {m vb : Nat} (R : Rep T X I A G sz pa gq lv O m vb) (hI : Inv t I A) (x : Int32) : q_C T mX8_count 0 0 0 0 [.ref X, .int x] G sz (fun v G' sz' => sz = sz' ∧ G = G' ∧ ∃ z, v = some (.int z) ∧ D_count I x z) := by
  refine q_C.of (by decide) rfl (by simp [Value.category]) (Nat.le_of_ble_eq_true rfl) ?_
  obtain ⟨hgeo, hX, hcP, hcG, hcan, hscr, hsht, hscn, hstl, hsea, hpic, hlvs, hgra, hgs1, hgs2, hPz, hGm⟩ := id R
  have hI0 := hI.1
  have hI7 := hI.2.2.2.2.1
  refine q_iload_n dX8_count_0 rfl ?_
  refine q_if_ne (tgt := 9) dX8_count_1 (by decide) (fun c1 => ?_) (fun c1 => ?_)
  · refine q_iload_n dX8_count_9 rfl ?_
    refine q_iconst (v := nI 1) dX8_count_10 (by decide) ?_
    refine q_icmp_ne (tgt := 21) dX8_count_11 (by decide) (fun c11 => ?_) (fun c11 => ?_)
    · refine q_iconst (v := -1) dX8_count_21 (by decide) ?_
      exact q_ireturn dX8_count_22 rfl rfl ⟨rfl, rfl, _, rfl, by unfold D_count; rw [if_neg c1, if_neg c11]⟩
    · refine q_aload_n dX8_count_14 rfl rfl ?_
      refine q_get dX8_count_15 fl_X8_71 hX rfl ?_
      refine q_goto (tgt := 22) dX8_count_18 (by decide) ?_
      exact q_ireturn dX8_count_22 rfl rfl ⟨rfl, rfl, _, rfl, by unfold D_count; rw [if_neg c1, if_pos c11]⟩
  · refine q_aload_n dX8_count_4 rfl rfl ?_
    refine q_get dX8_count_5 fl_X8_67 hX rfl ?_
    exact q_ireturn dX8_count_8 rfl rfl ⟨rfl, rfl, _, rfl, by unfold D_count; rw [if_pos c1]⟩

set_option maxHeartbeats 4000000 in
set_option maxRecDepth 100000 in
theorem c_X8_probes {T : q_T} {G : q_G} {sz X t : Nat} {I : md_I} {A : md_A} {pa gq lv O : Nat → Nat} {m vb : Nat} (R : Rep T X I A G sz pa gq lv O m vb) (hI : Inv t I A)  : q_C T mX8_probes 0 0 0 0 [.ref X] G sz (fun v G' sz' => sz = sz' ∧ G = G' ∧ ∃ z, v = some (.int z) ∧ z = nI (I 5)) := by
  refine q_C.of (by decide) rfl (by simp [Value.category]) (Nat.le_of_ble_eq_true rfl) ?_
  obtain ⟨hgeo, hX, hcP, hcG, hcan, hscr, hsht, hscn, hstl, hsea, hpic, hlvs, hgra, hgs1, hgs2, hPz, hGm⟩ := id R
  have hI0 := hI.1
  have hI7 := hI.2.2.2.2.1
  refine q_aload_n dX8_probes_0 rfl rfl ?_
  refine q_get dX8_probes_1 fl_X8_63 hX rfl ?_
  refine q_get dX8_probes_4 fl_X8_184 hgra rfl ?_
  exact q_ireturn dX8_probes_7 rfl rfl ⟨rfl, rfl, _, rfl, rfl⟩

set_option maxHeartbeats 4000000 in
set_option maxRecDepth 100000 in
theorem c_X8_picture {T : q_T} {G : q_G} {sz X t : Nat} {I : md_I} {A : md_A} {pa gq lv O : Nat → Nat} {m vb : Nat} (R : Rep T X I A G sz pa gq lv O m vb) (hI : Inv t I A) (x y : Int32) : q_C T mX8_picture 0 0 0 0 [.ref X, .int x, .int y] G sz (fun v G' sz' => sz = sz' ∧ G = G' ∧ ∃ z, v = some (.int z) ∧ D_picture I A x y z) := by
  refine q_C.of (by decide) rfl (by simp [Value.category]) (Nat.le_of_ble_eq_true rfl) ?_
  obtain ⟨hgeo, hX, hcP, hcG, hcan, hscr, hsht, hscn, hstl, hsea, hpic, hlvs, hgra, hgs1, hgs2, hPz, hGm⟩ := id R
  have hI0 := hI.1
  have hI7 := hI.2.2.2.2.1
  obtain ⟨Q, hpic, hQ⟩ := hpic
  have hI2 := hI.2.2.2.2.2.2.2
  refine q_iload_n dX8_picture_0 rfl ?_
  refine q_if_lt (tgt := 30) dX8_picture_1 (by decide) (fun c1 => ?_) (fun c1 => ?_)
  · refine q_iconst (v := -1) dX8_picture_30 (by decide) ?_
    exact q_ireturn dX8_picture_31 rfl rfl ⟨rfl, rfl, _, rfl, Or.inr ⟨fun ⟨i2, c2, h1, h2, h3, h4⟩ => absurd c1 (by rw [h2]; exact nI_pos (by omega)), rfl⟩⟩
  · obtain ⟨i, hi, rfl⟩ := nI_of c1
    refine q_iload_n dX8_picture_4 rfl ?_
    refine q_aload_n dX8_picture_5 rfl rfl ?_
    refine q_get dX8_picture_6 fl_X8_56 hX rfl ?_
    refine q_get dX8_picture_9 fl_X8_171 hsea rfl ?_
    refine n_icmp_ge (tgt := 30) dX8_picture_12 (by decide) (by omega) (by omega) (fun c12 => ?_) (fun c12 => ?_)
    · refine q_iconst (v := -1) dX8_picture_30 (by decide) ?_
      exact q_ireturn dX8_picture_31 rfl rfl ⟨rfl, rfl, _, rfl, Or.inr ⟨fun ⟨i2, c2, h1, h2, h3, h4⟩ => (by have := nI_un h2 hi (by omega); omega), rfl⟩⟩
    · refine q_iload_n dX8_picture_15 rfl ?_
      refine q_if_lt (tgt := 30) dX8_picture_16 (by decide) (fun c16 => ?_) (fun c16 => ?_)
      · refine q_iconst (v := -1) dX8_picture_30 (by decide) ?_
        exact q_ireturn dX8_picture_31 rfl rfl ⟨rfl, rfl, _, rfl, Or.inr ⟨fun ⟨i2, c2, h1, h2, h3, h4⟩ => absurd c16 (by rw [h4]; exact nI_pos (by omega)), rfl⟩⟩
      · obtain ⟨c, hc, rfl⟩ := nI_of c16
        refine q_iload_n dX8_picture_19 rfl ?_
        refine q_aload_n dX8_picture_20 rfl rfl ?_
        refine q_get dX8_picture_21 fl_X8_56 hX rfl ?_
        refine q_get dX8_picture_24 fl_X8_177 hsea rfl ?_
        refine n_icmp_lt (tgt := 32) dX8_picture_27 (by decide) (by omega) (by omega) (fun c27 => ?_) (fun c27 => ?_)
        · refine q_aload_n dX8_picture_32 rfl rfl ?_
          refine q_get dX8_picture_33 fl_X8_56 hX rfl ?_
          refine q_get dX8_picture_36 fl_X8_178 hsea rfl ?_
          refine q_iload_n dX8_picture_39 rfl ?_
          refine q_bipush (v := nI 100) dX8_picture_40 (by decide) ?_
          refine q_imul dX8_picture_42 (pk_mul _ _) ?_
          refine q_iload_n dX8_picture_43 rfl ?_
          refine q_iadd dX8_picture_44 (nI_add _ _) ?_
          refine w_ld (k := i * 100 + c) (v := A 16 (100 * i + c)) dX8_picture_45 hpic rfl (by omega) (by omega) (by rw [show i * 100 + c = 100 * i + c by omega]; exact hQ i c12 c c27) ?_
          exact q_ireturn dX8_picture_46 rfl rfl ⟨rfl, rfl, _, rfl, Or.inl ⟨i, c, c12, rfl, c27, rfl, rfl⟩⟩
        · refine q_iconst (v := -1) dX8_picture_30 (by decide) ?_
          exact q_ireturn dX8_picture_31 rfl rfl ⟨rfl, rfl, _, rfl, Or.inr ⟨fun ⟨i2, c2, h1, h2, h3, h4⟩ => (by have := nI_un h4 hc (by omega); omega), rfl⟩⟩

set_option maxHeartbeats 4000000 in
set_option maxRecDepth 100000 in
theorem c_X8_marked {T : q_T} {G : q_G} {sz X t : Nat} {I : md_I} {A : md_A} {pa gq lv O : Nat → Nat} {m vb : Nat} (R : Rep T X I A G sz pa gq lv O m vb) (hI : Inv t I A) (x y : Int32) : q_C T mX8_marked 1 21 0 0 [.ref X, .int x, .int y] G sz (fun v G' sz' => sz = sz' ∧ G = G' ∧ ∃ z, v = some (.int z) ∧ D_marked I A x y z) := by
  refine q_C.of (by decide) rfl (by simp [Value.category]) (Nat.le_of_ble_eq_true rfl) ?_
  obtain ⟨hgeo, hX, hcP, hcG, hcan, hscr, hsht, hscn, hstl, hsea, hpic, hlvs, hgra, hgs1, hgs2, hPz, hGm⟩ := id R
  have hI0 := hI.1
  have hI7 := hI.2.2.2.2.1
  refine q_aload_n dX8_marked_0 rfl rfl ?_
  refine q_iload_n dX8_marked_1 rfl ?_
  refine q_iv (As := [_]) dX8_marked_2 ml_X8_208 mt_X8_gameAt mi_X8_gameAt se_X8_gameAt hX rfl rfl (Nat.le_of_ble_eq_true rfl) (Nat.le_of_ble_eq_true rfl) (Nat.zero_le _) (Nat.zero_le _) (Nat.le_of_ble_eq_true rfl) (q_C.mono (c_X8_gameAt hX hcG hI.2.2.2.2.1 _) (fun v G1 sz1 hq => ?_))
  obtain ⟨⟨g, hg, rfl, rfl⟩ | ⟨hno, rfl⟩, rfl, rfl⟩ := hq
  · obtain ⟨hp, gM, gC, gB, gA, hGam, hgm, hgc⟩ := hGm g hg
    obtain ⟨hgo, hgM, hgC, hgB, hgA⟩ := id hGam
    have hgi := hI.2.2.2.2.2.1 g hg
    have hz := (hI.2.1 (A 19 g) hp).1
    obtain ⟨hPl, Fd, hd, hFd⟩ := hPz (A 19 g) hp
    have hu := hPl.1
    obtain ⟨fL, hls, hfL⟩ := hPl.2.1
    have hwh := pz_size hz
    have hb10 := hz.2
    refine s_astore_n dX8_marked_5 (by decide) rfl rfl ?_
    refine q_aload_n dX8_marked_6 rfl rfl ?_
    refine q_ifnull (tgt := 21) dX8_marked_7 (by decide) rfl (fun h => by cases h) (fun _ => ?_)
    refine q_aload_n dX8_marked_10 rfl rfl ?_
    refine q_get dX8_marked_11 fl_X8_212 hgo rfl ?_
    refine q_iload_n dX8_marked_14 rfl ?_
    refine q_iv (As := [_]) dX8_marked_15 ml_X8_141 mt_X4_hasCell mi_X4_hasCell se_X4_hasCell hu rfl rfl (Nat.le_of_ble_eq_true rfl) (Nat.le_of_ble_eq_true rfl) (Nat.zero_le _) (Nat.zero_le _) (Nat.le_of_ble_eq_true rfl) (q_C.mono (c_X4_hasCell hu (by omega)) (fun v G1 sz1 hq => ?_))
    obtain ⟨⟨hq15, rfl⟩ | ⟨hq15, rfl⟩, rfl, rfl⟩ := hq
    · refine q_if_ne (tgt := 25) dX8_marked_18 (by decide) (fun _ => ?_) (fun h => absurd h (by decide))
      obtain ⟨c, hc, rfl⟩ := hq15
      refine q_aload_n dX8_marked_25 rfl rfl ?_
      refine q_get dX8_marked_26 fl_X8_219 hgo rfl ?_
      refine q_iload_n dX8_marked_29 rfl ?_
      refine w_ldE (v := A 20 (100 * g + c)) dX8_marked_30 hgM rfl (by omega) (by omega) (hgm c hc) ?_
      exact q_ireturn dX8_marked_31 rfl rfl ⟨rfl, rfl, _, rfl, Or.inl ⟨g, c, hg, rfl, hc, rfl, rfl⟩⟩
    · refine q_if_ne (tgt := 25) dX8_marked_18 (by decide) (fun h => absurd h (by decide)) (fun _ => ?_)
      refine q_iconst (v := -1) dX8_marked_21 (by decide) ?_
      refine q_goto (tgt := 31) dX8_marked_22 (by decide) ?_
      exact q_ireturn dX8_marked_31 rfl rfl ⟨rfl, rfl, _, rfl, Or.inr ⟨fun ⟨g2, c2, h1, h2, h3, h4⟩ => hq15 ⟨c2, by have e := nI_un h2 (by omega) (by omega); subst e; exact h3, h4⟩, rfl⟩⟩
  · refine s_astore_n dX8_marked_5 (by decide) rfl rfl ?_
    refine q_aload_n dX8_marked_6 rfl rfl ?_
    refine q_ifnull (tgt := 21) dX8_marked_7 (by decide) rfl (fun _ => ?_) (fun h => absurd rfl h)
    refine q_iconst (v := -1) dX8_marked_21 (by decide) ?_
    refine q_goto (tgt := 31) dX8_marked_22 (by decide) ?_
    exact q_ireturn dX8_marked_31 rfl rfl ⟨rfl, rfl, _, rfl, Or.inr ⟨fun ⟨g2, c2, h1, h2, h3, h4⟩ => hno ⟨g2, h1, h2⟩, rfl⟩⟩

set_option maxHeartbeats 4000000 in
set_option maxRecDepth 100000 in
theorem l_same {T : q_T} {G : q_G} {sz X p p2 u u2 D D2 : Nat} {A : md_A} {E : q_E} {x y : Int32} (hPl : PuzL T G u A p D) (hPl2 : PuzL T G u2 A p2 D2) (hz : Pz A p) (hz2 : Pz A p2) (hE1 : ∀ how, how < 8 → tn_same A p p2 how → (∀ k, k < how → ¬ tn_same A p p2 k) → E (some (.int (nI how))) G sz) (hE0 : (∀ k, k < 8 → ¬ tn_same A p p2 k) → E (some (.int (-1))) G sz) : ∀ (mZ : Nat) (how : Nat), mZ = 8 - how → (how ≤ 8) → (∀ k, k < how → ¬ tn_same A p p2 k) → q_R T mX8_same 2 51 27 [some (.ref X), some (.int x), some (.int y), some (.ref u), some (.ref u2), some (.int (nI how))] [] G sz 0 0 E := by
  intro mZ
  induction mZ using Nat.strongRecOn with | ind mZ ih => ?_
  intro how hm hh8 hno
  refine q_iload dX8_same_27 rfl ?_
  refine q_bipush (v := nI 8) dX8_same_29 (by decide) ?_
  refine n_icmp_ge (tgt := 54) dX8_same_31 (by decide) (by omega) (by omega) (fun c31 => ?_) (fun c31 => ?_)
  · refine q_iconst (v := -1) dX8_same_54 (by decide) ?_
    exact q_ireturn dX8_same_55 rfl rfl (hE0 (fun k hk => hno k (by omega)))
  · have hh := c31
    refine q_aload_n dX8_same_34 rfl rfl ?_
    refine q_aload dX8_same_35 rfl rfl ?_
    refine q_iload dX8_same_37 rfl ?_
    refine q_iv (As := [_, _]) dX8_same_39 ml_X8_201 mt_X4_turnsInto mi_X4_turnsInto se_X4_turnsInto hPl.1 rfl rfl (Nat.le_of_ble_eq_true rfl) (Nat.le_of_ble_eq_true rfl) (Nat.zero_le _) (Nat.zero_le _) (Nat.le_of_ble_eq_true rfl) (q_C.mono (c_X4_turnsInto hPl hPl2 hz hz2 hh) (fun v G1 sz1 hq => ?_))
    obtain ⟨⟨hq39, rfl⟩ | ⟨hq39, rfl⟩, rfl, rfl⟩ := hq
    · refine q_if_eq (tgt := 48) dX8_same_42 (by decide) (fun h => absurd h (by decide)) (fun _ => ?_)
      refine q_iload dX8_same_45 rfl ?_
      exact q_ireturn dX8_same_47 rfl rfl (hE1 how c31 hq39 hno)
    · refine q_if_eq (tgt := 48) dX8_same_42 (by decide) (fun _ => ?_) (fun h => absurd h (by decide))
      refine s_iinc dX8_same_48 rfl (s_inc1 _) (by decide) rfl ?_
      refine q_goto (tgt := 27) dX8_same_51 (by decide) ?_
      exact ih _ (by omega) (how + 1) rfl (by omega) (fun k hk => if e : k = how then (by rw [e]; exact hq39) else hno k (by omega))

set_option maxHeartbeats 4000000 in
set_option maxRecDepth 100000 in
theorem c_X8_same {T : q_T} {G : q_G} {sz X t : Nat} {I : md_I} {A : md_A} {pa gq lv O : Nat → Nat} {m vb : Nat} (R : Rep T X I A G sz pa gq lv O m vb) (hI : Inv t I A) (x y : Int32) : q_C T mX8_same 2 51 0 0 [.ref X, .int x, .int y] G sz (fun v G' sz' => sz = sz' ∧ G = G' ∧ ∃ z, v = some (.int z) ∧ D_same I A x y z) := by
  refine q_C.of (by decide) rfl (by simp [Value.category]) (Nat.le_of_ble_eq_true rfl) ?_
  obtain ⟨hgeo, hX, hcP, hcG, hcan, hscr, hsht, hscn, hstl, hsea, hpic, hlvs, hgra, hgs1, hgs2, hPz, hGm⟩ := id R
  have hI0 := hI.1
  have hI7 := hI.2.2.2.2.1
  refine q_aload_n dX8_same_0 rfl rfl ?_
  refine q_iload_n dX8_same_1 rfl ?_
  refine q_iv (As := [_]) dX8_same_2 ml_X8_85 mt_X8_puzzleAt mi_X8_puzzleAt se_X8_puzzleAt hX rfl rfl (Nat.le_of_ble_eq_true rfl) (Nat.le_of_ble_eq_true rfl) (Nat.zero_le _) (Nat.zero_le _) (Nat.le_of_ble_eq_true rfl) (q_C.mono (c_X8_puzzleAt hX hcP hI.1 _) (fun v G1 sz1 hq => ?_))
  obtain ⟨⟨p, hp, rfl, rfl⟩ | ⟨hno, rfl⟩, rfl, rfl⟩ := hq
  · have hz := (hI.2.1 p hp).1
    obtain ⟨hPl, Fd, hd, hFd⟩ := hPz p hp
    have hu := hPl.1
    obtain ⟨fL, hls, hfL⟩ := hPl.2.1
    have hwh := pz_size hz
    have hb10 := hz.2
    refine s_astore_n dX8_same_5 (by decide) rfl rfl ?_
    refine q_aload_n dX8_same_6 rfl rfl ?_
    refine q_iload_n dX8_same_7 rfl ?_
    refine q_iv (As := [_]) dX8_same_8 ml_X8_85 mt_X8_puzzleAt mi_X8_puzzleAt se_X8_puzzleAt hX rfl rfl (Nat.le_of_ble_eq_true rfl) (Nat.le_of_ble_eq_true rfl) (Nat.zero_le _) (Nat.zero_le _) (Nat.le_of_ble_eq_true rfl) (q_C.mono (c_X8_puzzleAt hX hcP hI.1 _) (fun v G1 sz1 hq => ?_))
    obtain ⟨⟨p2, hp2, rfl, rfl⟩ | ⟨hno2, rfl⟩, rfl, rfl⟩ := hq
    · have hz2 := (hI.2.1 p2 hp2).1
      obtain ⟨hPl2, Fd2, hd2, hFd2⟩ := hPz p2 hp2
      have hu2 := hPl2.1
      obtain ⟨fL2, hls2, hfL2⟩ := hPl2.2.1
      have hwh2 := pz_size hz2
      have hb102 := hz2.2
      refine s_astore dX8_same_11 (by decide) rfl rfl ?_
      refine q_aload_n dX8_same_13 rfl rfl ?_
      refine q_ifnull (tgt := 22) dX8_same_14 (by decide) rfl (fun h => by cases h) (fun _ => ?_)
      refine q_aload dX8_same_17 rfl rfl ?_
      refine q_ifnonnull (tgt := 24) dX8_same_19 (by decide) rfl (fun _ => ?_) (fun h => by cases h)
      refine q_iconst (v := nI 0) dX8_same_24 (by decide) ?_
      refine s_istore dX8_same_25 (by decide) rfl ?_
      exact l_same hPl hPl2 hz hz2 (fun how h1 h2 h3 => ⟨rfl, rfl, _, rfl, Or.inl ⟨p, p2, hp, rfl, hp2, rfl, Or.inl ⟨how, h1, h2, h3, rfl⟩⟩⟩) (fun h => ⟨rfl, rfl, _, rfl, Or.inl ⟨p, p2, hp, rfl, hp2, rfl, Or.inr ⟨h, rfl⟩⟩⟩) _ 0 rfl (Nat.zero_le _) (fun _ h => absurd h (Nat.not_lt_zero _))
    · refine s_astore dX8_same_11 (by decide) rfl rfl ?_
      refine q_aload_n dX8_same_13 rfl rfl ?_
      refine q_ifnull (tgt := 22) dX8_same_14 (by decide) rfl (fun h => by cases h) (fun _ => ?_)
      refine q_aload dX8_same_17 rfl rfl ?_
      refine q_ifnonnull (tgt := 24) dX8_same_19 (by decide) rfl (fun h => absurd rfl h) (fun _ => ?_)
      refine q_iconst (v := -1) dX8_same_22 (by decide) ?_
      exact q_ireturn dX8_same_23 rfl rfl ⟨rfl, rfl, _, rfl, Or.inr ⟨fun ⟨p', q', h1, h2, h3, h4⟩ => hno2 ⟨q', h3, h4⟩, rfl⟩⟩
  · refine s_astore_n dX8_same_5 (by decide) rfl rfl ?_
    refine q_aload_n dX8_same_6 rfl rfl ?_
    refine q_iload_n dX8_same_7 rfl ?_
    refine q_iv (As := [_]) dX8_same_8 ml_X8_85 mt_X8_puzzleAt mi_X8_puzzleAt se_X8_puzzleAt hX rfl rfl (Nat.le_of_ble_eq_true rfl) (Nat.le_of_ble_eq_true rfl) (Nat.zero_le _) (Nat.zero_le _) (Nat.le_of_ble_eq_true rfl) (q_C.mono (c_X8_puzzleAt hX hcP hI.1 _) (fun v G1 sz1 hq => ?_))
    obtain ⟨⟨p2, hp2, rfl, rfl⟩ | ⟨hno2, rfl⟩, rfl, rfl⟩ := hq
    · have hz2 := (hI.2.1 p2 hp2).1
      obtain ⟨hPl2, Fd2, hd2, hFd2⟩ := hPz p2 hp2
      have hu2 := hPl2.1
      obtain ⟨fL2, hls2, hfL2⟩ := hPl2.2.1
      have hwh2 := pz_size hz2
      have hb102 := hz2.2
      refine s_astore dX8_same_11 (by decide) rfl rfl ?_
      refine q_aload_n dX8_same_13 rfl rfl ?_
      refine q_ifnull (tgt := 22) dX8_same_14 (by decide) rfl (fun _ => ?_) (fun h => absurd rfl h)
      refine q_iconst (v := -1) dX8_same_22 (by decide) ?_
      exact q_ireturn dX8_same_23 rfl rfl ⟨rfl, rfl, _, rfl, Or.inr ⟨fun ⟨p', q', h1, h2, h3, h4⟩ => hno ⟨p', h1, h2⟩, rfl⟩⟩
    · refine s_astore dX8_same_11 (by decide) rfl rfl ?_
      refine q_aload_n dX8_same_13 rfl rfl ?_
      refine q_ifnull (tgt := 22) dX8_same_14 (by decide) rfl (fun _ => ?_) (fun h => absurd rfl h)
      refine q_iconst (v := -1) dX8_same_22 (by decide) ?_
      exact q_ireturn dX8_same_23 rfl rfl ⟨rfl, rfl, _, rfl, Or.inr ⟨fun ⟨p', q', h1, h2, h3, h4⟩ => hno ⟨p', h1, h2⟩, rfl⟩⟩
