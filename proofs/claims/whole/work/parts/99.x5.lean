/-! THE FACE: run; marks -/
theorem runA_k {A : md_A} {p ln c l k : Nat} (h : k ≠ 5 ∧ k ≠ 6 ∧ k ≠ 7 ∧ k ≠ 8) : D_runA A p ln c l k = A k := by
  unfold D_runA
  rw [md_fill_k _ (by omega), md_st_k _ (by omega), md_st_k _ (by omega), md_st_k _ (by omega)]
theorem runA_5 {A : md_A} {p ln c l j : Nat} : D_runA A p ln c l 5 j = if j = 20 * p + ln then pz_n A p ln + 1 else A 5 j := by
  unfold D_runA
  rw [md_fill_k _ (by decide), md_st_at]
  by_cases h : j = 20 * p + ln
  · rw [if_pos ⟨rfl, h⟩, if_pos h]
  · rw [if_neg (fun g => h g.2), if_neg h, md_st_k _ (by decide), md_st_k _ (by decide)]
theorem runA_6 {A : md_A} {p ln c l j : Nat} : D_runA A p ln c l 6 j = if j = 10 * (20 * p + ln) + pz_n A p ln then c else A 6 j := by
  unfold D_runA
  rw [md_fill_k _ (by decide), md_st_k _ (by decide), md_st_k _ (by decide), md_st_at]
  by_cases h : j = 10 * (20 * p + ln) + pz_n A p ln
  · rw [if_pos ⟨rfl, h⟩, if_pos h]
  · rw [if_neg (fun g => h g.2), if_neg h]
theorem runA_7 {A : md_A} {p ln c l j : Nat} : D_runA A p ln c l 7 j = if j = 10 * (20 * p + ln) + pz_n A p ln then l else A 7 j := by
  unfold D_runA
  rw [md_fill_k _ (by decide), md_st_k _ (by decide), md_st_at]
  by_cases h : j = 10 * (20 * p + ln) + pz_n A p ln
  · rw [if_pos ⟨rfl, h⟩, if_pos h]
  · rw [if_neg (fun g => h g.2), if_neg h, md_st_k _ (by decide)]
theorem runA_8 {A : md_A} {p ln c l : Nat} (j : Nat) : D_runA A p ln c l 8 j = if 100 * p ≤ j ∧ j < 100 * p + A 1 p * A 2 p then 1 <<< (A 3 p + 1) - 1 else A 8 j := by
  unfold D_runA
  rw [md_fill_at]
  split
  · rfl
  · rw [md_st_k _ (by decide), md_st_k _ (by decide), md_st_k _ (by decide)]
/-- other lines have the runs that they had -/
theorem runA_line {A : md_A} {p ln c l q k : Nat} (hk : k < 20) (hl : ln < 20) (hn : pz_n A p ln < 10) (hnk : pz_n A q k ≤ 10) (hne : ¬ (q = p ∧ k = ln)) : pz_n (D_runA A p ln c l) q k = pz_n A q k ∧ ∀ i, i < pz_n A q k → pz_c A q k i = pz_c (D_runA A p ln c l) q k i ∧ pz_l A q k i = pz_l (D_runA A p ln c l) q k i := by
  refine ⟨?_, fun i hi => ⟨?_, ?_⟩⟩
  · show D_runA A p ln c l 5 (20 * q + k) = A 5 (20 * q + k)
    rw [runA_5, if_neg (by omega)]
  · show A 6 (10 * (20 * q + k) + i) = D_runA A p ln c l 6 (10 * (20 * q + k) + i)
    rw [runA_6, if_neg (by omega)]
  · show A 7 (10 * (20 * q + k) + i) = D_runA A p ln c l 7 (10 * (20 * q + k) + i)
    rw [runA_7, if_neg (by omega)]
theorem runA_own {A : md_A} {p ln c l : Nat} : pz_n (D_runA A p ln c l) p ln = pz_n A p ln + 1 ∧ ∀ i, i < pz_n A p ln + 1 → rn_c A p ln c i = pz_c (D_runA A p ln c l) p ln i ∧ rn_l A p ln l i = pz_l (D_runA A p ln c l) p ln i := by
  refine ⟨?_, fun i hi => ⟨?_, ?_⟩⟩
  · show D_runA A p ln c l 5 (20 * p + ln) = _
    rw [runA_5, if_pos rfl]
  · show va_up (pz_c A p ln) (pz_n A p ln) c i = D_runA A p ln c l 6 (10 * (20 * p + ln) + i)
    rw [runA_6]
    by_cases h : i = pz_n A p ln
    · rw [h, va_up_s, if_pos rfl]
    · rw [va_up_n _ _ h, if_neg (by omega)]; rfl
  · show va_up (pz_l A p ln) (pz_n A p ln) l i = D_runA A p ln c l 7 (10 * (20 * p + ln) + i)
    rw [runA_7]
    by_cases h : i = pz_n A p ln
    · rw [h, va_up_s, if_pos rfl]
    · rw [va_up_n _ _ h, if_neg (by omega)]; rfl
/-- what stands in the heap behind run -/
theorem Rep.run {T : q_T} {X t : Nat} {I : md_I} {A : md_A} {G G1 : q_G} {sz : Nat} {pa gq lv O : Nat → Nat} {m vb p ln c l : Nat} (R : Rep T X I A G sz pa gq lv O m vb) (hI : Inv t I A) (hp : p < I 0) (hln : ln < A 1 p + A 2 p) (hn : pz_n A p ln < 10) (hN : ∀ b, (b < pa p + 2 + 4 * ln ∨ pa p + 2 + 4 * ln + 4 ≤ b) ∧ b ≠ pa p + 2 + 4 * (A 1 p + A 2 p) → G1 b = G b) (hL : Lin T G1 (pa p + 2 + 4 * ln) (li_fi (A 1 p) (A 2 p) ln) (li_sr (A 1 p) (A 2 p) ln) (pz_L A p ln) (pz_cr A p ln) (rn_c A p ln c) (rn_l A p ln l) (pz_n A p ln + 1)) (hd : ∃ F : Nat → Nat, G1 (pa p + 2 + 4 * (A 1 p + A 2 p)) = some (q_ia T (A 1 p * A 2 p) (fun i => nI (F i))) ∧ ∀ x, x < A 1 p * A 2 p → F x = 1 <<< (A 3 p + 1) - 1) : RepX T X I (D_runA A p ln c l) G1 sz := by
  obtain ⟨hPl, -⟩ := (R.2.2.2.2.2.2.2.2.2.2.2.2.2.2.2.1 p hp)
  obtain ⟨q1, q2, q3⟩ := R.1.2.2.1 p hp
  have hz := (hI.2.1 p hp).1
  have hwh := pz_size hz
  have hb10 := hz.2
  have e : ∀ k, k ≠ 5 ∧ k ≠ 6 ∧ k ≠ 7 ∧ k ≠ 8 → D_runA A p ln c l k = A k := fun k hk => runA_k hk
  have hpeq : ∀ q, q < I 0 → q ≠ p → PEq A (D_runA A p ln c l) q := fun q hq hne => ⟨by rw [e 1 (by omega)], by rw [e 2 (by omega)], by rw [e 3 (by omega)], by rw [e 4 (by omega)], fun k hk => runA_line (by have := (hI.2.1 q hq).1.2; omega) (by omega) hn ((hI.2.1 q hq).1.2.2.2.2 k hk).1 (fun h => hne h.1)⟩
  refine ⟨pa, gq, lv, O, m, vb, R.one hp (fun k hk => e k (by omega)) (fun q hq hne => ⟨hpeq q hq hne, fun x hx => by rw [runA_8, if_neg (by have := pz_size (hI.2.1 q hq).1; omega)]⟩) (fun b h1 h2 => hN b (by omega)) (R.2.2.2.2.2.1.imp (fun _ h => (hN _ (by omega)).trans h)) (R.2.2.2.2.2.2.2.1.fr (fun b b1 b2 => hN b (by omega))) (R.2.2.2.2.2.2.2.2.1.imp (fun _ h => (hN _ (by omega)).trans h)) ?_⟩
  obtain ⟨F, hF1, hF2⟩ := hd
  have e1 : D_runA A p ln c l 1 p = A 1 p := by rw [e 1 (by omega)]
  have e2 : D_runA A p ln c l 2 p = A 2 p := by rw [e 2 (by omega)]
  refine ⟨⟨?_, ?_, fun k hk => ?_⟩, F, by rw [e1, e2]; exact hF1, fun x hx => ?_⟩
  · rw [e1, e2, e 3 (by omega), e 4 (by omega)]; exact (hN _ (by omega)).trans hPl.1
  · rw [e1, e2]
    obtain ⟨f, hf1, hf2⟩ := hPl.2.1
    exact ⟨f, (hN _ (by omega)).trans hf1, hf2⟩
  · rw [e1, e2] at hk
    have eL : pz_L (D_runA A p ln c l) p k = pz_L A p k := by unfold pz_L; rw [e1, e2]
    have ec : pz_cr (D_runA A p ln c l) p k = pz_cr A p k := by unfold pz_cr; rw [e2]
    unfold LinP
    rw [e1, e2, eL, ec]
    by_cases hkl : k = ln
    · subst hkl
      rw [runA_own.1]
      exact hL.cg runA_own.2
    · have h := runA_line (A := A) (p := p) (ln := ln) (c := c) (l := l) (q := p) (k := k) (by omega) (by omega) hn (hz.2.2.2.2 k hk).1 (fun h => hkl h.2)
      rw [h.1]
      exact ((hPl.2.2 k hk).fr (fun b b1 b2 => hN b (by omega))).cg h.2
  · rw [e1, e2] at hx
    rw [runA_8, if_pos (by omega)]
    exact hF2 x hx

set_option maxHeartbeats 4000000 in
set_option maxRecDepth 100000 in
theorem c_X8_run {T : q_T} {G0 : q_G} {sz X t : Nat} {I : md_I} {A : md_A} {pa gq lv O : Nat → Nat} {m vb : Nat} (R : Rep T X I A G0 sz pa gq lv O m vb) (hI : Inv t I A) (x y w u : Int32) : q_C T mX8_run 4 88 0 0 [.ref X, .int x, .int y, .int w, .int u] G0 sz (fun v G' sz' => (sz ≤ sz' ∧ ∀ b, X + 18 ≤ b → b < X + 46 → G' b = G0 b) ∧ ∃ z I2 A2, v = some (.int z) ∧ D_run I A x y w u z I2 A2 ∧ RepX T X I2 A2 G' sz') := by
  refine q_C.of (by decide) rfl (by simp [Value.category]) (Nat.le_of_ble_eq_true rfl) ?_
  obtain ⟨hgeo, hX, hcP, hcG, hcan, hscr, hsht, hscn, hstl, hsea, hpic, hlvs, hgra, hgs1, hgs2, hPz, hGm⟩ := id R
  have hI0 := hI.1
  have hI7 := hI.2.2.2.2.1
  have hgX := hgeo.1
  refine q_aload_n dX8_run_0 rfl rfl ?_
  refine q_iload_n dX8_run_1 rfl ?_
  refine q_iv (As := [_]) dX8_run_2 ml_X8_85 mt_X8_puzzleAt mi_X8_puzzleAt se_X8_puzzleAt hX rfl rfl (Nat.le_of_ble_eq_true rfl) (Nat.le_of_ble_eq_true rfl) (Nat.zero_le _) (Nat.zero_le _) (Nat.le_of_ble_eq_true rfl) (q_C.mono (c_X8_puzzleAt hX hcP hI.1 _) (fun v G1 sz1 hq => ?_))
  obtain ⟨⟨p, hp, rfl, rfl⟩ | ⟨hno, rfl⟩, rfl, rfl⟩ := hq
  · have hz := (hI.2.1 p hp).1
    obtain ⟨hPl, Fd, hd, hFd⟩ := hPz p hp
    have hu := hPl.1
    obtain ⟨fL, hls, hfL⟩ := hPl.2.1
    have hwh := pz_size hz
    have hb10 := hz.2
    refine s_astore dX8_run_5 (by decide) rfl rfl ?_
    refine q_aload dX8_run_7 rfl rfl ?_
    refine q_iload_n dX8_run_9 rfl ?_
    refine q_is (As := [_, _]) dX8_run_10 ml_X8_89 mt_X8_lineAt ms_X8_lineAt rfl (Nat.le_of_ble_eq_true rfl) (Nat.le_of_ble_eq_true rfl) (Nat.zero_le _) (Nat.zero_le _) (Nat.le_of_ble_eq_true rfl) (q_C.mono (c_X8_lineAt hu hls hfL (by omega) _) (fun v G1 sz1 hq => ?_))
    obtain ⟨⟨ln, hln, rfl, rfl⟩ | ⟨hnol, rfl⟩, rfl, rfl⟩ := hq
    · have hLn := hPl.2.2 ln hln
      obtain ⟨gg, gj, ge, lC, lL, lP, hl, hlC, hlL, hlP, hlc, hlb, hlr⟩ := id hLn
      have hl10 := hlr.2
      have hnS := (pl_p_S (c := pz_c A p ln) (l := pz_l A p ln) (n := pz_n A p ln) hlr.bd.2.2.1).1
      refine s_astore dX8_run_13 (by decide) rfl rfl ?_
      refine q_aload dX8_run_15 rfl rfl ?_
      refine q_ifnull (tgt := 33) dX8_run_17 (by decide) rfl (fun h => by cases h) (fun _ => ?_)
      refine q_aload dX8_run_20 rfl rfl ?_
      refine q_ifnull (tgt := 33) dX8_run_22 (by decide) rfl (fun h => by cases h) (fun _ => ?_)
      refine q_aload dX8_run_25 rfl rfl ?_
      refine q_get dX8_run_27 fl_X8_93 hu rfl ?_
      refine n_if_eq (tgt := 35) dX8_run_30 (by decide) (by have := (hI.2.1 p hp).2.1; omega) (fun c30 => ?_) (fun c30 => ?_)
      · refine q_iload_n dX8_run_35 rfl ?_
        refine q_iconst (v := nI 1) dX8_run_36 (by decide) ?_
        refine q_icmp_lt (tgt := 60) dX8_run_37 (by decide) (fun c37 => ?_) (fun c37 => ?_)
        · refine q_iconst (v := -1) dX8_run_60 (by decide) ?_
          exact q_ireturn dX8_run_61 rfl rfl ⟨⟨Nat.le_refl _, fun _ _ _ => rfl⟩, _, I, A, rfl, ⟨rfl, Or.inr ⟨fun ⟨p2, ln2, c2, l2, ⟨h1, h2, h3, h4⟩, ⟨h5, h6, h7⟩, ⟨h8, h9, h10⟩, h11, h12⟩ => absurd c37 (by rw [h7]; exact nI_nlt h5 (by have := (hI.2.1 p2 h1).1.2; omega)), rfl, rfl⟩⟩, ⟨pa, gq, lv, O, m, vb, R⟩⟩
        · refine q_iload_n dX8_run_40 rfl ?_
          refine q_aload dX8_run_41 rfl rfl ?_
          refine q_get dX8_run_43 fl_X8_97 hu rfl ?_
          refine q_icmp_gt (tgt := 60) dX8_run_46 (by decide) (fun c46 => ?_) (fun c46 => ?_)
          · refine q_iconst (v := -1) dX8_run_60 (by decide) ?_
            exact q_ireturn dX8_run_61 rfl rfl ⟨⟨Nat.le_refl _, fun _ _ _ => rfl⟩, _, I, A, rfl, ⟨rfl, Or.inr ⟨fun ⟨p2, ln2, c2, l2, ⟨h1, h2, h3, h4⟩, ⟨h5, h6, h7⟩, ⟨h8, h9, h10⟩, h11, h12⟩ => (by have e1 := nI_un h2 (by omega) (by omega); subst e1; exact absurd c46 (by rw [h7]; exact nI_nlt h6 (by omega))), rfl, rfl⟩⟩, ⟨pa, gq, lv, O, m, vb, R⟩⟩
          · obtain ⟨c, hc, rfl⟩ := nI_of2 (nI_toInt (by omega)) (fun h => c37 (Int32.lt_trans h (by decide))) (Int32.not_lt.mp c46)
            have hc1 : 1 ≤ c := by rcases Nat.eq_zero_or_pos c with h | h; exact absurd (by rw [h]; decide) c37; exact h
            refine q_aload dX8_run_49 rfl rfl ?_
            refine q_iload_n dX8_run_51 rfl ?_
            refine q_iload dX8_run_52 rfl ?_
            have hgp := (hgeo.2.2.1 p hp)
            refine q_iv (As := [_, _]) dX8_run_54 ml_X8_100 mt_X3_append mi_X3_append se_X3_append hl rfl rfl (Nat.le_of_ble_eq_true rfl) (Nat.le_of_ble_eq_true rfl) (Nat.zero_le _) (Nat.zero_le _) (Nat.le_of_ble_eq_true rfl) (q_C.mono (c_X3_append hLn hc1 (by omega)) (fun v G sz1 hq => ?_))
            obtain ⟨rfl, hN, hv⟩ := hq
            rcases hv with ⟨l, rfl, hl1, hS, rfl, hL⟩ | ⟨hnoa, rfl, hL⟩
            · have hu := (hN _ (by omega)).trans hu
              have hd := (hN _ (by omega)).trans hd
              have hSa := hS
              rw [ln_S_app] at hSa
              refine q_if_ne (tgt := 62) dX8_run_57 (by decide) (fun _ => ?_) (fun h => absurd h (by decide))
              refine q_aload dX8_run_62 rfl rfl ?_
              refine q_iv (As := []) dX8_run_64 ml_X8_106 mt_X4_clearDesk mi_X4_clearDesk se_X4_clearDesk hu rfl rfl (Nat.le_of_ble_eq_true rfl) (Nat.le_of_ble_eq_true rfl) (Nat.zero_le _) (Nat.zero_le _) (Nat.le_of_ble_eq_true rfl) (q_C.mono (c_X4_clearDesk hu hd (by omega) (by omega)) (fun v G sz1 hq => ?_))
              obtain ⟨rfl, rfl, hd, hN2⟩ := hq
              have hL := hL.fr (fun b b1 b2 => hN2 b (by omega))
              obtain ⟨g1, j1, e1, C1, L1, P1, hl, -⟩ := id hL
              refine q_aload dX8_run_67 rfl rfl ?_
              refine q_get dX8_run_69 fl_X8_109 hl rfl ?_
              exact q_ireturn dX8_run_72 rfl rfl ⟨⟨Nat.le_refl _, fun b b1 b2 => (hN2 b (by omega)).trans (hN b (by omega))⟩, _, I, _, rfl, ⟨rfl, Or.inl ⟨p, ln, c, l, ⟨⟨hp, rfl, hln, rfl⟩, ⟨hc1, hc, rfl⟩, ⟨hl1, by omega, rfl⟩, c30, hS⟩, rfl, rfl⟩⟩, R.run hI hp hln (by omega) (fun b hb => (hN2 b hb.2).trans (hN b hb.1)) hL ⟨_, hd, fun x hx => if_pos hx⟩⟩
            · refine q_if_ne (tgt := 62) dX8_run_57 (by decide) (fun h => absurd h (by decide)) (fun _ => ?_)
              refine q_iconst (v := -1) dX8_run_60 (by decide) ?_
              exact q_ireturn dX8_run_61 rfl rfl ⟨⟨Nat.le_refl _, fun b b1 b2 => hN b (by omega)⟩, _, I, A, rfl, ⟨rfl, Or.inr ⟨fun ⟨p2, ln2, c2, l2, ⟨h1, h2, h3, h4⟩, ⟨h5, h6, h7⟩, ⟨h8, h9, h10⟩, h11, h12⟩ => (by have e1 := nI_un h2 (by omega) (by omega); subst e1; have e2 := nI_un h4 (by omega) (by omega); subst e2; have e3 := nI_un h7 (by omega) (by omega); subst e3; exact hnoa ⟨l2, h10, h8, h12⟩), rfl, rfl⟩⟩, ⟨pa, gq, lv, O, m, vb, R.one hp (fun _ _ => rfl) (fun q _ _ => ⟨peq_rfl, fun _ _ => rfl⟩) (fun b h1 h2 => hN b (by omega)) (hscr.imp (fun _ h => (hN _ (by omega)).trans h)) (hscn.fr (fun b b1 b2 => hN b (by omega))) (hstl.imp (fun _ h => (hN _ (by omega)).trans h)) ⟨⟨(hN _ (by omega)).trans hu, ⟨fL, (hN _ (by omega)).trans hls, hfL⟩, fun k hk => if e : k = ln then (by rw [e]; exact hL) else (hPl.2.2 k hk).fr (fun b b1 b2 => hN b (by omega))⟩, Fd, (hN _ (by omega)).trans hd, hFd⟩⟩⟩
      · refine q_iconst (v := -1) dX8_run_33 (by decide) ?_
        exact q_ireturn dX8_run_34 rfl rfl ⟨⟨Nat.le_refl _, fun _ _ _ => rfl⟩, _, I, A, rfl, ⟨rfl, Or.inr ⟨fun ⟨p2, ln2, c2, l2, ⟨h1, h2, h3, h4⟩, ⟨h5, h6, h7⟩, ⟨h8, h9, h10⟩, h11, h12⟩ => (by have e1 := nI_un h2 (by omega) (by omega); subst e1; exact c30 h11), rfl, rfl⟩⟩, ⟨pa, gq, lv, O, m, vb, R⟩⟩
    · refine s_astore dX8_run_13 (by decide) rfl rfl ?_
      refine q_aload dX8_run_15 rfl rfl ?_
      refine q_ifnull (tgt := 33) dX8_run_17 (by decide) rfl (fun h => by cases h) (fun _ => ?_)
      refine q_aload dX8_run_20 rfl rfl ?_
      refine q_ifnull (tgt := 33) dX8_run_22 (by decide) rfl (fun _ => ?_) (fun h => absurd rfl h)
      refine q_iconst (v := -1) dX8_run_33 (by decide) ?_
      exact q_ireturn dX8_run_34 rfl rfl ⟨⟨Nat.le_refl _, fun _ _ _ => rfl⟩, _, I, A, rfl, ⟨rfl, Or.inr ⟨fun ⟨p2, ln2, c2, l2, ⟨h1, h2, h3, h4⟩, ⟨h5, h6, h7⟩, ⟨h8, h9, h10⟩, h11, h12⟩ => (by have e1 := nI_un h2 (by omega) (by omega); subst e1; exact hnol ⟨ln2, h3, h4⟩), rfl, rfl⟩⟩, ⟨pa, gq, lv, O, m, vb, R⟩⟩
  · refine s_astore dX8_run_5 (by decide) rfl rfl ?_
    refine q_aload dX8_run_7 rfl rfl ?_
    refine q_iload_n dX8_run_9 rfl ?_
    refine q_is (As := [_, _]) dX8_run_10 ml_X8_89 mt_X8_lineAt ms_X8_lineAt rfl (Nat.le_of_ble_eq_true rfl) (Nat.le_of_ble_eq_true rfl) (Nat.zero_le _) (Nat.zero_le _) (Nat.le_of_ble_eq_true rfl) (q_C.mono (c_X8_lineAt_null _) (fun v G1 sz1 hq => ?_))
    obtain ⟨rfl, rfl, rfl⟩ := hq
    refine s_astore dX8_run_13 (by decide) rfl rfl ?_
    refine q_aload dX8_run_15 rfl rfl ?_
    refine q_ifnull (tgt := 33) dX8_run_17 (by decide) rfl (fun _ => ?_) (fun h => absurd rfl h)
    refine q_iconst (v := -1) dX8_run_33 (by decide) ?_
    exact q_ireturn dX8_run_34 rfl rfl ⟨⟨Nat.le_refl _, fun _ _ _ => rfl⟩, _, I, A, rfl, ⟨rfl, Or.inr ⟨fun ⟨p2, ln2, c2, l2, ⟨h1, h2, h3, h4⟩, ⟨h5, h6, h7⟩, ⟨h8, h9, h10⟩, h11, h12⟩ => hno ⟨p2, h1, h2⟩, rfl, rfl⟩⟩, ⟨pa, gq, lv, O, m, vb, R⟩⟩
