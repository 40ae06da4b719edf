/-! THE FACE: the sheet -/
theorem Rep.vb {T : q_T} {X : Nat} {I : md_I} {A : md_A} {G : q_G} {sz : Nat} {pa gq lv O : Nat → Nat} {m vb : Nat} (R : Rep T X I A G sz pa gq lv O m vb) : (vb = X + 6 ∨ X + 46 ≤ vb) ∧ vb < sz ∧ (O vb = 6 ∨ O vb = 50) ∧ ∀ p, p < I 0 → vb < pa p ∨ pa p + 3 + 4 * (A 1 p + A 2 p) ≤ vb := by
  obtain ⟨g0, g1, g2, g3, g4, g5, g6⟩ := R.1
  have hO : O vb = 6 ∨ O vb = 50 := by
    rcases g6 with h | h
    · exact Or.inl (by rw [h]; exact g1 6 (by omega))
    · exact Or.inr h.2.2
  refine ⟨by omega, by omega, hO, fun p hp => ?_⟩
  obtain ⟨q1, q2, q3⟩ := g2 p hp
  rcases Nat.lt_or_ge vb (pa p) with h | h
  · exact Or.inl h
  · rcases Nat.lt_or_ge vb (pa p + 3 + 4 * (A 1 p + A 2 p)) with h2 | h2
    · have := q3 vb h h2
      omega
    · exact Or.inr h2
theorem Rep.sheet {T : q_T} {X : Nat} {I I2 : md_I} {A A2 : md_A} {G G1 : q_G} {sz sz1 u : Nat} {pa gq lv O : Nat → Nat} {m vb : Nat} (R : Rep T X I A G sz pa gq lv O m vb) (hN : ∀ b, b ≠ X + 5 ∧ b ≠ vb ∧ b < sz → G1 b = G b) (hu : (u = vb ∧ sz1 = sz) ∨ (sz ≤ u ∧ u < sz1)) (hI : ∀ k, k ≠ 8 → I2 k = I k) (hA : ∀ k, k ≠ 27 → A2 k = A k) (hS : Sht T G1 (X + 5) u (I2 8) (A2 27)) : RepX T X I2 A2 G1 sz1 := by
  have hv := R.vb
  have hg := R.1
  obtain ⟨g0, g1, g2, g3, g4, g5, g6⟩ := R.1
  have i0 := hI 0 (by decide)
  have i7 := hI 7 (by decide)
  have a1 := hA 1 (by decide)
  have a2 := hA 2 (by decide)
  have hOb : ∀ b, b < sz → sz ≤ u → (if b = u then 50 else O b) = O b := fun b hb hu => if_neg (by omega)
  have hpe : ∀ p, PEq A A2 p := fun p => peq_of (fun k h1 h2 => hA k (by omega))
  have hge : ∀ g, GEq A A2 g := fun g => by
    refine ⟨by rw [hA 19 (by decide)], by rw [hA 21 (by decide)], by rw [hA 22 (by decide)], by rw [hA 23 (by decide)], by rw [a1], by rw [a2], fun i hi => by rw [hA 20 (by decide)], fun i hi => ⟨by rw [hA 24 (by decide)], by rw [hA 25 (by decide)], by rw [hA 26 (by decide)]⟩⟩
  have key : ∀ O' : Nat → Nat, Geo X sz1 I2 A2 pa gq lv O' m u → Rep T X I2 A2 G1 sz1 pa gq lv O' m u := fun O' hgeo =>
    R.put (fun t => t = 5 ∨ t = 6 ∨ t = 50) (fun b hb hc => hN b ⟨fun e => hc (Or.inl (by rw [e]; exact g1 5 (by omega))), fun e => hc (by rw [e]; omega), hb⟩) hgeo
      (Or.inr ⟨by omega, i0, i7⟩) (Or.inr ⟨by omega, i0, fun _ _ => rfl⟩) (Or.inr ⟨by omega, i7, fun _ _ => rfl⟩) (Or.inr ⟨by omega, fun x _ => by rw [hA 9 (by decide)]⟩) (Or.inr (by omega)) (Or.inl hS) (Or.inr ⟨by omega, by omega, by omega, by omega⟩) (Or.inr (by omega)) (Or.inr ⟨by omega, hI 2 (by decide), hI 3 (by decide), hI 4 (by decide)⟩) (Or.inr ⟨by omega, hI 2 (by decide), hI 4 (by decide), fun _ _ _ _ => by rw [hA 16 (by decide)]⟩) (Or.inr ⟨by omega, fun d hd => by omega, rfl, rfl⟩) (Or.inr ⟨by omega, hI 5 (by decide)⟩) (Or.inr (by omega)) (Or.inr (by omega)) (fun p hp => Or.inr ⟨by omega, rfl, by omega, hpe p, fun x _ => by rw [hA 8 (by decide)]⟩) (fun g hg => Or.inr ⟨by omega, rfl, by omega, hge g, by omega, rfl⟩)
  rcases hu with ⟨rfl, rfl⟩ | ⟨h1, h2⟩
  · exact ⟨pa, gq, lv, O, m, _, key O ⟨g0, g1, by rw [i0, a1, a2]; exact g2, by rw [i7]; exact g3, g4, g5, g6⟩⟩
  · refine ⟨pa, gq, lv, fun b => if b = u then 50 else O b, m, u, key _ ⟨by omega, fun k hk => (hOb _ (by omega) h1).trans (g1 k hk), fun p hp => ?_, fun g hg => ?_, fun d hd => ?_, g5, Or.inr ⟨by omega, h2, if_pos rfl⟩⟩⟩
    · rw [i0] at hp
      rw [a1, a2]
      obtain ⟨q1, q2, q3⟩ := g2 p hp
      exact ⟨q1, by omega, fun b b1 b2 => (hOb _ (by omega) h1).trans (q3 b b1 b2)⟩
    · rw [i7] at hg
      obtain ⟨q1, q2, q3⟩ := g3 g hg
      exact ⟨q1, by omega, fun b b1 b2 => (hOb _ (by omega) h1).trans (q3 b b1 b2)⟩
    · obtain ⟨q1, q2, q3⟩ := g4 d hd
      exact ⟨q1, by omega, fun b b1 b2 => (hOb _ (by omega) h1).trans (q3 b b1 b2)⟩

set_option maxHeartbeats 4000000 in
set_option maxRecDepth 100000 in
theorem c_X8_out {T : q_T} {G : q_G} {sz X t : Nat} {I : md_I} {A : md_A} {pa gq lv O : Nat → Nat} {m vb : Nat} (R : Rep T X I A G sz pa gq lv O m vb) (hI : Inv t I A) (x : Int32) : q_C T mX8_out 4 88 0 0 [.ref X, .int x] G sz (fun v G' sz' => sz = sz' ∧ G = G' ∧ ∃ z, v = some (.int z) ∧ D_out I A x z) := by
  refine q_C.of (by decide) rfl (by simp [Value.category]) (Nat.le_of_ble_eq_true rfl) ?_
  obtain ⟨hgeo, hX, hcP, hcG, hcan, hscr, hsht, hscn, hstl, hsea, hpic, hlvs, hgra, hgs1, hgs2, hPz, hGm⟩ := id R
  have hI0 := hI.1
  have hI7 := hI.2.2.2.2.1
  obtain ⟨sml, sc, sf, hsb, hsv, hs1, hs2, hs3, hs4, hs5⟩ := id hsht
  refine q_iload_n dX8_out_0 rfl ?_
  refine q_if_lt (tgt := 15) dX8_out_1 (by decide) (fun c1 => ?_) (fun c1 => ?_)
  · refine q_iconst (v := -1) dX8_out_15 (by decide) ?_
    refine q_goto (tgt := 27) dX8_out_16 (by decide) ?_
    exact q_ireturn dX8_out_27 rfl rfl ⟨rfl, rfl, _, rfl, Or.inr ⟨fun ⟨i, h1, h2⟩ => absurd c1 (by rw [h2]; exact nI_pos (by omega)), rfl⟩⟩
  · obtain ⟨k, hk, rfl⟩ := nI_of c1
    refine q_iload_n dX8_out_4 rfl ?_
    refine q_aload_n dX8_out_5 rfl rfl ?_
    refine q_get dX8_out_6 fl_X8_31 hX rfl ?_
    refine q_iv (As := []) dX8_out_9 ml_X8_260 mt_J4_length_8abf5 mi_J4_length_8abf5 se_J4_length_8abf5 hsb rfl rfl (Nat.le_of_ble_eq_true rfl) (Nat.le_of_ble_eq_true rfl) (Nat.zero_le _) (Nat.zero_le _) (Nat.le_of_ble_eq_true rfl) (q_C.mono (c_J4_length hsht) (fun v G1 sz1 hq => ?_))
    obtain ⟨rfl, rfl, rfl⟩ := hq
    refine n_icmp_lt (tgt := 19) dX8_out_12 (by decide) hk (by omega) (fun c12 => ?_) (fun c12 => ?_)
    · refine q_aload_n dX8_out_19 rfl rfl ?_
      refine q_get dX8_out_20 fl_X8_31 hX rfl ?_
      refine q_iload_n dX8_out_23 rfl ?_
      refine q_iv (As := [_]) dX8_out_24 ml_X8_263 mt_J4_charAt_5068e mi_J4_charAt_5068e se_J4_charAt_5068e hsb rfl rfl (Nat.le_of_ble_eq_true rfl) (Nat.le_of_ble_eq_true rfl) (Nat.zero_le _) (Nat.zero_le _) (Nat.le_of_ble_eq_true rfl) (q_C.mono (c_J4_charAt hsht c12) (fun v G1 sz1 hq => ?_))
      obtain ⟨rfl, rfl, rfl⟩ := hq
      exact q_ireturn dX8_out_27 rfl rfl ⟨rfl, rfl, _, rfl, Or.inl ⟨k, c12, rfl, rfl⟩⟩
    · refine q_iconst (v := -1) dX8_out_15 (by decide) ?_
      refine q_goto (tgt := 27) dX8_out_16 (by decide) ?_
      exact q_ireturn dX8_out_27 rfl rfl ⟨rfl, rfl, _, rfl, Or.inr ⟨fun ⟨i, h1, h2⟩ => (by have := nI_un h2 hk (by omega); omega), rfl⟩⟩

theorem wn_le (s : Nat × (Nat → Nat)) (l : Nat) : (wn s l).1 ≤ s.1 + 2 := by
  unfold wn
  by_cases h : 9 < l
  · rw [if_pos h]; exact Nat.le_refl _
  · rw [if_neg h]; show s.1 + 1 ≤ _; omega
theorem wr_t (c l f0 : Nat → Nat) (k : Nat) : wr c l f0 (k + 1) = wp (wn (if 0 < k then wp (wr c l f0 k) 32 else wr c l f0 k) (l k)) (97 + c k - 1) := rfl

set_option maxHeartbeats 4000000 in
set_option maxRecDepth 100000 in
theorem l_X8_write {T : q_T} {G0 : q_G} {sz X p ln fi sr cr qS qQ gg gj ge vb : Nat} {x y : Int32} {I : md_I} {A : md_A} {pa lC lL : Nat → Nat} {E : q_E} (hD : Dig T) (hlr : Lr (pz_c A p ln) (pz_l A p ln) (pz_n A p ln) (pz_L A p ln)) (hlc : ∀ i, i < pz_n A p ln → lC i = pz_c A p ln i ∧ lL i = pz_l A p ln i) (hn10 : pz_n A p ln ≤ pz_L A p ln ∧ pz_L A p ln ≤ 10) (hgX : X + 46 ≤ sz) (hvX : vb = X + 6 ∨ X + 46 ≤ vb) (hvs : vb < sz) (hvp : vb < pa p ∨ pa p + 3 + 4 * (A 1 p + A 2 p) ≤ vb) (hgp : X + 46 ≤ pa p ∧ pa p + 3 + 4 * (A 1 p + A 2 p) ≤ sz) (hln : ln < A 1 p + A 2 p) (hx : ∀ (G : q_G) (u sz1 : Nat), Sht T G (X + 5) u (wr (pz_c A p ln) (pz_l A p ln) (A 27) (pz_n A p ln)).1 (wr (pz_c A p ln) (pz_l A p ln) (A 27) (pz_n A p ln)).2 → ((u = vb ∧ sz1 = sz) ∨ (sz ≤ u ∧ u < sz1)) → G X = some (q_ob 9 (rx_ob X (I 0) (I 7))) → G (pa p + 2 + 4 * ln) = some (q_ob 4 (li_ob (pa p + 2 + 4 * ln) fi sr (pz_L A p ln) cr (pz_n A p ln) qS qQ gg gj ge)) → (∀ b, b ≠ X + 5 ∧ b ≠ vb ∧ b < sz → G b = G0 b) → q_R T mX8_write 8 179 93 [some (.ref X), some (.int x), some (.int y), some (.ref (pa p + 2 + 4 * ln)), some (.int (nI (pz_n A p ln)))] [] G sz1 1 128 E) : ∀ (mZ : Nat) (k : Nat) (G : q_G) (u sz1 : Nat), mZ = pz_n A p ln - k → (k ≤ pz_n A p ln) → (Sht T G (X + 5) u (wr (pz_c A p ln) (pz_l A p ln) (A 27) k).1 (wr (pz_c A p ln) (pz_l A p ln) (A 27) k).2) → ((u = vb ∧ sz1 = sz) ∨ (sz ≤ u ∧ u < sz1)) → (G X = some (q_ob 9 (rx_ob X (I 0) (I 7)))) → (G (pa p + 2 + 4 * ln) = some (q_ob 4 (li_ob (pa p + 2 + 4 * ln) fi sr (pz_L A p ln) cr (pz_n A p ln) qS qQ gg gj ge))) → (G (pa p + 2 + 4 * ln + 1) = some (q_ia T (pz_L A p ln) (fun i => nI (lC i)))) → (G (pa p + 2 + 4 * ln + 2) = some (q_ia T (pz_L A p ln) (fun i => nI (lL i)))) → (∀ b, b ≠ X + 5 ∧ b ≠ vb ∧ b < sz → G b = G0 b) → q_R T mX8_write 8 179 27 [some (.ref X), some (.int x), some (.int y), some (.ref (pa p + 2 + 4 * ln)), some (.int (nI k))] [] G sz1 (3 * (pz_n A p ln - k) + 1) (128 * (3 * (pz_n A p ln - k) + 1)) E := by
  intro mZ
  induction mZ using Nat.strongRecOn with | ind mZ ih => ?_
  intro k G u sz1 hm hk hS hu hX hl hlC hlL hF
  obtain ⟨sml, sc, sf, hsb, hsv, hs1, hs2, hs3, -⟩ := id hS
  refine q_iload dX8_write_27 rfl ?_
  refine q_aload_n dX8_write_29 rfl rfl ?_
  refine q_get dX8_write_30 fl_X8_109 hl rfl ?_
  refine n_icmp_ge (tgt := 93) dX8_write_33 (by decide) (by omega) (by omega) (fun c33 => ?_) (fun c33 => ?_)
  · obtain rfl : k = pz_n A p ln := by omega
    exact q_R.less (hx G u sz1 hS hu hX hl hF) (by omega) (by omega)
  · have hwl := wr_le (pz_c A p ln) (pz_l A p ln) (A 27) k
    have hrn := hlr.1 k c33
    have hl10 : pz_l A p ln k ≤ 10 := Nat.le_trans (ln_l_le c33) (Nat.le_trans hlr.2.1 hlr.2.2)
    refine q_iload dX8_write_36 rfl ?_
    refine n_if_le (tgt := 51) dX8_write_38 (by decide) (by omega) (fun c38 => ?_) (fun c38 => ?_)
    · refine q_aload_n dX8_write_51 rfl rfl ?_
      refine q_get dX8_write_52 fl_X8_31 hX rfl ?_
      refine q_aload_n dX8_write_55 rfl rfl ?_
      refine q_get dX8_write_56 fl_X8_131 hl rfl ?_
      refine q_iload dX8_write_59 rfl ?_
      refine w_ld (v := pz_l A p ln k) dX8_write_61 hlL rfl (by omega) (by omega) ((hlc k c33).2) ?_
      refine q_iv (As := [_]) dX8_write_62 ml_X8_257 mt_J4_append_bf812 mi_J4_append_bf812 se_J4_append_bf812 hsb rfl rfl (Nat.le_of_ble_eq_true rfl) (Nat.le_of_ble_eq_true rfl) (by omega) (by omega) (Nat.le_of_ble_eq_true rfl) (q_C.mono (c_J4_appendI (s := wr (pz_c A p ln) (pz_l A p ln) (A 27) k) (l := pz_l A p ln k) hS (by omega) (by omega) (by omega) hD (by show (wr (pz_c A p ln) (pz_l A p ln) (A 27) k).1 + 2 ≤ 64; omega) hl10) (fun v G sz1 hq => ?_))
      obtain ⟨rfl, u1, hS, hv1, hN⟩ := hq
      have hu1 : (u1 = vb ∧ sz1 = sz) ∨ (sz ≤ u1 ∧ u1 < sz1) := by omega
      have hX := (hN _ (by omega)).trans hX
      have hl := (hN _ (by omega)).trans hl
      have hlC := (hN _ (by omega)).trans hlC
      have hlL := (hN _ (by omega)).trans hlL
      have hF : ∀ b, b ≠ X + 5 ∧ b ≠ vb ∧ b < sz → G b = G0 b := fun b hb => (hN b (by omega)).trans (hF b hb)
      obtain ⟨sml, sc, sf, hsb, hsv, -⟩ := id hS
      refine q_pop dX8_write_65 rfl ?_
      refine q_aload_n dX8_write_66 rfl rfl ?_
      refine q_get dX8_write_67 fl_X8_31 hX rfl ?_
      refine q_bipush (v := nI 97) dX8_write_70 (by decide) ?_
      refine q_aload_n dX8_write_72 rfl rfl ?_
      refine q_get dX8_write_73 fl_X8_129 hl rfl ?_
      refine q_iload dX8_write_76 rfl ?_
      refine w_ld (v := pz_c A p ln k) dX8_write_78 hlC rfl (by omega) (by omega) ((hlc k c33).1) ?_
      refine q_iadd dX8_write_79 (nI_add _ _) ?_
      refine q_iconst (v := nI 1) dX8_write_80 (by decide) ?_
      refine q_isub dX8_write_81 (pk_sub (by omega)) ?_
      refine q_i2c dX8_write_82 (y_nar (by omega)).2.2.2.2.2 ?_
      refine q_iv (As := [_]) dX8_write_83 ml_X8_254 mt_J4_append_cf468 mi_J4_append_cf468 se_J4_append_cf468 hsb rfl rfl (Nat.le_of_ble_eq_true rfl) (Nat.le_of_ble_eq_true rfl) (by omega) (by omega) (Nat.le_of_ble_eq_true rfl) (q_C.mono (c_J4_appendC (s := wn (wr (pz_c A p ln) (pz_l A p ln) (A 27) k) (pz_l A p ln k)) (x := 97 + pz_c A p ln k - 1) hS (by omega) (by omega) (by omega) (by have := wn_le (wr (pz_c A p ln) (pz_l A p ln) (A 27) k) (pz_l A p ln k); omega) (by omega)) (fun v G sz1 hq => ?_))
      obtain ⟨rfl, u2, hS, hv2, hN⟩ := hq
      have hu2 : (u2 = vb ∧ sz1 = sz) ∨ (sz ≤ u2 ∧ u2 < sz1) := by omega
      have hX := (hN _ (by omega)).trans hX
      have hl := (hN _ (by omega)).trans hl
      have hlC := (hN _ (by omega)).trans hlC
      have hlL := (hN _ (by omega)).trans hlL
      have hF : ∀ b, b ≠ X + 5 ∧ b ≠ vb ∧ b < sz → G b = G0 b := fun b hb => (hN b (by omega)).trans (hF b hb)
      obtain ⟨sml, sc, sf, hsb, hsv, -⟩ := id hS
      refine q_pop dX8_write_86 rfl ?_
      refine s_iinc dX8_write_87 rfl (s_inc1 _) (by decide) rfl ?_
      refine q_goto (tgt := 27) dX8_write_90 (by decide) ?_
      exact q_R.less (ih _ (by omega) (k + 1) G u2 sz1 rfl (by omega) (by rw [wr_t, if_neg (by omega)]; exact hS) hu2 hX hl hlC hlL hF) (by omega) (by omega)
    · refine q_aload_n dX8_write_41 rfl rfl ?_
      refine q_get dX8_write_42 fl_X8_31 hX rfl ?_
      refine q_bipush (v := nI 32) dX8_write_45 (by decide) ?_
      refine q_iv (As := [_]) dX8_write_47 ml_X8_254 mt_J4_append_cf468 mi_J4_append_cf468 se_J4_append_cf468 hsb rfl rfl (Nat.le_of_ble_eq_true rfl) (Nat.le_of_ble_eq_true rfl) (by omega) (by omega) (Nat.le_of_ble_eq_true rfl) (q_C.mono (c_J4_appendC (s := wr (pz_c A p ln) (pz_l A p ln) (A 27) k) (x := 32) hS (by omega) (by omega) (by omega) (by show (wr (pz_c A p ln) (pz_l A p ln) (A 27) k).1 + 1 ≤ 64; omega) (by decide)) (fun v G sz1 hq => ?_))
      obtain ⟨rfl, u1, hS, hv1, hN⟩ := hq
      have hu1 : (u1 = vb ∧ sz1 = sz) ∨ (sz ≤ u1 ∧ u1 < sz1) := by omega
      have hX := (hN _ (by omega)).trans hX
      have hl := (hN _ (by omega)).trans hl
      have hlC := (hN _ (by omega)).trans hlC
      have hlL := (hN _ (by omega)).trans hlL
      have hF : ∀ b, b ≠ X + 5 ∧ b ≠ vb ∧ b < sz → G b = G0 b := fun b hb => (hN b (by omega)).trans (hF b hb)
      obtain ⟨sml, sc, sf, hsb, hsv, -⟩ := id hS
      refine q_pop dX8_write_50 rfl ?_
      refine q_aload_n dX8_write_51 rfl rfl ?_
      refine q_get dX8_write_52 fl_X8_31 hX rfl ?_
      refine q_aload_n dX8_write_55 rfl rfl ?_
      refine q_get dX8_write_56 fl_X8_131 hl rfl ?_
      refine q_iload dX8_write_59 rfl ?_
      refine w_ld (v := pz_l A p ln k) dX8_write_61 hlL rfl (by omega) (by omega) ((hlc k c33).2) ?_
      refine q_iv (As := [_]) dX8_write_62 ml_X8_257 mt_J4_append_bf812 mi_J4_append_bf812 se_J4_append_bf812 hsb rfl rfl (Nat.le_of_ble_eq_true rfl) (Nat.le_of_ble_eq_true rfl) (by omega) (by omega) (Nat.le_of_ble_eq_true rfl) (q_C.mono (c_J4_appendI (s := wp (wr (pz_c A p ln) (pz_l A p ln) (A 27) k) 32) (l := pz_l A p ln k) hS (by omega) (by omega) (by omega) hD (by show (wr (pz_c A p ln) (pz_l A p ln) (A 27) k).1 + 1 + 2 ≤ 64; omega) hl10) (fun v G sz1 hq => ?_))
      obtain ⟨rfl, u2, hS, hv2, hN⟩ := hq
      have hu2 : (u2 = vb ∧ sz1 = sz) ∨ (sz ≤ u2 ∧ u2 < sz1) := by omega
      have hX := (hN _ (by omega)).trans hX
      have hl := (hN _ (by omega)).trans hl
      have hlC := (hN _ (by omega)).trans hlC
      have hlL := (hN _ (by omega)).trans hlL
      have hF : ∀ b, b ≠ X + 5 ∧ b ≠ vb ∧ b < sz → G b = G0 b := fun b hb => (hN b (by omega)).trans (hF b hb)
      obtain ⟨sml, sc, sf, hsb, hsv, -⟩ := id hS
      refine q_pop dX8_write_65 rfl ?_
      refine q_aload_n dX8_write_66 rfl rfl ?_
      refine q_get dX8_write_67 fl_X8_31 hX rfl ?_
      refine q_bipush (v := nI 97) dX8_write_70 (by decide) ?_
      refine q_aload_n dX8_write_72 rfl rfl ?_
      refine q_get dX8_write_73 fl_X8_129 hl rfl ?_
      refine q_iload dX8_write_76 rfl ?_
      refine w_ld (v := pz_c A p ln k) dX8_write_78 hlC rfl (by omega) (by omega) ((hlc k c33).1) ?_
      refine q_iadd dX8_write_79 (nI_add _ _) ?_
      refine q_iconst (v := nI 1) dX8_write_80 (by decide) ?_
      refine q_isub dX8_write_81 (pk_sub (by omega)) ?_
      refine q_i2c dX8_write_82 (y_nar (by omega)).2.2.2.2.2 ?_
      refine q_iv (As := [_]) dX8_write_83 ml_X8_254 mt_J4_append_cf468 mi_J4_append_cf468 se_J4_append_cf468 hsb rfl rfl (Nat.le_of_ble_eq_true rfl) (Nat.le_of_ble_eq_true rfl) (by omega) (by omega) (Nat.le_of_ble_eq_true rfl) (q_C.mono (c_J4_appendC (s := wn (wp (wr (pz_c A p ln) (pz_l A p ln) (A 27) k) 32) (pz_l A p ln k)) (x := 97 + pz_c A p ln k - 1) hS (by omega) (by omega) (by omega) (by have := wn_le (wp (wr (pz_c A p ln) (pz_l A p ln) (A 27) k) 32) (pz_l A p ln k); have e : (wp (wr (pz_c A p ln) (pz_l A p ln) (A 27) k) 32).1 = (wr (pz_c A p ln) (pz_l A p ln) (A 27) k).1 + 1 := rfl; omega) (by omega)) (fun v G sz1 hq => ?_))
      obtain ⟨rfl, u3, hS, hv3, hN⟩ := hq
      have hu3 : (u3 = vb ∧ sz1 = sz) ∨ (sz ≤ u3 ∧ u3 < sz1) := by omega
      have hX := (hN _ (by omega)).trans hX
      have hl := (hN _ (by omega)).trans hl
      have hlC := (hN _ (by omega)).trans hlC
      have hlL := (hN _ (by omega)).trans hlL
      have hF : ∀ b, b ≠ X + 5 ∧ b ≠ vb ∧ b < sz → G b = G0 b := fun b hb => (hN b (by omega)).trans (hF b hb)
      obtain ⟨sml, sc, sf, hsb, hsv, -⟩ := id hS
      refine q_pop dX8_write_86 rfl ?_
      refine s_iinc dX8_write_87 rfl (s_inc1 _) (by decide) rfl ?_
      refine q_goto (tgt := 27) dX8_write_90 (by decide) ?_
      exact q_R.less (ih _ (by omega) (k + 1) G u3 sz1 rfl (by omega) (by rw [wr_t, if_pos (by omega)]; exact hS) hu3 hX hl hlC hlL hF) (by omega) (by omega)

set_option maxHeartbeats 4000000 in
set_option maxRecDepth 100000 in
theorem c_X8_write {T : q_T} {G0 : q_G} {sz X t : Nat} {I : md_I} {A : md_A} {pa gq lv O : Nat → Nat} {m vb : Nat} (R : Rep T X I A G0 sz pa gq lv O m vb) (hI : Inv t I A) (hD : Dig T) (x y : Int32) : q_C T mX8_write 8 179 31 3968 [.ref X, .int x, .int y] G0 sz (fun v G' sz' => (sz ≤ sz' ∧ ∀ b, X + 18 ≤ b → b < X + 46 → G' b = G0 b) ∧ ∃ z I2 A2, v = some (.int z) ∧ D_write I A x y z I2 A2 ∧ RepX T X I2 A2 G' sz') := by
  refine q_C.of (by decide) rfl (by simp [Value.category]) (Nat.le_of_ble_eq_true rfl) ?_
  obtain ⟨hgeo, hX, hcP, hcG, hcan, hscr, hsht, hscn, hstl, hsea, hpic, hlvs, hgra, hgs1, hgs2, hPz, hGm⟩ := id R
  have hI0 := hI.1
  have hI7 := hI.2.2.2.2.1
  have hgX := hgeo.1
  obtain ⟨sml, sc, sf, hsb, hsv, hs1, hs2, hs3, hs4, hs5⟩ := id hsht
  refine q_aload_n dX8_write_0 rfl rfl ?_
  refine q_iload_n dX8_write_1 rfl ?_
  refine q_iv (As := [_]) dX8_write_2 ml_X8_85 mt_X8_puzzleAt mi_X8_puzzleAt se_X8_puzzleAt hX rfl rfl (Nat.le_of_ble_eq_true rfl) (Nat.le_of_ble_eq_true rfl) (Nat.zero_le _) (Nat.zero_le _) (Nat.le_of_ble_eq_true rfl) (q_C.mono (c_X8_puzzleAt hX hcP hI.1 _) (fun v G1 sz1 hq => ?_))
  obtain ⟨⟨p, hp, rfl, rfl⟩ | ⟨hno, rfl⟩, rfl, rfl⟩ := hq
  · have hz := (hI.2.1 p hp).1
    obtain ⟨hPl, Fd, hd, hFd⟩ := hPz p hp
    have hu := hPl.1
    obtain ⟨fL, hls, hfL⟩ := hPl.2.1
    have hwh := pz_size hz
    have hb10 := hz.2
    refine q_iload_n dX8_write_5 rfl ?_
    refine q_is (As := [_, _]) dX8_write_6 ml_X8_89 mt_X8_lineAt ms_X8_lineAt rfl (Nat.le_of_ble_eq_true rfl) (Nat.le_of_ble_eq_true rfl) (Nat.zero_le _) (Nat.zero_le _) (Nat.le_of_ble_eq_true rfl) (q_C.mono (c_X8_lineAt hu hls hfL (by omega) _) (fun v G1 sz1 hq => ?_))
    obtain ⟨⟨ln, hln, rfl, rfl⟩ | ⟨hnol, rfl⟩, rfl, rfl⟩ := hq
    · have hLn := hPl.2.2 ln hln
      obtain ⟨gg, gj, ge, lC, lL, lP, hl, hlC, hlL, hlP, hlc, hlb, hlr⟩ := id hLn
      have hl10 := hlr.2
      have hnS := (pl_p_S (c := pz_c A p ln) (l := pz_l A p ln) (n := pz_n A p ln) hlr.bd.2.2.1).1
      refine s_astore_n dX8_write_9 (by decide) rfl rfl ?_
      refine q_aload_n dX8_write_10 rfl rfl ?_
      refine q_ifnonnull (tgt := 16) dX8_write_11 (by decide) rfl (fun _ => ?_) (fun h => by cases h)
      refine q_aload_n dX8_write_16 rfl rfl ?_
      refine q_get dX8_write_17 fl_X8_31 hX rfl ?_
      refine q_iconst (v := nI 0) dX8_write_20 (by decide) ?_
      have hgp := (hgeo.2.2.1 p hp)
      have hv0 := R.vb
      have hvp := hv0.2.2.2 p hp
      refine q_iv (As := [_]) dX8_write_21 ml_X8_250 mt_J4_setLength_d00df mi_J4_setLength_d00df se_J4_setLength_d00df hsb rfl rfl (Nat.le_of_ble_eq_true rfl) (Nat.le_of_ble_eq_true rfl) (Nat.zero_le _) (Nat.zero_le _) (Nat.le_of_ble_eq_true rfl) (q_C.mono (c_J4_setLength hsht (by omega)) (fun v G sz1 hq => ?_))
      obtain ⟨rfl, rfl, hS, hN⟩ := hq
      have hF : ∀ b, b ≠ X + 5 ∧ b ≠ vb ∧ b < sz → G b = G0 b := fun b hb => hN b hb.1
      have hX := (hN _ (by omega)).trans hX
      have hl := (hN _ (by omega)).trans hl
      have hlC := (hN _ (by omega)).trans hlC
      have hlL := (hN _ (by omega)).trans hlL
      refine q_iconst (v := nI 0) dX8_write_24 (by decide) ?_
      refine s_istore dX8_write_25 (by decide) rfl ?_
      refine q_R.less (l_X8_write hD hlr hlc ⟨by omega, hlr.2.2⟩ hgX hv0.1 hv0.2.1 hvp ⟨hgp.1, hgp.2.1⟩ hln (fun G u sz1 hS hu hX hl hF => ?_) _ 0 G vb sz rfl (Nat.zero_le _) hS (Or.inl ⟨rfl, rfl⟩) hX hl hlC hlL hF) (by omega) (by omega)
      obtain ⟨sml, sc, sf, hsb, hsv, hs1, hs2, hs3, -⟩ := id hS
      refine q_aload_n dX8_write_93 rfl rfl ?_
      refine q_get dX8_write_94 fl_X8_109 hl rfl ?_
      refine n_if_ne (tgt := 110) dX8_write_97 (by decide) (by omega) (fun c97 => ?_) (fun c97 => ?_)
      · refine q_aload_n dX8_write_110 rfl rfl ?_
        refine q_get dX8_write_111 fl_X8_31 hX rfl ?_
        have hall : wr_all (pz_c A p ln) (pz_l A p ln) (A 27) (pz_n A p ln) = wr (pz_c A p ln) (pz_l A p ln) (A 27) (pz_n A p ln) := if_neg c97
        rw [← hall] at hS
        obtain ⟨sml, sc, sf, hsb, hsv, -⟩ := id hS
        refine q_iv (As := []) dX8_write_114 ml_X8_260 mt_J4_length_8abf5 mi_J4_length_8abf5 se_J4_length_8abf5 hsb rfl rfl (Nat.le_of_ble_eq_true rfl) (Nat.le_of_ble_eq_true rfl) (Nat.zero_le _) (Nat.zero_le _) (Nat.le_of_ble_eq_true rfl) (q_C.mono (c_J4_length hS) (fun v G1 sz1 hq => ?_))
        obtain ⟨rfl, rfl, rfl⟩ := hq
        exact q_ireturn dX8_write_117 rfl rfl ⟨⟨by omega, fun b b1 b2 => hF b (by omega)⟩, _, _, _, rfl, Or.inl ⟨p, ln, ⟨hp, rfl, hln, rfl⟩, rfl, rfl, rfl⟩, R.sheet hF hu (fun k hk => va_up_n _ _ hk) (fun k hk => va_up_n _ _ hk) (by rw [va_up_s, va_up_s]; exact hS)⟩
      · refine q_aload_n dX8_write_100 rfl rfl ?_
        refine q_get dX8_write_101 fl_X8_31 hX rfl ?_
        refine q_bipush (v := nI 48) dX8_write_104 (by decide) ?_
        have e0 : pz_n A p ln = 0 := c97
        rw [e0] at hS
        refine q_iv (As := [_]) dX8_write_106 ml_X8_254 mt_J4_append_cf468 mi_J4_append_cf468 se_J4_append_cf468 hsb rfl rfl (Nat.le_of_ble_eq_true rfl) (Nat.le_of_ble_eq_true rfl) (by omega) (by omega) (Nat.le_of_ble_eq_true rfl) (q_C.mono (c_J4_appendC (s := ((0, A 27) : Nat × (Nat → Nat))) (x := 48) hS (by omega) (by omega) (by omega) (Nat.le_of_ble_eq_true rfl) (by decide)) (fun v G sz1 hq => ?_))
        obtain ⟨rfl, u2, hS, hv2, hN⟩ := hq
        have hu2 : (u2 = vb ∧ sz1 = sz) ∨ (sz ≤ u2 ∧ u2 < sz1) := by omega
        have hF : ∀ b, b ≠ X + 5 ∧ b ≠ vb ∧ b < sz → G b = G0 b := fun b hb => (hN b (by omega)).trans (hF b hb)
        have hX := (hN _ (by omega)).trans hX
        have hall : wr_all (pz_c A p ln) (pz_l A p ln) (A 27) (pz_n A p ln) = wp (0, A 27) 48 := if_pos e0
        rw [← hall] at hS
        obtain ⟨sml, sc, sf, hsb, hsv, -⟩ := id hS
        refine q_pop dX8_write_109 rfl ?_
        refine q_aload_n dX8_write_110 rfl rfl ?_
        refine q_get dX8_write_111 fl_X8_31 hX rfl ?_
        refine q_iv (As := []) dX8_write_114 ml_X8_260 mt_J4_length_8abf5 mi_J4_length_8abf5 se_J4_length_8abf5 hsb rfl rfl (Nat.le_of_ble_eq_true rfl) (Nat.le_of_ble_eq_true rfl) (Nat.zero_le _) (Nat.zero_le _) (Nat.le_of_ble_eq_true rfl) (q_C.mono (c_J4_length hS) (fun v G1 sz1 hq => ?_))
        obtain ⟨rfl, rfl, rfl⟩ := hq
        exact q_ireturn dX8_write_117 rfl rfl ⟨⟨by omega, fun b b1 b2 => hF b (by omega)⟩, _, _, _, rfl, Or.inl ⟨p, ln, ⟨hp, rfl, hln, rfl⟩, rfl, rfl, rfl⟩, R.sheet hF hu2 (fun k hk => va_up_n _ _ hk) (fun k hk => va_up_n _ _ hk) (by rw [va_up_s, va_up_s]; exact hS)⟩
    · refine s_astore_n dX8_write_9 (by decide) rfl rfl ?_
      refine q_aload_n dX8_write_10 rfl rfl ?_
      refine q_ifnonnull (tgt := 16) dX8_write_11 (by decide) rfl (fun h => absurd rfl h) (fun _ => ?_)
      refine q_iconst (v := -1) dX8_write_14 (by decide) ?_
      exact q_ireturn dX8_write_15 rfl rfl ⟨⟨Nat.le_refl _, fun _ _ _ => rfl⟩, _, I, A, rfl, Or.inr ⟨fun ⟨p2, ln2, h1, h2, h3, h4⟩ => hnol ⟨ln2, by rw [nI_un h2 (by omega) (by omega)]; exact h3, h4⟩, rfl, rfl, rfl⟩, ⟨pa, gq, lv, O, m, vb, R⟩⟩
  · refine q_iload_n dX8_write_5 rfl ?_
    refine q_is (As := [_, _]) dX8_write_6 ml_X8_89 mt_X8_lineAt ms_X8_lineAt rfl (Nat.le_of_ble_eq_true rfl) (Nat.le_of_ble_eq_true rfl) (Nat.zero_le _) (Nat.zero_le _) (Nat.le_of_ble_eq_true rfl) (q_C.mono (c_X8_lineAt_null _) (fun v G1 sz1 hq => ?_))
    obtain ⟨rfl, rfl, rfl⟩ := hq
    refine s_astore_n dX8_write_9 (by decide) rfl rfl ?_
    refine q_aload_n dX8_write_10 rfl rfl ?_
    refine q_ifnonnull (tgt := 16) dX8_write_11 (by decide) rfl (fun h => absurd rfl h) (fun _ => ?_)
    refine q_iconst (v := -1) dX8_write_14 (by decide) ?_
    exact q_ireturn dX8_write_15 rfl rfl ⟨⟨Nat.le_refl _, fun _ _ _ => rfl⟩, _, I, A, rfl, Or.inr ⟨fun ⟨p2, ln2, h1, h2, h3, h4⟩ => hno ⟨p2, h1, h2⟩, rfl, rfl, rfl⟩, ⟨pa, gq, lv, O, m, vb, R⟩⟩
