set_option maxHeartbeats 4000000 in
set_option maxRecDepth 100000 in
theorem c_X8_turn {T : q_T} {G0 : q_G} {sz X t : Nat} {I : md_I} {A : md_A} {pa gq lv O : Nat → Nat} {m vb : Nat} (R : Rep T X I A G0 sz pa gq lv O m vb) (hI : Inv t I A) (x y : Int32) : q_C T mX8_turn 6 137 83 1207 [.ref X, .int x, .int y] G0 sz (fun v G' sz' => (sz ≤ sz' ∧ ∀ b, X + 18 ≤ b → b < X + 46 → G' b = G0 b) ∧ ∃ z, v = some (.int z) ∧ ∀ z' I2 A2, D_turn I A x y z' I2 A2 → z' = z ∧ RepX T X I2 A2 G' sz') := by
  refine q_C.of (by decide) rfl (by simp [Value.category]) (Nat.le_of_ble_eq_true rfl) ?_
  obtain ⟨hgeo, hX, hcP, hcG, hcan, hscr, hsht, hscn, hstl, hsea, hpic, hlvs, hgra, hgs1, hgs2, hPz, hGm⟩ := id R
  have hI0 := hI.1
  have hI7 := hI.2.2.2.2.1
  have hgX := hgeo.1
  refine q_aload_n dX8_turn_0 rfl rfl ?_
  refine q_iload_n dX8_turn_1 rfl ?_
  refine q_iv (As := [_]) dX8_turn_2 ml_X8_85 mt_X8_puzzleAt mi_X8_puzzleAt se_X8_puzzleAt hX rfl rfl (Nat.le_of_ble_eq_true rfl) (Nat.le_of_ble_eq_true rfl) (Nat.zero_le _) (Nat.zero_le _) (Nat.le_of_ble_eq_true rfl) (q_C.mono (c_X8_puzzleAt hX hcP hI.1 _) (fun v G1 sz1 hq => ?_))
  obtain ⟨⟨p, hp, rfl, rfl⟩ | ⟨hno, rfl⟩, rfl, rfl⟩ := hq
  · have hz := (hI.2.1 p hp).1
    obtain ⟨hPl, Fd, hd, hFd⟩ := hPz p hp
    have hu := hPl.1
    obtain ⟨fL, hls, hfL⟩ := hPl.2.1
    have hwh := pz_size hz
    have hb10 := hz.2
    refine s_astore_n dX8_turn_5 (by decide) rfl rfl ?_
    refine q_aload_n dX8_turn_6 rfl rfl ?_
    refine q_ifnull (tgt := 29) dX8_turn_7 (by decide) rfl (fun h => by cases h) (fun _ => ?_)
    refine q_iload_n dX8_turn_10 rfl ?_
    refine q_if_lt (tgt := 29) dX8_turn_11 (by decide) (fun c11 => ?_) (fun c11 => ?_)
    · refine q_iconst (v := -1) dX8_turn_29 (by decide) ?_
      exact q_ireturn dX8_turn_30 rfl rfl ⟨⟨Nat.le_refl _, fun _ _ _ => rfl⟩, _, rfl, fun z' I2 A2 hD => by
        rcases hD with ⟨p2, how2, ⟨h1, h2, h3, h4, h5⟩, -⟩ | ⟨-, rfl, rfl, rfl⟩
        · exact (show False from absurd c11 (by rw [h4]; exact nI_pos (by omega))).elim
        · exact ⟨rfl, pa, gq, lv, O, m, vb, R⟩⟩
    · obtain ⟨how, hh, rfl⟩ := nI_of c11
      refine q_iload_n dX8_turn_14 rfl ?_
      refine q_bipush (v := nI 8) dX8_turn_15 (by decide) ?_
      refine n_icmp_ge (tgt := 29) dX8_turn_17 (by decide) (by omega) (by omega) (fun c17 => ?_) (fun c17 => ?_)
      · refine q_iconst (v := -1) dX8_turn_29 (by decide) ?_
        exact q_ireturn dX8_turn_30 rfl rfl ⟨⟨Nat.le_refl _, fun _ _ _ => rfl⟩, _, rfl, fun z' I2 A2 hD => by
        rcases hD with ⟨p2, how2, ⟨h1, h2, h3, h4, h5⟩, -⟩ | ⟨-, rfl, rfl, rfl⟩
        · exact (show False from (by have := nI_un h4 hh (by omega); omega)).elim
        · exact ⟨rfl, pa, gq, lv, O, m, vb, R⟩⟩
      · refine q_aload_n dX8_turn_20 rfl rfl ?_
        refine q_get dX8_turn_21 fl_X8_67 hX rfl ?_
        refine q_bipush (v := nI 30) dX8_turn_24 (by decide) ?_
        refine n_icmp_lt (tgt := 31) dX8_turn_26 (by decide) (by omega) (by omega) (fun c26 => ?_) (fun c26 => ?_)
        · refine q_aload_n dX8_turn_31 rfl rfl ?_
          refine q_aload_n dX8_turn_32 rfl rfl ?_
          refine q_iload_n dX8_turn_33 rfl ?_
          have hgp := (hgeo.2.2.1 p hp)
          obtain ⟨hwb, hhb⟩ := tn_wb (how := how) hz
          refine q_iv (As := [_]) dX8_turn_34 ml_X8_198 mt_X4_turned mi_X4_turned se_X4_turned hu rfl rfl (Nat.le_of_ble_eq_true rfl) (Nat.le_of_ble_eq_true rfl) (by omega) (by omega) (Nat.le_of_ble_eq_true rfl) (q_C.mono (c_X4_turned hPl hz c17 (by omega)) (fun v G sz1 hq => ?_))
          obtain ⟨rfl, rfl, hF1, hPR⟩ := hq
          have hX := (hF1 _ (by omega)).trans hX
          obtain ⟨fP, hfP, hfo⟩ := hcP
          have hfP := (hF1 _ (by omega)).trans hfP
          refine q_iv (As := [_]) dX8_turn_37 ml_X8_81 mt_X8_admit mi_X8_admit se_X8_admit hX rfl rfl (Nat.le_of_ble_eq_true rfl) (Nat.le_of_ble_eq_true rfl) (Nat.zero_le _) (Nat.zero_le _) (Nat.le_of_ble_eq_true rfl) (q_C.mono (c_X8_admit hX hfP hPR.1 (by omega)) (fun v G4 sz1 hq => ?_))
          obtain ⟨rfl, rfl, hX4, hP4, hN4⟩ := hq
          exact q_ireturn dX8_turn_40 rfl rfl ⟨⟨by omega, fun b b1 b2 => (hN4 b (by omega)).trans (hF1 b (by omega))⟩, _, rfl, fun z' I2 A2 hD => by
        rcases hD with ⟨p2, how2, ⟨h1, h2, h3, h4, h5⟩, rfl, rfl, hD⟩ | ⟨hn, -⟩
        · have u1 := nI_un h2 (by omega) (by omega)
          have u2 := nI_un h4 (by omega) (by omega)
          subst u1; subst u2
          exact ⟨rfl, R.newp hI (by omega) hwb hhb hD (fun ln hl => (hz.2.2.2.2 _ (tn_src_lt hz.2.1.1 hz.2.2.1.1 (by have := tn_wh A p how; omega))).1) (hPR.fr (fun b hb => hN4 b (by omega))) hX4 hP4 (fun p hp => (va_up_n _ _ (by omega)).trans (hfo p hp)) (va_up_s _ _ _) (hscr.imp (fun _ h => (hN4 _ (by omega)).trans ((hF1 _ (by omega)).trans h))) (fun b hb hne => (hN4 b ⟨hne.1, hne.2.1⟩).trans (hF1 b hb))⟩
        · exact absurd ⟨p, how, hp, rfl, by omega, rfl, by omega⟩ hn⟩
        · refine q_iconst (v := -1) dX8_turn_29 (by decide) ?_
          exact q_ireturn dX8_turn_30 rfl rfl ⟨⟨Nat.le_refl _, fun _ _ _ => rfl⟩, _, rfl, fun z' I2 A2 hD => by
        rcases hD with ⟨p2, how2, ⟨h1, h2, h3, h4, h5⟩, -⟩ | ⟨-, rfl, rfl, rfl⟩
        · exact (show False from h5 (by omega)).elim
        · exact ⟨rfl, pa, gq, lv, O, m, vb, R⟩⟩
  · refine s_astore_n dX8_turn_5 (by decide) rfl rfl ?_
    refine q_aload_n dX8_turn_6 rfl rfl ?_
    refine q_ifnull (tgt := 29) dX8_turn_7 (by decide) rfl (fun _ => ?_) (fun h => absurd rfl h)
    refine q_iconst (v := -1) dX8_turn_29 (by decide) ?_
    exact q_ireturn dX8_turn_30 rfl rfl ⟨⟨Nat.le_refl _, fun _ _ _ => rfl⟩, _, rfl, fun z' I2 A2 hD => by
        rcases hD with ⟨p2, how2, ⟨h1, h2, h3, h4, h5⟩, -⟩ | ⟨-, rfl, rfl, rfl⟩
        · exact (show False from hno ⟨p2, h1, h2⟩).elim
        · exact ⟨rfl, pa, gq, lv, O, m, vb, R⟩⟩

set_option maxHeartbeats 4000000 in
set_option maxRecDepth 100000 in
theorem c_X8_game {T : q_T} {G0 : q_G} {sz X t : Nat} {I : md_I} {A : md_A} {pa gq lv O : Nat → Nat} {m vb : Nat} (R : Rep T X I A G0 sz pa gq lv O m vb) (hI : Inv t I A) (x : Int32) : q_C T mX8_game 2 45 5 709 [.ref X, .int x] G0 sz (fun v G' sz' => (sz ≤ sz' ∧ ∀ b, X + 18 ≤ b → b < X + 46 → G' b = G0 b) ∧ ∃ z I2 A2, v = some (.int z) ∧ D_game I A x z I2 A2 ∧ RepX T X I2 A2 G' sz') := by
  refine q_C.of (by decide) rfl (by simp [Value.category]) (Nat.le_of_ble_eq_true rfl) ?_
  obtain ⟨hgeo, hX, hcP, hcG, hcan, hscr, hsht, hscn, hstl, hsea, hpic, hlvs, hgra, hgs1, hgs2, hPz, hGm⟩ := id R
  have hI0 := hI.1
  have hI7 := hI.2.2.2.2.1
  have hgX := hgeo.1
  refine q_aload_n dX8_game_0 rfl rfl ?_
  refine q_iload_n dX8_game_1 rfl ?_
  refine q_iv (As := [_]) dX8_game_2 ml_X8_85 mt_X8_puzzleAt mi_X8_puzzleAt se_X8_puzzleAt hX rfl rfl (Nat.le_of_ble_eq_true rfl) (Nat.le_of_ble_eq_true rfl) (Nat.zero_le _) (Nat.zero_le _) (Nat.le_of_ble_eq_true rfl) (q_C.mono (c_X8_puzzleAt hX hcP hI.1 _) (fun v G1 sz1 hq => ?_))
  obtain ⟨⟨p, hp, rfl, rfl⟩ | ⟨hno, rfl⟩, rfl, rfl⟩ := hq
  · have hz := (hI.2.1 p hp).1
    obtain ⟨hPl, Fd, hd, hFd⟩ := hPz p hp
    have hu := hPl.1
    obtain ⟨fL, hls, hfL⟩ := hPl.2.1
    have hwh := pz_size hz
    have hb10 := hz.2
    refine s_astore_n dX8_game_5 (by decide) rfl rfl ?_
    refine q_aload_n dX8_game_6 rfl rfl ?_
    refine q_ifnull (tgt := 19) dX8_game_7 (by decide) rfl (fun h => by cases h) (fun _ => ?_)
    refine q_aload_n dX8_game_10 rfl rfl ?_
    refine q_get dX8_game_11 fl_X8_71 hX rfl ?_
    refine q_bipush (v := nI 20) dX8_game_14 (by decide) ?_
    refine n_icmp_lt (tgt := 21) dX8_game_16 (by decide) (by omega) (by omega) (fun c16 => ?_) (fun c16 => ?_)
    · have hgp := (hgeo.2.2.1 p hp)
      obtain ⟨fG, hG, hfo⟩ := hcG
      have hF : ∀ b, b < sz → b ≠ X ∧ b ≠ X + 2 ∧ b ≠ pa p → G0 b = G0 b := fun _ _ _ => rfl
      refine q_aload_n dX8_game_21 rfl rfl ?_
      refine q_iconst (v := nI 1) dX8_game_22 (by decide) ?_
      refine w_put (fs2 := pu_ob (pa p) (A 1 p) (A 2 p) (A 3 p) (pa p + 2 + 4 * (A 1 p + A 2 p)) 1) dX8_game_23 fl_X8_93 fp_X8_93 hu (Nat.le_of_ble_eq_true rfl) rfl rfl rfl (fun G hu hN => ?_)
      have hX := (hN _ (by omega)).trans hX
      have hG := (hN _ (by omega)).trans hG
      have hF : ∀ b, b < sz → b ≠ X ∧ b ≠ X + 2 ∧ b ≠ pa p → G b = G0 b := fun b hb hne => (hN b (by omega)).trans (hF b hb hne)
      refine q_aload_n dX8_game_26 rfl rfl ?_
      refine q_get dX8_game_27 fl_X8_17 hX rfl ?_
      refine q_aload_n dX8_game_30 rfl rfl ?_
      refine q_get dX8_game_31 fl_X8_71 hX rfl ?_
      refine w_new dX8_game_34 nw_X8_15 (by omega) (by omega) (fun G hq0 hN => ?_)
      have hX := (hN _ (by omega)).trans hX
      have hG := (hN _ (by omega)).trans hG
      have hu := (hN _ (by omega)).trans hu
      have hF : ∀ b, b < sz → b ≠ X ∧ b ≠ X + 2 ∧ b ≠ pa p → G b = G0 b := fun b hb hne => (hN b (by omega)).trans (hF b hb hne)
      refine q_dup dX8_game_37 rfl ?_
      refine q_iload_n dX8_game_38 rfl ?_
      refine q_aload_n dX8_game_39 rfl rfl ?_
      refine q_ii (As := [_, _]) dX8_game_40 ml_X8_205 mt_X0_init rfl mi_X0_init rfl rfl (Nat.le_of_ble_eq_true rfl) (Nat.le_of_ble_eq_true rfl) (by omega) (by omega) (Nat.le_of_ble_eq_true rfl) (q_C.mono (c_X0_init hq0 hu hwh (by omega)) (fun v G sz1 hq => ?_))
      obtain ⟨rfl, rfl, hN, gM, gC, gB, gA, hgM0, hGam⟩ := hq
      have hX := (hN _ (by omega)).trans hX
      have hG := (hN _ (by omega)).trans hG
      have hu := (hN _ (by omega)).trans hu
      have hF : ∀ b, b < sz → b ≠ X ∧ b ≠ X + 2 ∧ b ≠ pa p → G b = G0 b := fun b hb hne => (hN b (by omega)).trans (hF b hb hne)
      refine w_aas (t := 4) (k := I 7) dX8_game_43 hG rfl hGam.1 rfl rfl (by omega) (by omega) (fun G hG hN => ?_)
      have hX := (hN _ (by omega)).trans hX
      have hu := (hN _ (by omega)).trans hu
      have hGam := hGam.fr (fun b b1 b2 => hN b (by omega))
      have hF : ∀ b, b < sz → b ≠ X ∧ b ≠ X + 2 ∧ b ≠ pa p → G b = G0 b := fun b hb hne => (hN b (by omega)).trans (hF b hb hne)
      refine q_aload_n dX8_game_44 rfl rfl ?_
      refine q_dup dX8_game_45 rfl ?_
      refine q_get dX8_game_46 fl_X8_71 hX rfl ?_
      refine q_iconst (v := nI 1) dX8_game_49 (by decide) ?_
      refine q_iadd dX8_game_50 (nI_add _ _) ?_
      refine w_put (fs2 := rx_ob X (I 0) (I 7 + 1)) dX8_game_51 fl_X8_71 fp_X8_71 hX (Nat.le_of_ble_eq_true rfl) rfl rfl rfl (fun G hX hN => ?_)
      have hG := (hN _ (by omega)).trans hG
      have hu := (hN _ (by omega)).trans hu
      have hGam := hGam.fr (fun b b1 b2 => hN b (by omega))
      have hF : ∀ b, b < sz → b ≠ X ∧ b ≠ X + 2 ∧ b ≠ pa p → G b = G0 b := fun b hb hne => (hN b (by omega)).trans (hF b hb hne)
      refine q_aload_n dX8_game_54 rfl rfl ?_
      refine q_get dX8_game_55 fl_X8_71 hX rfl ?_
      refine q_iconst (v := nI 1) dX8_game_58 (by decide) ?_
      refine q_isub dX8_game_59 (show nI (I 7 + 1) - nI 1 = nI (I 7) by rw [pk_sub (by omega)]; rfl) ?_
      exact q_ireturn dX8_game_60 rfl rfl ⟨⟨by omega, fun b b1 b2 => hF b (by omega) (by omega)⟩, _, va_up I 7 (I 7 + 1), gm_A I A p, rfl, Or.inl ⟨p, hp, rfl, by omega, rfl, rfl, rfl⟩, R.newg hI hp (by omega) hX hG (fun g hg => (va_up_n _ _ (by omega)).trans (hfo g hg)) (va_up_s _ _ _) hu hGam hgM0 hF⟩
    · refine q_iconst (v := -1) dX8_game_19 (by decide) ?_
      exact q_ireturn dX8_game_20 rfl rfl ⟨⟨Nat.le_refl _, fun _ _ _ => rfl⟩, _, I, A, rfl, Or.inr ⟨fun ⟨p2, h1, h2, h3⟩ => h3 (by omega), rfl, rfl, rfl⟩, ⟨pa, gq, lv, O, m, vb, R⟩⟩
  · refine s_astore_n dX8_game_5 (by decide) rfl rfl ?_
    refine q_aload_n dX8_game_6 rfl rfl ?_
    refine q_ifnull (tgt := 19) dX8_game_7 (by decide) rfl (fun _ => ?_) (fun h => absurd rfl h)
    refine q_iconst (v := -1) dX8_game_19 (by decide) ?_
    exact q_ireturn dX8_game_20 rfl rfl ⟨⟨Nat.le_refl _, fun _ _ _ => rfl⟩, _, I, A, rfl, Or.inr ⟨fun ⟨p2, h1, h2, h3⟩ => hno ⟨p2, h1, h2⟩, rfl, rfl, rfl⟩, ⟨pa, gq, lv, O, m, vb, R⟩⟩

theorem cc_ne {a y x y2 x2 : Nat} (h2 : x2 < a) (hx : x < a) (e : ¬ (y2 = y ∧ x2 = x)) : y2 * a + x2 ≠ y * a + x := by
  intro h
  have ha : 0 < a := by omega
  have e1 : (y2 * a + x2) / a = y2 := by rw [Nat.mul_comm, Nat.mul_add_div ha, Nat.div_eq_of_lt h2, Nat.add_zero]
  have e2 : (y * a + x) / a = y := by rw [Nat.mul_comm, Nat.mul_add_div ha, Nat.div_eq_of_lt hx, Nat.add_zero]
  have e3 : y2 = y := by rw [← e1, ← e2, h]
  subst e3
  exact e ⟨rfl, by omega⟩

set_option maxHeartbeats 4000000 in
set_option maxRecDepth 100000 in
theorem l_cut_x {T : q_T} {G0 : q_G} {sz X n0 n1 a b c : Nat} {F : Nat → Nat} {E : q_E} (ha : 1 ≤ a ∧ a ≤ 10) (hb : 1 ≤ b ∧ b ≤ 10) (hc : c ≤ 3) (hF9 : ∀ x, x < 100 → F x ≤ 3) {y : Nat} (hy : y < b) (hx : ∀ (S : Nat → Nat) (G : q_G) (x6 : Option Value), (∀ y2 x2, y2 < y + 1 → x2 < a → S (y2 * a + x2) = F (10 * y2 + x2)) → (∀ x2, x2 < a → F (10 * y + x2) ≤ c) → (G X = some (q_ob 9 (rx_ob X n0 n1)) ∧ G (X + 3) = some (q_ia T 100 (fun i => nI (F i))) ∧ G (X + 4) = some (q_ia T 100 (fun i => nI (S i))) ∧ ∀ b, b ≠ X + 4 → G b = G0 b) → q_R T mX8_cutCanvas 0 0 61 [some (.ref X), some (.int (nI a)), some (.int (nI b)), some (.int (nI c)), some (.int (nI y)), some (.int (nI a)), x6] [] G sz 0 0 E) (hE0 : ∀ (S : Nat → Nat) (G : q_G) (x : Nat), x < a → c < F (10 * y + x) → (G X = some (q_ob 9 (rx_ob X n0 n1)) ∧ G (X + 3) = some (q_ia T 100 (fun i => nI (F i))) ∧ G (X + 4) = some (q_ia T 100 (fun i => nI (S i))) ∧ ∀ b, b ≠ X + 4 → G b = G0 b) → E (some (.int (nI 0))) G sz) : ∀ (mZ : Nat) (x : Nat) (S : Nat → Nat) (G : q_G) (x6 : Option Value), mZ = a - x → (x ≤ a) → (∀ y2 x2, (y2 < y ∨ (y2 = y ∧ x2 < x)) → x2 < a → S (y2 * a + x2) = F (10 * y2 + x2)) → (∀ x2, x2 < x → F (10 * y + x2) ≤ c) → (G X = some (q_ob 9 (rx_ob X n0 n1)) ∧ G (X + 3) = some (q_ia T 100 (fun i => nI (F i))) ∧ G (X + 4) = some (q_ia T 100 (fun i => nI (S i))) ∧ ∀ b, b ≠ X + 4 → G b = G0 b) → q_R T mX8_cutCanvas 0 0 12 [some (.ref X), some (.int (nI a)), some (.int (nI b)), some (.int (nI c)), some (.int (nI y)), some (.int (nI x)), x6] [] G sz 0 0 E := by
  intro mZ
  induction mZ using Nat.strongRecOn with | ind mZ ih => ?_
  intro x S G x6 hm hxa hS hok hw
  obtain ⟨hX, hcan, hscr, hF⟩ := hw
  refine q_iload dX8_cutCanvas_12 rfl ?_
  refine q_iload_n dX8_cutCanvas_14 rfl ?_
  refine n_icmp_ge (tgt := 61) dX8_cutCanvas_15 (by decide) (by omega) (by omega) (fun c15 => ?_) (fun c15 => ?_)
  · obtain rfl : x = a := by omega
    exact hx S G x6 (fun y2 x2 h1 h2 => hS y2 x2 (by omega) h2) hok ⟨hX, hcan, hscr, hF⟩
  · refine q_aload_n dX8_cutCanvas_18 rfl rfl ?_
    refine q_get dX8_cutCanvas_19 fl_X8_21 hX rfl ?_
    refine q_iload dX8_cutCanvas_22 rfl ?_
    refine q_bipush (v := nI 10) dX8_cutCanvas_24 (by decide) ?_
    refine q_imul dX8_cutCanvas_26 (pk_mul _ _) ?_
    refine q_iload dX8_cutCanvas_27 rfl ?_
    refine q_iadd dX8_cutCanvas_29 (nI_add _ _) ?_
    refine w_ld (k := y * 10 + x) (v := F (10 * y + x)) dX8_cutCanvas_30 hcan rfl (by omega) (by omega) (congrArg F (by omega)) ?_
    refine s_istore dX8_cutCanvas_31 (by decide) rfl ?_
    refine q_iload dX8_cutCanvas_33 rfl ?_
    refine q_iload_n dX8_cutCanvas_35 rfl ?_
    refine n_icmp_le (tgt := 41) dX8_cutCanvas_36 (by decide) (by have := hF9 (10 * y + x) (by omega); omega) (by omega) (fun c36 => ?_) (fun c36 => ?_)
    · refine q_aload_n dX8_cutCanvas_41 rfl rfl ?_
      refine q_get dX8_cutCanvas_42 fl_X8_25 hX rfl ?_
      refine q_iload dX8_cutCanvas_45 rfl ?_
      refine q_iload_n dX8_cutCanvas_47 rfl ?_
      refine q_imul dX8_cutCanvas_48 (pk_mul _ _) ?_
      refine q_iload dX8_cutCanvas_49 rfl ?_
      refine q_iadd dX8_cutCanvas_51 (nI_add _ _) ?_
      refine q_iload dX8_cutCanvas_52 rfl ?_
      refine w_st (k := y * a + x) (v := F (10 * y + x)) dX8_cutCanvas_54 hscr rfl (by have : y * a ≤ 9 * 10 := Nat.mul_le_mul (by omega) ha.2; omega) (by omega) rfl (fun G hscr hN => ?_)
      have hX := (hN _ (by omega)).trans hX
      have hcan := (hN _ (by omega)).trans hcan
      have hF : ∀ b, b ≠ X + 4 → G b = G0 b := fun b hb => (hN b (by omega)).trans (hF b hb)
      refine s_iinc dX8_cutCanvas_55 rfl (s_inc1 _) (by decide) rfl ?_
      refine q_goto (tgt := 12) dX8_cutCanvas_58 (by decide) ?_
      exact ih _ (by omega) (x + 1) _ G _ rfl (by omega) (fun y2 x2 h1 h2 => if e : y2 = y ∧ x2 = x then (by rw [e.1, e.2, va_up_s]) else (by rw [va_up_n _ _ (cc_ne h2 (by omega) e)]; exact hS y2 x2 (by omega) h2)) (fun x2 h2 => if e : x2 = x then (by rw [e]; omega) else hok x2 (by omega)) ⟨hX, hcan, hscr, hF⟩
    · refine q_iconst (v := nI 0) dX8_cutCanvas_39 (by decide) ?_
      exact q_ireturn dX8_cutCanvas_40 rfl (by decide +kernel) (hE0 S G x (by omega) (by omega) ⟨hX, hcan, hscr, hF⟩)

set_option maxHeartbeats 4000000 in
set_option maxRecDepth 100000 in
theorem l_cut_y {T : q_T} {G0 : q_G} {sz X n0 n1 a b c : Nat} {F : Nat → Nat} {E : q_E} (ha : 1 ≤ a ∧ a ≤ 10) (hb : 1 ≤ b ∧ b ≤ 10) (hc : c ≤ 3) (hF9 : ∀ x, x < 100 → F x ≤ 3) (hE1 : ∀ (S : Nat → Nat) (G : q_G), (∀ y2 x2, y2 < b → x2 < a → S (y2 * a + x2) = F (10 * y2 + x2)) → (∀ y2 x2, y2 < b → x2 < a → F (10 * y2 + x2) ≤ c) → (G X = some (q_ob 9 (rx_ob X n0 n1)) ∧ G (X + 3) = some (q_ia T 100 (fun i => nI (F i))) ∧ G (X + 4) = some (q_ia T 100 (fun i => nI (S i))) ∧ ∀ b, b ≠ X + 4 → G b = G0 b) → E (some (.int (nI 1))) G sz) (hE0 : ∀ (S : Nat → Nat) (G : q_G) (y x : Nat), y < b → x < a → c < F (10 * y + x) → (G X = some (q_ob 9 (rx_ob X n0 n1)) ∧ G (X + 3) = some (q_ia T 100 (fun i => nI (F i))) ∧ G (X + 4) = some (q_ia T 100 (fun i => nI (S i))) ∧ ∀ b, b ≠ X + 4 → G b = G0 b) → E (some (.int (nI 0))) G sz) : ∀ (mZ : Nat) (y : Nat) (S : Nat → Nat) (G : q_G) (x5 x6 : Option Value), mZ = b - y → (y ≤ b) → (∀ y2 x2, y2 < y → x2 < a → S (y2 * a + x2) = F (10 * y2 + x2)) → (∀ y2 x2, y2 < y → x2 < a → F (10 * y2 + x2) ≤ c) → (G X = some (q_ob 9 (rx_ob X n0 n1)) ∧ G (X + 3) = some (q_ia T 100 (fun i => nI (F i))) ∧ G (X + 4) = some (q_ia T 100 (fun i => nI (S i))) ∧ ∀ b, b ≠ X + 4 → G b = G0 b) → q_R T mX8_cutCanvas 0 0 3 [some (.ref X), some (.int (nI a)), some (.int (nI b)), some (.int (nI c)), some (.int (nI y)), x5, x6] [] G sz 0 0 E := by
  intro mZ
  induction mZ using Nat.strongRecOn with | ind mZ ih => ?_
  intro y S G x5 x6 hm hyb hS hok hw
  obtain ⟨hX, hcan, hscr, hF⟩ := hw
  refine q_iload dX8_cutCanvas_3 rfl ?_
  refine q_iload_n dX8_cutCanvas_5 rfl ?_
  refine n_icmp_ge (tgt := 67) dX8_cutCanvas_6 (by decide) (by omega) (by omega) (fun c6 => ?_) (fun c6 => ?_)
  · refine q_iconst (v := nI 1) dX8_cutCanvas_67 (by decide) ?_
    exact q_ireturn dX8_cutCanvas_68 rfl (by decide +kernel) (hE1 S G (fun y2 x2 h1 h2 => hS y2 x2 (by omega) h2) (fun y2 x2 h1 h2 => hok y2 x2 (by omega) h2) ⟨hX, hcan, hscr, hF⟩)
  · refine q_iconst (v := nI 0) dX8_cutCanvas_9 (by decide) ?_
    refine s_istore dX8_cutCanvas_10 (by decide) rfl ?_
    refine l_cut_x ha hb hc hF9 (by omega) (fun S G x6 hS2 hok2 hw => ?_) (fun S G x h1 h2 hw => hE0 S G y x (by omega) h1 h2 hw) _ 0 S G _ rfl (Nat.zero_le _) (fun y2 x2 h1 h2 => hS y2 x2 (by omega) h2) (fun _ h => absurd h (Nat.not_lt_zero _)) ⟨hX, hcan, hscr, hF⟩
    refine s_iinc dX8_cutCanvas_61 rfl (s_inc1 _) (by decide) rfl ?_
    refine q_goto (tgt := 3) dX8_cutCanvas_64 (by decide) ?_
    exact ih _ (by omega) (y + 1) S G _ _ rfl (by omega) hS2 (fun y2 x2 h1 h2 => if e : y2 = y then (by rw [e]; exact hok2 x2 h2) else hok y2 x2 (by omega) h2) hw

set_option maxHeartbeats 4000000 in
set_option maxRecDepth 100000 in
theorem c_X8_cutCanvas {T : q_T} {G0 : q_G} {sz X n0 n1 a b c : Nat} {F S : Nat → Nat} (ha : 1 ≤ a ∧ a ≤ 10) (hb : 1 ≤ b ∧ b ≤ 10) (hc : c ≤ 3) (hF9 : ∀ x, x < 100 → F x ≤ 3) (hX : G0 X = some (q_ob 9 (rx_ob X n0 n1))) (hcan : G0 (X + 3) = some (q_ia T 100 (fun i => nI (F i)))) (hscr : G0 (X + 4) = some (q_ia T 100 (fun i => nI (S i)))) : q_C T mX8_cutCanvas 0 0 0 0 [.ref X, .int (nI a), .int (nI b), .int (nI c)] G0 sz (fun v G' sz' => sz = sz' ∧ (∃ S : Nat → Nat, G' (X + 4) = some (q_ia T 100 (fun i => nI (S i))) ∧ ((∀ y2 x2, y2 < b → x2 < a → F (10 * y2 + x2) ≤ c) → ∀ y2 x2, y2 < b → x2 < a → S (y2 * a + x2) = F (10 * y2 + x2))) ∧ (∀ b, b ≠ X + 4 → G' b = G0 b) ∧ (((∀ y2 x2, y2 < b → x2 < a → F (10 * y2 + x2) ≤ c) ∧ v = some (.int (nI 1))) ∨ (¬ (∀ y2 x2, y2 < b → x2 < a → F (10 * y2 + x2) ≤ c) ∧ v = some (.int (nI 0))))) := by
  refine q_C.of (by decide) rfl (by simp [Value.category]) (Nat.le_of_ble_eq_true rfl) ?_
  refine q_iconst (v := nI 0) dX8_cutCanvas_0 (by decide) ?_
  refine s_istore dX8_cutCanvas_1 (by decide) rfl ?_
  exact l_cut_y ha hb hc hF9 (fun S G h1 h2 h3 => ⟨rfl, ⟨S, h3.2.2.1, fun _ => h1⟩, h3.2.2.2, Or.inl ⟨h2, rfl⟩⟩) (fun S G y x h1 h2 h3 h4 => ⟨rfl, ⟨S, h4.2.2.1, fun h => absurd (h y x h1 h2) (by omega)⟩, h4.2.2.2, Or.inr ⟨fun h => absurd (h y x h1 h2) (by omega), rfl⟩⟩) _ 0 S _ _ _ rfl (Nat.zero_le _) (fun _ _ h => absurd h (Nat.not_lt_zero _)) (fun _ _ h => absurd h (Nat.not_lt_zero _)) ⟨hX, hcan, hscr, fun _ _ => rfl⟩
