set_option maxHeartbeats 4000000 in
set_option maxRecDepth 100000 in
theorem c_X8_canCome {T : q_T} {G : q_G} {sz X : Nat} {I : md_I} (hX : G X = some (q_ob 9 (rx_ob X (I 0) (I 7)))) (hl : I 0 ≤ 30) (x y w : Int32) : q_C T mX8_canCome 0 0 0 0 [.ref X, .int x, .int y, .int w] G sz (fun v G' sz' => (((∃ a b c, D_pz I x y w a b c) ∧ v = some (.int (nI 1))) ∨ (¬ (∃ a b c, D_pz I x y w a b c) ∧ v = some (.int (nI 0)))) ∧ G = G' ∧ sz = sz') := by
  refine q_C.of (by decide) rfl (by simp [Value.category]) (Nat.le_of_ble_eq_true rfl) ?_
  refine q_aload_n dX8_canCome_0 rfl rfl ?_
  refine q_get dX8_canCome_1 fl_X8_67 hX rfl ?_
  refine q_bipush (v := nI 30) dX8_canCome_4 (by decide) ?_
  refine n_icmp_ge (tgt := 45) dX8_canCome_6 (by decide) (by omega) (by omega) (fun c6 => ?_) (fun c6 => ?_)
  · refine q_iconst (v := nI 0) dX8_canCome_45 (by decide) ?_
    exact q_ireturn dX8_canCome_46 rfl (by decide +kernel) ⟨Or.inr ⟨fun ⟨a2, b2, c2, ⟨h1, h2, h3⟩, ⟨h4, h5, h6⟩, ⟨h7, h8, h9⟩, h10⟩ => h10 (by omega), rfl⟩, rfl, rfl⟩
  · refine q_iload_n dX8_canCome_9 rfl ?_
    refine q_iconst (v := nI 1) dX8_canCome_10 (by decide) ?_
    refine q_icmp_lt (tgt := 45) dX8_canCome_11 (by decide) (fun c11 => ?_) (fun c11 => ?_)
    · refine q_iconst (v := nI 0) dX8_canCome_45 (by decide) ?_
      exact q_ireturn dX8_canCome_46 rfl (by decide +kernel) ⟨Or.inr ⟨fun ⟨a2, b2, c2, ⟨h1, h2, h3⟩, ⟨h4, h5, h6⟩, ⟨h7, h8, h9⟩, h10⟩ => absurd c11 (by rw [h3]; exact nI_nlt h1 (by omega)), rfl⟩, rfl, rfl⟩
    · refine q_iload_n dX8_canCome_14 rfl ?_
      refine q_bipush (v := nI 10) dX8_canCome_15 (by decide) ?_
      refine q_icmp_gt (tgt := 45) dX8_canCome_17 (by decide) (fun c17 => ?_) (fun c17 => ?_)
      · refine q_iconst (v := nI 0) dX8_canCome_45 (by decide) ?_
        exact q_ireturn dX8_canCome_46 rfl (by decide +kernel) ⟨Or.inr ⟨fun ⟨a2, b2, c2, ⟨h1, h2, h3⟩, ⟨h4, h5, h6⟩, ⟨h7, h8, h9⟩, h10⟩ => absurd c17 (by rw [h3]; exact nI_nlt h2 (by omega)), rfl⟩, rfl, rfl⟩
      · obtain ⟨a, ha, rfl⟩ := nI_of2 (nI_toInt (show 10 < 2 ^ 31 by decide)) (fun h => c11 (Int32.lt_trans h (by decide))) (Int32.not_lt.mp c17)
        have ha1 : 1 ≤ a := by rcases Nat.eq_zero_or_pos a with h | h; exact absurd (by rw [h]; decide) c11; exact h
        refine q_iload_n dX8_canCome_20 rfl ?_
        refine q_iconst (v := nI 1) dX8_canCome_21 (by decide) ?_
        refine q_icmp_lt (tgt := 45) dX8_canCome_22 (by decide) (fun c22 => ?_) (fun c22 => ?_)
        · refine q_iconst (v := nI 0) dX8_canCome_45 (by decide) ?_
          exact q_ireturn dX8_canCome_46 rfl (by decide +kernel) ⟨Or.inr ⟨fun ⟨a2, b2, c2, ⟨h1, h2, h3⟩, ⟨h4, h5, h6⟩, ⟨h7, h8, h9⟩, h10⟩ => absurd c22 (by rw [h6]; exact nI_nlt h4 (by omega)), rfl⟩, rfl, rfl⟩
        · refine q_iload_n dX8_canCome_25 rfl ?_
          refine q_bipush (v := nI 10) dX8_canCome_26 (by decide) ?_
          refine q_icmp_gt (tgt := 45) dX8_canCome_28 (by decide) (fun c28 => ?_) (fun c28 => ?_)
          · refine q_iconst (v := nI 0) dX8_canCome_45 (by decide) ?_
            exact q_ireturn dX8_canCome_46 rfl (by decide +kernel) ⟨Or.inr ⟨fun ⟨a2, b2, c2, ⟨h1, h2, h3⟩, ⟨h4, h5, h6⟩, ⟨h7, h8, h9⟩, h10⟩ => absurd c28 (by rw [h6]; exact nI_nlt h5 (by omega)), rfl⟩, rfl, rfl⟩
          · obtain ⟨b, hb, rfl⟩ := nI_of2 (nI_toInt (show 10 < 2 ^ 31 by decide)) (fun h => c22 (Int32.lt_trans h (by decide))) (Int32.not_lt.mp c28)
            have hb1 : 1 ≤ b := by rcases Nat.eq_zero_or_pos b with h | h; exact absurd (by rw [h]; decide) c22; exact h
            refine q_iload_n dX8_canCome_31 rfl ?_
            refine q_iconst (v := nI 1) dX8_canCome_32 (by decide) ?_
            refine q_icmp_lt (tgt := 45) dX8_canCome_33 (by decide) (fun c33 => ?_) (fun c33 => ?_)
            · refine q_iconst (v := nI 0) dX8_canCome_45 (by decide) ?_
              exact q_ireturn dX8_canCome_46 rfl (by decide +kernel) ⟨Or.inr ⟨fun ⟨a2, b2, c2, ⟨h1, h2, h3⟩, ⟨h4, h5, h6⟩, ⟨h7, h8, h9⟩, h10⟩ => absurd c33 (by rw [h9]; exact nI_nlt h7 (by omega)), rfl⟩, rfl, rfl⟩
            · refine q_iload_n dX8_canCome_36 rfl ?_
              refine q_iconst (v := nI 3) dX8_canCome_37 (by decide) ?_
              refine q_icmp_gt (tgt := 45) dX8_canCome_38 (by decide) (fun c38 => ?_) (fun c38 => ?_)
              · refine q_iconst (v := nI 0) dX8_canCome_45 (by decide) ?_
                exact q_ireturn dX8_canCome_46 rfl (by decide +kernel) ⟨Or.inr ⟨fun ⟨a2, b2, c2, ⟨h1, h2, h3⟩, ⟨h4, h5, h6⟩, ⟨h7, h8, h9⟩, h10⟩ => absurd c38 (by rw [h9]; exact nI_nlt h8 (by omega)), rfl⟩, rfl, rfl⟩
              · obtain ⟨c, hc, rfl⟩ := nI_of2 (nI_toInt (show 3 < 2 ^ 31 by decide)) (fun h => c33 (Int32.lt_trans h (by decide))) (Int32.not_lt.mp c38)
                have hc1 : 1 ≤ c := by rcases Nat.eq_zero_or_pos c with h | h; exact absurd (by rw [h]; decide) c33; exact h
                refine q_iconst (v := nI 1) dX8_canCome_41 (by decide) ?_
                refine q_goto (tgt := 46) dX8_canCome_42 (by decide) ?_
                exact q_ireturn dX8_canCome_46 rfl (by decide +kernel) ⟨Or.inl ⟨⟨a, b, c, ⟨ha1, ha, rfl⟩, ⟨hb1, hb, rfl⟩, ⟨hc1, hc, rfl⟩, by omega⟩, rfl⟩, rfl, rfl⟩

set_option maxHeartbeats 4000000 in
set_option maxRecDepth 100000 in
theorem c_X8_admit {T : q_T} {G0 : q_G} {sz X n b u : Nat} {f : Nat → Option Nat} {vs : List Value} (hX : G0 X = some (q_ob 9 (rx_ob X n b))) (hP : G0 (X + 1) = some (q_ra T 3 30 f)) (hu : G0 u = some (q_ob 5 vs)) (hn : n < 30) : q_C T mX8_admit 0 0 0 0 [.ref X, .ref u] G0 sz (fun v G' sz' => sz = sz' ∧ v = some (.int (nI n)) ∧ G' X = some (q_ob 9 (rx_ob X (n + 1) b)) ∧ G' (X + 1) = some (q_ra T 3 30 (va_up f n (some u))) ∧ ∀ b, b ≠ X ∧ b ≠ X + 1 → G' b = G0 b) := by
  refine q_C.of (by decide) rfl (by simp [Value.category]) (Nat.le_of_ble_eq_true rfl) ?_
  have hF : ∀ b, b ≠ X ∧ b ≠ X + 1 → G0 b = G0 b := fun _ _ => rfl
  refine q_aload_n dX8_admit_0 rfl rfl ?_
  refine q_get dX8_admit_1 fl_X8_11 hX rfl ?_
  refine q_aload_n dX8_admit_4 rfl rfl ?_
  refine q_get dX8_admit_5 fl_X8_67 hX rfl ?_
  refine q_aload_n dX8_admit_8 rfl rfl ?_
  refine w_aas (t := 3) (k := n) dX8_admit_9 hP rfl hu rfl rfl (by omega) (by omega) (fun G hP hN => ?_)
  have hX := (hN _ (by omega)).trans hX
  have hF : ∀ b, b ≠ X ∧ b ≠ X + 1 → G b = G0 b := fun b hb => (hN b (by omega)).trans (hF b hb)
  refine q_aload_n dX8_admit_10 rfl rfl ?_
  refine q_dup dX8_admit_11 rfl ?_
  refine q_get dX8_admit_12 fl_X8_67 hX rfl ?_
  refine q_iconst (v := nI 1) dX8_admit_15 (by decide) ?_
  refine q_iadd dX8_admit_16 (nI_add _ _) ?_
  refine w_put (fs2 := rx_ob X (n + 1) b) dX8_admit_17 fl_X8_67 fp_X8_67 hX (Nat.le_of_ble_eq_true rfl) rfl rfl rfl (fun G hX hN => ?_)
  have hP := (hN _ (by omega)).trans hP
  have hF : ∀ b, b ≠ X ∧ b ≠ X + 1 → G b = G0 b := fun b hb => (hN b (by omega)).trans (hF b hb)
  refine q_aload_n dX8_admit_20 rfl rfl ?_
  refine q_get dX8_admit_21 fl_X8_67 hX rfl ?_
  refine q_iconst (v := nI 1) dX8_admit_24 (by decide) ?_
  refine q_isub dX8_admit_25 (show nI (n + 1) - nI 1 = nI n by rw [pk_sub (by omega)]; rfl) ?_
  exact q_ireturn dX8_admit_26 rfl rfl ⟨rfl, rfl, hX, hP, hF⟩

theorem D_runs_none {tt : Nat} {I : md_I} {A : md_A} (hI : Inv tt I A) (h30 : I 0 < 30) {a b c : Nat} (hab : a + b ≤ 20) (cc ll : Nat → Nat) : D_runs (D_new I A a b c) (D_new I A a b c) (I 0) (a + b) (fun _ => (0, cc, ll)) := by
  refine ⟨fun _ _ _ _ => rfl, ?_, fun _ _ => ⟨rfl, rfl⟩, fun ln _ i hi => absurd hi (Nat.not_lt_zero _)⟩
  funext j
  by_cases h : 20 * I 0 ≤ j ∧ j < 20 * I 0 + (a + b)
  · obtain ⟨d, rfl⟩ : ∃ d, j = 20 * I 0 + d := ⟨j - 20 * I 0, by omega⟩
    rw [md_cp_in _ (by omega), D_new_k (by decide)]
    exact (hI.2.2.1 (I 0) (Nat.le_refl _) h30).2 d (by omega)
  · rw [md_cp_out _ (by omega)]
theorem PuzN.full {T : q_T} {G : q_G} {u w h c : Nat} (H : PuzN T G u w h c) : PuzR T G u w h c (w + h) (fun _ => (0, fun _ => 0, fun _ => 0)) := ⟨H.1, H.2.1, fun ln hl => ⟨fun _ => H.2.2.1 ln hl _ _, fun h2 => absurd hl (by omega)⟩, H.2.2.2⟩
theorem PuzR.fr {T : q_T} {G G' : q_G} {u w h c K : Nat} {f : ru_F} (H : PuzR T G u w h c K f) (hF : ∀ b, u ≤ b → G' b = G b) : PuzR T G' u w h c K f := by
  obtain ⟨h1, ⟨g, h2, h3⟩, h4, F, h5, h6⟩ := H
  exact ⟨(hF _ (by omega)).trans h1, ⟨g, (hF _ (by omega)).trans h2, h3⟩, fun ln hl => ⟨fun hk => ((h4 ln hl).1 hk).fr (fun b b1 b2 => hF b (by omega)), fun hk => ((h4 ln hl).2 hk).fr (fun b b1 b2 => hF b (by omega))⟩, F, (hF _ (by omega)).trans h5, h6⟩

set_option maxHeartbeats 4000000 in
set_option maxRecDepth 100000 in
theorem c_X8_puzzle {T : q_T} {G0 : q_G} {sz X t : Nat} {I : md_I} {A : md_A} {pa gq lv O : Nat → Nat} {m vb : Nat} (R : Rep T X I A G0 sz pa gq lv O m vb) (hI : Inv t I A) (x y w : Int32) : q_C T mX8_puzzle 5 111 83 1207 [.ref X, .int x, .int y, .int w] G0 sz (fun v G' sz' => (sz ≤ sz' ∧ ∀ b, X + 18 ≤ b → b < X + 46 → G' b = G0 b) ∧ ∃ z I2 A2, v = some (.int z) ∧ D_puzzle I A x y w z I2 A2 ∧ RepX T X I2 A2 G' sz') := by
  refine q_C.of (by decide) rfl (by simp [Value.category]) (Nat.le_of_ble_eq_true rfl) ?_
  obtain ⟨hgeo, hX, hcP, hcG, hcan, hscr, hsht, hscn, hstl, hsea, hpic, hlvs, hgra, hgs1, hgs2, hPz, hGm⟩ := id R
  have hI0 := hI.1
  have hI7 := hI.2.2.2.2.1
  have hgX := hgeo.1
  refine q_aload_n dX8_puzzle_0 rfl rfl ?_
  refine q_iload_n dX8_puzzle_1 rfl ?_
  refine q_iload_n dX8_puzzle_2 rfl ?_
  refine q_iload_n dX8_puzzle_3 rfl ?_
  refine q_iv (As := [_, _, _]) dX8_puzzle_4 ml_X8_74 mt_X8_canCome mi_X8_canCome se_X8_canCome hX rfl rfl (Nat.le_of_ble_eq_true rfl) (Nat.le_of_ble_eq_true rfl) (Nat.zero_le _) (Nat.zero_le _) (Nat.le_of_ble_eq_true rfl) (q_C.mono (c_X8_canCome hX hI0 _ _ _) (fun v G1 sz1 hq => ?_))
  obtain ⟨⟨⟨a, b, c, hdz⟩, rfl⟩ | ⟨hnoc, rfl⟩, rfl, rfl⟩ := hq
  · obtain ⟨⟨ha1, ha, rfl⟩, ⟨hb1, hb, rfl⟩, ⟨hc1, hc, rfl⟩, hne30⟩ := id hdz
    refine q_if_ne (tgt := 12) dX8_puzzle_7 (by decide) (fun _ => ?_) (fun h => absurd h (by decide))
    refine q_aload_n dX8_puzzle_12 rfl rfl ?_
    refine w_new dX8_puzzle_13 nw_X8_9 (by omega) (by omega) (fun G hu hN => ?_)
    refine q_dup dX8_puzzle_16 rfl ?_
    refine q_iload_n dX8_puzzle_17 rfl ?_
    refine q_iload_n dX8_puzzle_18 rfl ?_
    refine q_iload_n dX8_puzzle_19 rfl ?_
    refine q_ii (As := [_, _, _]) dX8_puzzle_20 ml_X8_78 mt_X4_init rfl mi_X4_init rfl rfl (Nat.le_of_ble_eq_true rfl) (Nat.le_of_ble_eq_true rfl) (by omega) (by omega) (Nat.le_of_ble_eq_true rfl) (q_C.mono (c_X4_init hu ⟨ha1, ha⟩ ⟨hb1, hb⟩ hc) (fun v G sz1 hq => ?_))
    obtain ⟨rfl, rfl, hN1, hPN⟩ := hq
    have hF1 : ∀ b, b < sz → G b = G0 b := fun b hb => (hN1 b hb).trans (hN b (by omega))
    have hX := (hF1 _ (by omega)).trans hX
    obtain ⟨fP, hfP, hfo⟩ := hcP
    have hfP := (hF1 _ (by omega)).trans hfP
    refine q_iv (As := [_]) dX8_puzzle_23 ml_X8_81 mt_X8_admit mi_X8_admit se_X8_admit hX rfl rfl (Nat.le_of_ble_eq_true rfl) (Nat.le_of_ble_eq_true rfl) (Nat.zero_le _) (Nat.zero_le _) (Nat.le_of_ble_eq_true rfl) (q_C.mono (c_X8_admit hX hfP hPN.1 (by omega)) (fun v G4 sz1 hq => ?_))
    obtain ⟨rfl, rfl, hX4, hP4, hN4⟩ := hq
    exact q_ireturn dX8_puzzle_26 rfl rfl ⟨⟨by omega, fun b b1 b2 => (hN4 b (by omega)).trans (hF1 b (by omega))⟩, _, _, _, rfl, Or.inl ⟨a, b, c, hdz, rfl, rfl, rfl⟩, R.newp hI (by omega) ⟨ha1, ha⟩ ⟨hb1, hb⟩ (D_runs_none hI (by omega) (by omega) _ _) (fun _ _ => Nat.zero_le _) (hPN.full.fr (fun b hb => hN4 b (by omega))) hX4 hP4 (fun p hp => (va_up_n _ _ (by omega)).trans (hfo p hp)) (va_up_s _ _ _) (hscr.imp (fun _ h => (hN4 _ (by omega)).trans ((hF1 _ (by omega)).trans h))) (fun b hb hne => (hN4 b ⟨hne.1, hne.2.1⟩).trans (hF1 b hb))⟩
  · refine q_if_ne (tgt := 12) dX8_puzzle_7 (by decide) (fun h => absurd h (by decide)) (fun _ => ?_)
    refine q_iconst (v := -1) dX8_puzzle_10 (by decide) ?_
    exact q_ireturn dX8_puzzle_11 rfl rfl ⟨⟨Nat.le_refl _, fun _ _ _ => rfl⟩, _, I, A, rfl, Or.inr ⟨hnoc, rfl, rfl, rfl⟩, ⟨pa, gq, lv, O, m, vb, R⟩⟩
