/-! THE FACE: calls that change a desk -/
def D_fresh (I : md_I) (A : md_A) (x z : Int32) (I2 : md_I) (A2 : md_A) : Prop := I2 = I ∧ ((∃ p, p < I 0 ∧ x = nI p ∧ z = nI 1 ∧ A2 = md_fill A 8 (100 * p) (A 1 p * A 2 p) (1 <<< (A 3 p + 1) - 1)) ∨ (¬ (∃ p, p < I 0 ∧ x = nI p) ∧ z = nI 0 ∧ A2 = A))
theorem Rep.desk {T : q_T} {X t : Nat} {I : md_I} {A A2 : md_A} {G G1 : q_G} {sz : Nat} {pa gq lv O : Nat → Nat} {m vb p : Nat} (R : Rep T X I A G sz pa gq lv O m vb) (hI : Inv t I A) (hp : p < I 0) (hA : ∀ k, k ≠ 8 → A2 k = A k) (h8 : ∀ q, q ≠ p → ∀ x, x < 100 → A2 8 (100 * q + x) = A 8 (100 * q + x)) (hN : ∀ b, (b ≠ X + 4 ∧ b ≠ X + 8 ∧ b ≠ X + 9 ∧ b ≠ X + 10 ∧ b ≠ X + 11) ∧ b ≠ pa p + 2 + 4 * (A 1 p + A 2 p) → G1 b = G b) (hscr : ∃ F : Nat → Nat, G1 (X + 4) = some (q_ia T 100 (fun i => nI (F i)))) (hscn : Scn T G1 (X + 7)) (hstl : ∃ W, G1 (X + 11) = some (q_ob 8 [.ref (X + 7), .int (nI W)])) (hd : ∃ F : Nat → Nat, G1 (pa p + 2 + 4 * (A 1 p + A 2 p)) = some (q_ia T (A 1 p * A 2 p) (fun i => nI (F i))) ∧ ∀ x, x < A 1 p * A 2 p → F x = A2 8 (100 * p + x)) : RepX T X I A2 G1 sz := by
  have hpz := (R.2.2.2.2.2.2.2.2.2.2.2.2.2.2.2.1 p hp)
  obtain ⟨q1, q2, q3⟩ := R.1.2.2.1 p hp
  refine ⟨pa, gq, lv, O, m, vb, R.one hp (fun k hk => hA k (by omega)) (fun q hq hne => ⟨peq_of (fun k h1 h2 => hA k (by omega)), fun x hx => h8 q hne x (by have := pz_size (hI.2.1 q hq).1; omega)⟩) (fun b h1 h2 => hN b ⟨h1, by omega⟩) hscr hscn hstl ?_⟩
  have e1 : A2 1 p = A 1 p := by rw [hA 1 (by decide)]
  have e2 : A2 2 p = A 2 p := by rw [hA 2 (by decide)]
  obtain ⟨F, hF1, hF2⟩ := hd
  refine ⟨?_, F, by rw [e1, e2]; exact hF1, by rw [e1, e2]; exact hF2⟩
  rw [e1, e2]
  exact (hpz.1.fr (fun b b1 b2 => hN b (by omega))).cg (peq_of (fun k h1 h2 => hA k (by omega)))
theorem fill_8 {A : md_A} {p n v q x : Nat} (hn : n ≤ 100) (hq : q ≠ p) (hx : x < 100) : md_fill A 8 (100 * p) n v 8 (100 * q + x) = A 8 (100 * q + x) := by
  rw [md_fill_at, if_neg (by omega)]
theorem cp_8 {A : md_A} {p n q x : Nat} {S : Nat → Nat} (hn : n ≤ 100) (hq : q ≠ p) (hx : x < 100) : md_cp A 8 (100 * p) S n 8 (100 * q + x) = A 8 (100 * q + x) := md_cp_out _ (by omega)

set_option maxHeartbeats 4000000 in
set_option maxRecDepth 100000 in
theorem c_X8_fresh {T : q_T} {G0 : q_G} {sz X t : Nat} {I : md_I} {A : md_A} {pa gq lv O : Nat → Nat} {m vb : Nat} (R : Rep T X I A G0 sz pa gq lv O m vb) (hI : Inv t I A) (x : Int32) : q_C T mX8_fresh 2 43 0 0 [.ref X, .int x] G0 sz (fun v G' sz' => (sz ≤ sz' ∧ ∀ b, X + 18 ≤ b → b < X + 46 → G' b = G0 b) ∧ ∃ z I2 A2, v = some (.int z) ∧ D_fresh I A x z I2 A2 ∧ RepX T X I2 A2 G' sz') := by
  refine q_C.of (by decide) rfl (by simp [Value.category]) (Nat.le_of_ble_eq_true rfl) ?_
  obtain ⟨hgeo, hX, hcP, hcG, hcan, hscr, hsht, hscn, hstl, hsea, hpic, hlvs, hgra, hgs1, hgs2, hPz, hGm⟩ := id R
  have hI0 := hI.1
  have hI7 := hI.2.2.2.2.1
  have hgX := hgeo.1
  refine q_aload_n dX8_fresh_0 rfl rfl ?_
  refine q_iload_n dX8_fresh_1 rfl ?_
  refine q_iv (As := [_]) dX8_fresh_2 ml_X8_85 mt_X8_puzzleAt mi_X8_puzzleAt se_X8_puzzleAt hX rfl rfl (Nat.le_of_ble_eq_true rfl) (Nat.le_of_ble_eq_true rfl) (Nat.zero_le _) (Nat.zero_le _) (Nat.le_of_ble_eq_true rfl) (q_C.mono (c_X8_puzzleAt hX hcP hI.1 _) (fun v G1 sz1 hq => ?_))
  obtain ⟨⟨p, hp, rfl, rfl⟩ | ⟨hno, rfl⟩, rfl, rfl⟩ := hq
  · have hz := (hI.2.1 p hp).1
    obtain ⟨hPl, Fd, hd, hFd⟩ := hPz p hp
    have hu := hPl.1
    obtain ⟨fL, hls, hfL⟩ := hPl.2.1
    have hwh := pz_size hz
    have hb10 := hz.2
    refine s_astore_n dX8_fresh_5 (by decide) rfl rfl ?_
    refine q_aload_n dX8_fresh_6 rfl rfl ?_
    refine q_ifnonnull (tgt := 12) dX8_fresh_7 (by decide) rfl (fun _ => ?_) (fun h => by cases h)
    refine q_aload_n dX8_fresh_12 rfl rfl ?_
    have hgp := (hgeo.2.2.1 p hp)
    refine q_iv (As := []) dX8_fresh_13 ml_X8_106 mt_X4_clearDesk mi_X4_clearDesk se_X4_clearDesk hu rfl rfl (Nat.le_of_ble_eq_true rfl) (Nat.le_of_ble_eq_true rfl) (Nat.zero_le _) (Nat.zero_le _) (Nat.le_of_ble_eq_true rfl) (q_C.mono (c_X4_clearDesk hu hd (by omega) (by omega)) (fun v G sz1 hq => ?_))
    obtain ⟨rfl, rfl, hd1, hN⟩ := hq
    refine q_iconst (v := nI 1) dX8_fresh_16 (by decide) ?_
    exact q_ireturn dX8_fresh_17 rfl (by decide +kernel) ⟨⟨Nat.le_refl _, fun b b1 b2 => hN b (by omega)⟩, _, I, _, rfl, ⟨rfl, Or.inl ⟨p, hp, rfl, rfl, rfl⟩⟩, R.desk hI hp (fun k hk => md_fill_k _ hk) (fun q hq x hx => fill_8 (by omega) hq hx) (fun b hb => hN b hb.2) (hscr.imp (fun _ h => (hN _ (by omega)).trans h)) (hscn.fr (fun b b1 b2 => hN b (by omega))) (hstl.imp (fun _ h => (hN _ (by omega)).trans h)) ⟨_, hd1, fun x hx => Eq.trans (if_pos hx) (by rw [md_fill_at, if_pos (by omega)])⟩⟩
  · refine s_astore_n dX8_fresh_5 (by decide) rfl rfl ?_
    refine q_aload_n dX8_fresh_6 rfl rfl ?_
    refine q_ifnonnull (tgt := 12) dX8_fresh_7 (by decide) rfl (fun h => absurd rfl h) (fun _ => ?_)
    refine q_iconst (v := nI 0) dX8_fresh_10 (by decide) ?_
    exact q_ireturn dX8_fresh_11 rfl (by decide +kernel) ⟨⟨Nat.le_refl _, fun _ _ _ => rfl⟩, _, I, A, rfl, ⟨rfl, Or.inr ⟨fun ⟨p', h1, h2⟩ => hno ⟨p', h1, h2⟩, rfl, rfl⟩⟩, ⟨pa, gq, lv, O, m, vb, R⟩⟩

set_option maxHeartbeats 4000000 in
set_option maxRecDepth 100000 in
theorem c_X8_choose {T : q_T} {G0 : q_G} {sz X t : Nat} {I : md_I} {A : md_A} {pa gq lv O : Nat → Nat} {m vb : Nat} (R : Rep T X I A G0 sz pa gq lv O m vb) (hI : Inv t I A) (x y w : Int32) : q_C T mX8_choose 2 43 0 0 [.ref X, .int x, .int y, .int w] G0 sz (fun v G' sz' => (sz ≤ sz' ∧ ∀ b, X + 18 ≤ b → b < X + 46 → G' b = G0 b) ∧ ∃ z I2 A2, v = some (.int z) ∧ D_choose I A x y w z I2 A2 ∧ RepX T X I2 A2 G' sz') := by
  refine q_C.of (by decide) rfl (by simp [Value.category]) (Nat.le_of_ble_eq_true rfl) ?_
  obtain ⟨hgeo, hX, hcP, hcG, hcan, hscr, hsht, hscn, hstl, hsea, hpic, hlvs, hgra, hgs1, hgs2, hPz, hGm⟩ := id R
  have hI0 := hI.1
  have hI7 := hI.2.2.2.2.1
  have hgX := hgeo.1
  refine q_aload_n dX8_choose_0 rfl rfl ?_
  refine q_iload_n dX8_choose_1 rfl ?_
  refine q_iv (As := [_]) dX8_choose_2 ml_X8_85 mt_X8_puzzleAt mi_X8_puzzleAt se_X8_puzzleAt hX rfl rfl (Nat.le_of_ble_eq_true rfl) (Nat.le_of_ble_eq_true rfl) (Nat.zero_le _) (Nat.zero_le _) (Nat.le_of_ble_eq_true rfl) (q_C.mono (c_X8_puzzleAt hX hcP hI.1 _) (fun v G1 sz1 hq => ?_))
  obtain ⟨⟨p, hp, rfl, rfl⟩ | ⟨hno, rfl⟩, rfl, rfl⟩ := hq
  · have hz := (hI.2.1 p hp).1
    obtain ⟨hPl, Fd, hd, hFd⟩ := hPz p hp
    have hu := hPl.1
    obtain ⟨fL, hls, hfL⟩ := hPl.2.1
    have hwh := pz_size hz
    have hb10 := hz.2
    refine s_astore dX8_choose_5 (by decide) rfl rfl ?_
    refine q_aload dX8_choose_7 rfl rfl ?_
    refine q_ifnull (tgt := 22) dX8_choose_9 (by decide) rfl (fun h => by cases h) (fun _ => ?_)
    refine q_aload dX8_choose_12 rfl rfl ?_
    refine q_iload_n dX8_choose_14 rfl ?_
    refine q_iload_n dX8_choose_15 rfl ?_
    have hgp := (hgeo.2.2.1 p hp)
    have h16 : ∀ a, a < A 1 p * A 2 p → Fd a < 16 := fun a ha => by rw [hFd a ha]; exact hI.ps hp a ha
    refine q_iv (As := [_, _]) dX8_choose_16 ml_X8_134 mt_X4_deskHolds mi_X4_deskHolds se_X4_deskHolds hu rfl rfl (Nat.le_of_ble_eq_true rfl) (Nat.le_of_ble_eq_true rfl) (Nat.zero_le _) (Nat.zero_le _) (Nat.le_of_ble_eq_true rfl) (q_C.mono (c_X4_deskHolds hu hd h16 (by omega) (by omega)) (fun v G1 sz1 hq => ?_))
    obtain ⟨⟨hq16, rfl⟩ | ⟨hq16, rfl⟩, rfl, rfl⟩ := hq
    · obtain ⟨c, k, hc, rfl, hk, rfl, hbit⟩ := hq16
      rw [hFd c hc] at hbit
      refine q_if_ne (tgt := 24) dX8_choose_19 (by decide) (fun _ => ?_) (fun h => absurd h (by decide))
      refine q_aload dX8_choose_24 rfl rfl ?_
      refine q_get dX8_choose_26 fl_X8_122 hu rfl ?_
      refine q_iload_n dX8_choose_29 rfl ?_
      refine q_iconst (v := nI 1) dX8_choose_30 (by decide) ?_
      refine q_iload_n dX8_choose_31 rfl ?_
      refine q_ishl dX8_choose_32 (n_shl (by omega) rfl) ?_
      refine w_st (k := c) (v := 1 <<< k) dX8_choose_33 hd rfl (by omega) (by omega) rfl (fun G hd hN => ?_)
      refine q_iconst (v := nI 1) dX8_choose_34 (by decide) ?_
      exact q_ireturn dX8_choose_35 rfl (by decide +kernel) ⟨⟨Nat.le_refl _, fun b b1 b2 => hN b (by omega)⟩, _, I, _, rfl, ⟨rfl, Or.inl ⟨p, c, k, ⟨hp, rfl, hc, rfl⟩, by omega, rfl, hbit, rfl, rfl⟩⟩, R.desk hI hp (fun k hk => md_st_k _ hk) (fun q hq x hx => md_st_n _ (by omega)) (fun b hb => hN b hb.2) (hscr.imp (fun _ h => (hN _ (by omega)).trans h)) (hscn.fr (fun b b1 b2 => hN b (by omega))) (hstl.imp (fun _ h => (hN _ (by omega)).trans h)) ⟨_, hd, fun x hx => if e : x = c then (by rw [e, va_up_s, md_st_s]) else (by rw [va_up_n _ _ e, md_st_n _ (by omega)]; exact hFd x hx)⟩⟩
    · refine q_if_ne (tgt := 24) dX8_choose_19 (by decide) (fun h => absurd h (by decide)) (fun _ => ?_)
      refine q_iconst (v := nI 0) dX8_choose_22 (by decide) ?_
      exact q_ireturn dX8_choose_23 rfl (by decide +kernel) ⟨⟨Nat.le_refl _, fun _ _ _ => rfl⟩, _, I, A, rfl, ⟨rfl, Or.inr ⟨fun ⟨p2, c2, k2, ⟨h1, h2, h3, h4⟩, h5, h6, h7⟩ => (by have e := nI_un h2 (by omega) (by omega); subst e; exact hq16 ⟨c2, k2, h3, h4, (by rcases Nat.lt_or_ge (A 3 p) k2 with g | g; rw [full_bit ((hI.2.1 p hp).2.2 c2 h3).2 g] at h7; cases h7; exact g), h6, by rw [hFd c2 h3]; exact h7⟩), rfl, rfl⟩⟩, ⟨pa, gq, lv, O, m, vb, R⟩⟩
  · refine s_astore dX8_choose_5 (by decide) rfl rfl ?_
    refine q_aload dX8_choose_7 rfl rfl ?_
    refine q_ifnull (tgt := 22) dX8_choose_9 (by decide) rfl (fun _ => ?_) (fun h => absurd rfl h)
    refine q_iconst (v := nI 0) dX8_choose_22 (by decide) ?_
    exact q_ireturn dX8_choose_23 rfl (by decide +kernel) ⟨⟨Nat.le_refl _, fun _ _ _ => rfl⟩, _, I, A, rfl, ⟨rfl, Or.inr ⟨fun ⟨p2, c2, k2, ⟨h1, h2, h3, h4⟩, h5, h6, h7⟩ => hno ⟨p2, h1, h2⟩, rfl, rfl⟩⟩, ⟨pa, gq, lv, O, m, vb, R⟩⟩

set_option maxHeartbeats 4000000 in
set_option maxRecDepth 100000 in
theorem c_X8_bar {T : q_T} {G0 : q_G} {sz X t : Nat} {I : md_I} {A : md_A} {pa gq lv O : Nat → Nat} {m vb : Nat} (R : Rep T X I A G0 sz pa gq lv O m vb) (hI : Inv t I A) (x y w : Int32) : q_C T mX8_bar 2 43 0 0 [.ref X, .int x, .int y, .int w] G0 sz (fun v G' sz' => (sz ≤ sz' ∧ ∀ b, X + 18 ≤ b → b < X + 46 → G' b = G0 b) ∧ ∃ z I2 A2, v = some (.int z) ∧ D_bar I A x y w z I2 A2 ∧ RepX T X I2 A2 G' sz') := by
  refine q_C.of (by decide) rfl (by simp [Value.category]) (Nat.le_of_ble_eq_true rfl) ?_
  obtain ⟨hgeo, hX, hcP, hcG, hcan, hscr, hsht, hscn, hstl, hsea, hpic, hlvs, hgra, hgs1, hgs2, hPz, hGm⟩ := id R
  have hI0 := hI.1
  have hI7 := hI.2.2.2.2.1
  have hgX := hgeo.1
  refine q_aload_n dX8_bar_0 rfl rfl ?_
  refine q_iload_n dX8_bar_1 rfl ?_
  refine q_iv (As := [_]) dX8_bar_2 ml_X8_85 mt_X8_puzzleAt mi_X8_puzzleAt se_X8_puzzleAt hX rfl rfl (Nat.le_of_ble_eq_true rfl) (Nat.le_of_ble_eq_true rfl) (Nat.zero_le _) (Nat.zero_le _) (Nat.le_of_ble_eq_true rfl) (q_C.mono (c_X8_puzzleAt hX hcP hI.1 _) (fun v G1 sz1 hq => ?_))
  obtain ⟨⟨p, hp, rfl, rfl⟩ | ⟨hno, rfl⟩, rfl, rfl⟩ := hq
  · have hz := (hI.2.1 p hp).1
    obtain ⟨hPl, Fd, hd, hFd⟩ := hPz p hp
    have hu := hPl.1
    obtain ⟨fL, hls, hfL⟩ := hPl.2.1
    have hwh := pz_size hz
    have hb10 := hz.2
    refine s_astore dX8_bar_5 (by decide) rfl rfl ?_
    refine q_aload dX8_bar_7 rfl rfl ?_
    refine q_ifnull (tgt := 35) dX8_bar_9 (by decide) rfl (fun h => by cases h) (fun _ => ?_)
    refine q_aload dX8_bar_12 rfl rfl ?_
    refine q_iload_n dX8_bar_14 rfl ?_
    refine q_iload_n dX8_bar_15 rfl ?_
    have hgp := (hgeo.2.2.1 p hp)
    have h16 : ∀ a, a < A 1 p * A 2 p → Fd a < 16 := fun a ha => by rw [hFd a ha]; exact hI.ps hp a ha
    refine q_iv (As := [_, _]) dX8_bar_16 ml_X8_134 mt_X4_deskHolds mi_X4_deskHolds se_X4_deskHolds hu rfl rfl (Nat.le_of_ble_eq_true rfl) (Nat.le_of_ble_eq_true rfl) (Nat.zero_le _) (Nat.zero_le _) (Nat.le_of_ble_eq_true rfl) (q_C.mono (c_X4_deskHolds hu hd h16 (by omega) (by omega)) (fun v G1 sz1 hq => ?_))
    obtain ⟨⟨hq16, rfl⟩ | ⟨hq16, rfl⟩, rfl, rfl⟩ := hq
    · obtain ⟨c, k, hc, rfl, hk, rfl, hbit⟩ := hq16
      rw [hFd c hc] at hbit
      refine q_if_eq (tgt := 35) dX8_bar_19 (by decide) (fun h => absurd h (by decide)) (fun _ => ?_)
      refine q_aload dX8_bar_22 rfl rfl ?_
      refine q_get dX8_bar_24 fl_X8_122 hu rfl ?_
      refine q_iload_n dX8_bar_27 rfl ?_
      refine w_ld (k := c) (v := A 8 (100 * p + c)) dX8_bar_28 hd rfl (by omega) (by omega) (hFd c hc) ?_
      refine q_is (As := [_]) dX8_bar_29 ml_X8_137 mt_X8_isOne ms_X8_isOne rfl (Nat.le_of_ble_eq_true rfl) (Nat.le_of_ble_eq_true rfl) (Nat.zero_le _) (Nat.zero_le _) (Nat.le_of_ble_eq_true rfl) (q_C.mono (c_X8_isOne (hI.ps hp c hc)) (fun v G1 sz1 hq => ?_))
      obtain ⟨⟨hq29, rfl⟩ | ⟨hq29, rfl⟩, rfl, rfl⟩ := hq
      · refine q_if_eq (tgt := 37) dX8_bar_32 (by decide) (fun h => absurd h (by decide)) (fun _ => ?_)
        refine q_iconst (v := nI 0) dX8_bar_35 (by decide) ?_
        exact q_ireturn dX8_bar_36 rfl (by decide +kernel) ⟨⟨Nat.le_refl _, fun _ _ _ => rfl⟩, _, I, A, rfl, ⟨rfl, Or.inr ⟨fun ⟨p2, c2, k2, ⟨h1, h2, h3, h4⟩, h5, h6, h7, h8⟩ => (by have e := nI_un h2 (by omega) (by omega); subst e; have e2 := nI_un h4 (by omega) (by omega); subst e2; exact h8 ((one_and (hI.ps hp c hc) ((hI.2.1 p hp).2.2 c hc).1).mp hq29)), rfl, rfl⟩⟩, ⟨pa, gq, lv, O, m, vb, R⟩⟩
      · refine q_if_eq (tgt := 37) dX8_bar_32 (by decide) (fun _ => ?_) (fun h => absurd h (by decide))
        refine q_aload dX8_bar_37 rfl rfl ?_
        refine q_get dX8_bar_39 fl_X8_122 hu rfl ?_
        refine q_iload_n dX8_bar_42 rfl ?_
        refine q_dup2 dX8_bar_43 rfl rfl ?_
        refine w_ld (k := c) (v := A 8 (100 * p + c)) dX8_bar_44 hd rfl (by omega) (by omega) (hFd c hc) ?_
        refine q_iconst (v := nI 1) dX8_bar_45 (by decide) ?_
        refine q_iload_n dX8_bar_46 rfl ?_
        refine q_ishl dX8_bar_47 (n_shl (by omega) rfl) ?_
        refine q_iconst (v := -1) dX8_bar_48 (by decide) ?_
        refine q_ixor dX8_bar_49 rfl ?_
        refine q_iand dX8_bar_50 (ln_df_i (hI.ps hp c hc) (shl_lt (by omega))) ?_
        refine w_st (k := c) (v := ln_df (A 8 (100 * p + c)) (1 <<< k)) dX8_bar_51 hd rfl (by omega) (by omega) rfl (fun G hd hN => ?_)
        refine q_iconst (v := nI 1) dX8_bar_52 (by decide) ?_
        exact q_ireturn dX8_bar_53 rfl (by decide +kernel) ⟨⟨Nat.le_refl _, fun b b1 b2 => hN b (by omega)⟩, _, I, _, rfl, ⟨rfl, Or.inl ⟨p, c, k, ⟨hp, rfl, hc, rfl⟩, by omega, rfl, hbit, fun h => hq29 ((one_and (hI.ps hp c hc) ((hI.2.1 p hp).2.2 c hc).1).mpr h), rfl, rfl⟩⟩, R.desk hI hp (fun k hk => md_st_k _ hk) (fun q hq x hx => md_st_n _ (by omega)) (fun b hb => hN b hb.2) (hscr.imp (fun _ h => (hN _ (by omega)).trans h)) (hscn.fr (fun b b1 b2 => hN b (by omega))) (hstl.imp (fun _ h => (hN _ (by omega)).trans h)) ⟨_, hd, fun x hx => if e : x = c then (by rw [e, va_up_s, md_st_s]) else (by rw [va_up_n _ _ e, md_st_n _ (by omega)]; exact hFd x hx)⟩⟩
    · refine q_if_eq (tgt := 35) dX8_bar_19 (by decide) (fun _ => ?_) (fun h => absurd h (by decide))
      refine q_iconst (v := nI 0) dX8_bar_35 (by decide) ?_
      exact q_ireturn dX8_bar_36 rfl (by decide +kernel) ⟨⟨Nat.le_refl _, fun _ _ _ => rfl⟩, _, I, A, rfl, ⟨rfl, Or.inr ⟨fun ⟨p2, c2, k2, ⟨h1, h2, h3, h4⟩, h5, h6, h7, h8⟩ => (by have e := nI_un h2 (by omega) (by omega); subst e; exact hq16 ⟨c2, k2, h3, h4, (by rcases Nat.lt_or_ge (A 3 p) k2 with g | g; rw [full_bit ((hI.2.1 p hp).2.2 c2 h3).2 g] at h7; cases h7; exact g), h6, by rw [hFd c2 h3]; exact h7⟩), rfl, rfl⟩⟩, ⟨pa, gq, lv, O, m, vb, R⟩⟩
  · refine s_astore dX8_bar_5 (by decide) rfl rfl ?_
    refine q_aload dX8_bar_7 rfl rfl ?_
    refine q_ifnull (tgt := 35) dX8_bar_9 (by decide) rfl (fun _ => ?_) (fun h => absurd rfl h)
    refine q_iconst (v := nI 0) dX8_bar_35 (by decide) ?_
    exact q_ireturn dX8_bar_36 rfl (by decide +kernel) ⟨⟨Nat.le_refl _, fun _ _ _ => rfl⟩, _, I, A, rfl, ⟨rfl, Or.inr ⟨fun ⟨p2, c2, k2, ⟨h1, h2, h3, h4⟩, h5, h6, h7, h8⟩ => hno ⟨p2, h1, h2⟩, rfl, rfl⟩⟩, ⟨pa, gq, lv, O, m, vb, R⟩⟩

theorem desk_on {A : md_A} {p : Nat} {F : Nat → Nat} (h : ∀ x, x < A 1 p * A 2 p → F x = A 8 (100 * p + x)) : pz_on A p F (fun x => A 8 (100 * p + x)) := fun x hx => h x hx

set_option maxHeartbeats 4000000 in
set_option maxRecDepth 100000 in
theorem c_X8_step {T : q_T} {G0 : q_G} {sz X t : Nat} {I : md_I} {A : md_A} {pa gq lv O : Nat → Nat} {m vb : Nat} (R : Rep T X I A G0 sz pa gq lv O m vb) (hI : Inv t I A) (x y : Int32) : q_C T mX8_step 3 76 0 0 [.ref X, .int x, .int y] G0 sz (fun v G' sz' => (sz ≤ sz' ∧ ∀ b, X + 18 ≤ b → b < X + 46 → G' b = G0 b) ∧ ∃ z I2 A2, v = some (.int z) ∧ D_step I A x y z I2 A2 ∧ RepX T X I2 A2 G' sz') := by
  refine q_C.of (by decide) rfl (by simp [Value.category]) (Nat.le_of_ble_eq_true rfl) ?_
  obtain ⟨hgeo, hX, hcP, hcG, hcan, hscr, hsht, hscn, hstl, hsea, hpic, hlvs, hgra, hgs1, hgs2, hPz, hGm⟩ := id R
  have hI0 := hI.1
  have hI7 := hI.2.2.2.2.1
  have hgX := hgeo.1
  refine q_aload_n dX8_step_0 rfl rfl ?_
  refine q_iload_n dX8_step_1 rfl ?_
  refine q_iv (As := [_]) dX8_step_2 ml_X8_85 mt_X8_puzzleAt mi_X8_puzzleAt se_X8_puzzleAt hX rfl rfl (Nat.le_of_ble_eq_true rfl) (Nat.le_of_ble_eq_true rfl) (Nat.zero_le _) (Nat.zero_le _) (Nat.le_of_ble_eq_true rfl) (q_C.mono (c_X8_puzzleAt hX hcP hI.1 _) (fun v G1 sz1 hq => ?_))
  obtain ⟨⟨p, hp, rfl, rfl⟩ | ⟨hno, rfl⟩, rfl, rfl⟩ := hq
  · have hz := (hI.2.1 p hp).1
    obtain ⟨hPl, Fd, hd, hFd⟩ := hPz p hp
    have hu := hPl.1
    obtain ⟨fL, hls, hfL⟩ := hPl.2.1
    have hwh := pz_size hz
    have hb10 := hz.2
    refine s_astore_n dX8_step_5 (by decide) rfl rfl ?_
    refine q_aload_n dX8_step_6 rfl rfl ?_
    refine q_iload_n dX8_step_7 rfl ?_
    refine q_is (As := [_, _]) dX8_step_8 ml_X8_89 mt_X8_lineAt ms_X8_lineAt rfl (Nat.le_of_ble_eq_true rfl) (Nat.le_of_ble_eq_true rfl) (Nat.zero_le _) (Nat.zero_le _) (Nat.le_of_ble_eq_true rfl) (q_C.mono (c_X8_lineAt hu hls hfL (by omega) _) (fun v G1 sz1 hq => ?_))
    obtain ⟨⟨ln, hln, rfl, rfl⟩ | ⟨hnol, rfl⟩, rfl, rfl⟩ := hq
    · have hLn := hPl.2.2 ln hln
      obtain ⟨gg, gj, ge, lC, lL, lP, hl, hlC, hlL, hlP, hlc, hlb, hlr⟩ := id hLn
      have hl10 := hlr.2
      have hnS := (pl_p_S (c := pz_c A p ln) (l := pz_l A p ln) (n := pz_n A p ln) hlr.bd.2.2.1).1
      refine s_astore dX8_step_11 (by decide) rfl rfl ?_
      refine q_aload_n dX8_step_13 rfl rfl ?_
      refine q_ifnull (tgt := 22) dX8_step_14 (by decide) rfl (fun h => by cases h) (fun _ => ?_)
      refine q_aload dX8_step_17 rfl rfl ?_
      refine q_ifnonnull (tgt := 26) dX8_step_19 (by decide) rfl (fun _ => ?_) (fun h => by cases h)
      refine q_aload_n dX8_step_26 rfl rfl ?_
      refine q_get dX8_step_27 fl_X8_47 hX rfl ?_
      refine q_aload dX8_step_30 rfl rfl ?_
      refine q_aload_n dX8_step_32 rfl rfl ?_
      refine q_get dX8_step_33 fl_X8_122 hu rfl ?_
      have hgp := (hgeo.2.2.1 p hp)
      obtain ⟨W0, hW0⟩ := hstl
      have h16 : Ps A p Fd := fun a ha => by rw [hFd a ha]; exact hI.ps hp a ha
      refine q_iv (As := [_, _]) dX8_step_36 ml_X8_144 mt_X7_narrow mi_X7_narrow se_X7_narrow hW0 rfl rfl (Nat.le_of_ble_eq_true rfl) (Nat.le_of_ble_eq_true rfl) (Nat.zero_le _) (Nat.zero_le _) (Nat.le_of_ble_eq_true rfl) (q_C.mono (c_X7_narrow (cl := pz_cell A p ln) hW0 hscn hLn hd (by omega) (by omega) (by omega) (by omega) (by omega) (by omega) (by omega) (fun i => li_cell _ _ _ _) (li_sr_pos hz) (pz_cr_le hz) (fun i hi => ⟨pz_cell_lt hz hln hi, h16 _ (pz_cell_lt hz hln hi)⟩)) (fun v G sz1 hq => ?_))
      obtain ⟨rfl, hN, ⟨K1, R1, hk1, hr1⟩, hv⟩ := hq
      have hscn1 : Scn T G (X + 7) := ⟨(hN _ (by omega)).trans hscn.1, ⟨K1, hk1⟩, ⟨R1, hr1⟩, hscn.2.2.2.imp (fun Y hY => (hN _ (by omega)).trans hY)⟩
      have hon := desk_on hFd
      have hWo := pz_on_W hz hln hon
      rcases hv with ⟨hv, rfl, ht1, hb1⟩ | ⟨hv, rfl, hb1, W1, hW1, ht1, hWb⟩
      · have hv : pz_W A p ln Fd = 0 := hv
        exact q_ireturn dX8_step_39 rfl rfl ⟨⟨Nat.le_refl _, fun b b1 b2 => hN b (by omega)⟩, _, I, A, rfl, ⟨rfl, Or.inl ⟨p, ln, ⟨hp, rfl, hln, rfl⟩, Or.inl ⟨by rw [← hWo]; exact hv, rfl, rfl⟩⟩⟩, R.desk hI hp (fun k hk => rfl) (fun q hq x hx => rfl) (fun b hb => hN b ⟨hb.1.2.1, hb.1.2.2.1, hb.1.2.2.2.2, hb.2⟩) (hscr.imp (fun _ h => (hN _ (by omega)).trans h)) (hscn1) (⟨W0, ht1.trans hW0⟩) ⟨Fd, hb1.trans hd, hFd⟩⟩
      · have hv : 0 < pz_W A p ln Fd := hv
        have hgo : gn_f (fun i => ln_df (Fd (pz_cell A p ln i)) (ln_K (pz_c A p ln) (pz_l A p ln) (pz_n A p ln) (pz_L A p ln) (fun j => Fd (pz_cell A p ln j)) i)) (pz_L A p ln) = pz_gone A p ln Fd := (gn_pz _).symm
        rw [hgo, pz_on_gone hz hln hon]
        have hst := pz_on_stp hz hln hon
        exact q_ireturn dX8_step_39 rfl rfl ⟨⟨Nat.le_refl _, fun b b1 b2 => hN b (by omega)⟩, _, I, _, rfl, ⟨rfl, Or.inl ⟨p, ln, ⟨hp, rfl, hln, rfl⟩, Or.inr ⟨by rw [← hWo]; exact hv, rfl, rfl⟩⟩⟩, R.desk hI hp (fun k hk => md_cp_k _ hk) (fun q hq x hx => cp_8 (by omega) hq hx) (fun b hb => hN b ⟨hb.1.2.1, hb.1.2.2.1, hb.1.2.2.2.2, hb.2⟩) (hscr.imp (fun _ h => (hN _ (by omega)).trans h)) (hscn1) (⟨W1, ht1⟩) ⟨pz_stp A p ln Fd, hb1, fun x hx => by rw [md_cp_in _ hx]; exact hst x hx⟩⟩
    · refine s_astore dX8_step_11 (by decide) rfl rfl ?_
      refine q_aload_n dX8_step_13 rfl rfl ?_
      refine q_ifnull (tgt := 22) dX8_step_14 (by decide) rfl (fun h => by cases h) (fun _ => ?_)
      refine q_aload dX8_step_17 rfl rfl ?_
      refine q_ifnonnull (tgt := 26) dX8_step_19 (by decide) rfl (fun h => absurd rfl h) (fun _ => ?_)
      refine q_iconst (v := -1) dX8_step_22 (by decide) ?_
      refine q_goto (tgt := 39) dX8_step_23 (by decide) ?_
      exact q_ireturn dX8_step_39 rfl rfl ⟨⟨Nat.le_refl _, fun _ _ _ => rfl⟩, _, I, A, rfl, ⟨rfl, Or.inr ⟨fun ⟨p2, ln2, h1, h2, h3, h4⟩ => hnol ⟨ln2, by rw [nI_un h2 (by omega) (by omega)]; exact h3, h4⟩, rfl, rfl⟩⟩, ⟨pa, gq, lv, O, m, vb, R⟩⟩
  · refine s_astore_n dX8_step_5 (by decide) rfl rfl ?_
    refine q_aload_n dX8_step_6 rfl rfl ?_
    refine q_iload_n dX8_step_7 rfl ?_
    refine q_is (As := [_, _]) dX8_step_8 ml_X8_89 mt_X8_lineAt ms_X8_lineAt rfl (Nat.le_of_ble_eq_true rfl) (Nat.le_of_ble_eq_true rfl) (Nat.zero_le _) (Nat.zero_le _) (Nat.le_of_ble_eq_true rfl) (q_C.mono (c_X8_lineAt_null _) (fun v G1 sz1 hq => ?_))
    obtain ⟨rfl, rfl, rfl⟩ := hq
    refine s_astore dX8_step_11 (by decide) rfl rfl ?_
    refine q_aload_n dX8_step_13 rfl rfl ?_
    refine q_ifnull (tgt := 22) dX8_step_14 (by decide) rfl (fun _ => ?_) (fun h => absurd rfl h)
    refine q_iconst (v := -1) dX8_step_22 (by decide) ?_
    refine q_goto (tgt := 39) dX8_step_23 (by decide) ?_
    exact q_ireturn dX8_step_39 rfl rfl ⟨⟨Nat.le_refl _, fun _ _ _ => rfl⟩, _, I, A, rfl, ⟨rfl, Or.inr ⟨fun ⟨p2, ln2, h1, h2, h3, h4⟩ => hno ⟨p2, h1, h2⟩, rfl, rfl⟩⟩, ⟨pa, gq, lv, O, m, vb, R⟩⟩
