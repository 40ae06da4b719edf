/-! THE FACE: make -/
theorem mk_s_cg {g g' : Nat → Nat} : ∀ j, (∀ i, i < j → g i = g' i) → mk_s g j = mk_s g' j
  | 0, _ => rfl
  | j + 1, h => by
    show mk_1 (g j) (mk_s g j) = mk_1 (g' j) (mk_s g' j)
    rw [mk_s_cg j (fun i hi => h i (by omega)), h j (by omega)]
theorem mk_cell {A : md_A} {a b ln i : Nat} {S : Nat → Nat} (ha : a ≤ 10) (hb : b ≤ 10) (hS : ∀ y x, y < b → x < a → S (y * a + x) = A 9 (10 * y + x)) (hl : ln < a + b) (hi : i < mk_L a b ln) : li_fi a b ln + i * li_sr a b ln < 100 ∧ S (li_fi a b ln + i * li_sr a b ln) = mk_g A b ln i := by
  rw [li_cell]
  unfold mk_L at hi
  unfold ln_cell mk_g
  by_cases h : ln < b
  · rw [if_pos h] at hi
    rw [if_pos h, if_pos h]
    have : ln * a ≤ 9 * 10 := Nat.mul_le_mul (by omega) ha
    exact ⟨by omega, hS ln i h hi⟩
  · rw [if_neg h] at hi
    rw [if_neg h, if_neg h]
    have : i * a ≤ 9 * 10 := Nat.mul_le_mul (by omega) ha
    rw [show i * a + ln - b = i * a + (ln - b) by omega]
    exact ⟨by omega, hS i (ln - b) hi (by omega)⟩

set_option maxHeartbeats 4000000 in
set_option maxRecDepth 100000 in
theorem l_make {T : q_T} {G0 : q_G} {sz X n0 n1 a b c u : Nat} {A : md_A} {S : Nat → Nat} {E : q_E} {bc bs : Nat} (ha : 1 ≤ a ∧ a ≤ 10) (hb : 1 ≤ b ∧ b ≤ 10) (hXu : X + 46 ≤ u) (hg3 : ∀ ln i, ln < a + b → i < mk_L a b ln → mk_g A b ln i ≤ 3) (hS : ∀ y x, y < b → x < a → S (y * a + x) = A 9 (10 * y + x)) (hx : ∀ G : q_G, (G X = some (q_ob 9 (rx_ob X n0 n1))) → (G (X + 4) = some (q_ia T 100 (fun i => nI (S i)))) → (PuzR T G u a b c (a + b) (mk_f A a b)) → (∀ b, b < u → G b = G0 b) → q_R T mX8_make 5 113 69 [some (.ref X), some (.int (nI a)), some (.int (nI b)), some (.int (nI c)), some (.ref u), some (.int (nI (a + b)))] [] G sz bc bs E) : ∀ (mZ : Nat) (k : Nat) (G : q_G), mZ = a + b - k → (k ≤ a + b) → (G X = some (q_ob 9 (rx_ob X n0 n1))) → (G (X + 4) = some (q_ia T 100 (fun i => nI (S i)))) → (PuzR T G u a b c k (mk_f A a b)) → (∀ b, b < u → G b = G0 b) → q_R T mX8_make 5 113 37 [some (.ref X), some (.int (nI a)), some (.int (nI b)), some (.int (nI c)), some (.ref u), some (.int (nI k))] [] G sz bc bs E := by
  intro mZ
  induction mZ using Nat.strongRecOn with | ind mZ ih => ?_
  intro k G hm hk hX hscr hR hF
  have hu := hR.1
  obtain ⟨f2, hls, hf2⟩ := hR.2.1
  refine q_iload dX8_make_37 rfl ?_
  refine q_aload dX8_make_39 rfl rfl ?_
  refine q_get dX8_make_41 fl_X8_190 hu rfl ?_
  refine q_alen (t := 6) (v := nI (a + b)) dX8_make_44 hls rfl rfl ?_
  refine n_icmp_ge (tgt := 69) dX8_make_45 (by decide) (by omega) (by omega) (fun c45 => ?_) (fun c45 => ?_)
  · obtain rfl : k = a + b := by omega
    exact hx G hX hscr hR hF
  · refine q_aload dX8_make_48 rfl rfl ?_
    refine q_get dX8_make_50 fl_X8_190 hu rfl ?_
    refine q_iload dX8_make_53 rfl ?_
    refine q_aaload (t := 6) (v := .ref (u + 2 + 4 * k)) dX8_make_55 hls rfl rfl (by omega) (by omega) (congrArg va_rf (hf2 k (by omega))) ?_
    refine q_aload_n dX8_make_56 rfl rfl ?_
    refine q_get dX8_make_57 fl_X8_25 hX rfl ?_
    have hn0 := (hR.2.2.1 k c45).2 (Nat.le_refl _)
    obtain ⟨g0, j0, e0, C0, L0, P0, hlk, -⟩ := id (hn0 (fun _ => 0) (fun _ => 0))
    have hL10 : (if k < b then a else b) ≤ 10 := by split <;> omega
    have hmc : ∀ i, i < (if k < b then a else b) → li_fi a b k + i * li_sr a b k < 100 ∧ S (li_fi a b k + i * li_sr a b k) = mk_g A b k i := fun i hi => mk_cell ha.2 hb.2 hS c45 hi
    have h3 : ∀ i, i < (if k < b then a else b) → mk_g A b k i ≤ 3 := fun i hi => hg3 k i c45 hi
    refine q_iv (As := [_]) dX8_make_60 ml_X8_194 mt_X3_readRuns mi_X3_readRuns se_X3_readRuns hlk rfl rfl (Nat.le_of_ble_eq_true rfl) (Nat.le_of_ble_eq_true rfl) (Nat.zero_le _) (Nat.zero_le _) (Nat.le_of_ble_eq_true rfl) (q_C.mono (c_X3_readRuns hn0 hscr (by omega) hL10 (by omega) (fun i hi => ⟨(hmc i hi).1, by rw [(hmc i hi).2]; exact h3 i hi⟩)) (fun v G1 sz1 hq => ?_))
    obtain ⟨rfl, rfl, ⟨n1, la1, c1, l1, hmk, hLk⟩, hN⟩ := hq
    have hmk2 : mk_ln A a b k = (n1, la1, c1, l1) := by unfold mk_ln; rw [← hmk]; exact (mk_s_cg _ (fun i hi => (hmc i hi).2)).symm
    have hLR : LinR T G1 u a b k (mk_f A a b) := by unfold LinR mk_f; rw [hmk2]; exact hLk
    refine s_iinc dX8_make_63 rfl (s_inc1 _) (by decide) rfl ?_
    refine q_goto (tgt := 37) dX8_make_66 (by decide) ?_
    exact ih _ (by omega) (k + 1) G1 rfl (by omega) ((hN _ (by omega)).trans hX) ((hN _ (by omega)).trans hscr) (hR.next c45 hN hLR) (fun b hb => (hN b (by omega)).trans (hF b hb))

theorem mk_g3 {A : md_A} {a b c ln i : Nat} (ha : a ≤ 10) (hb : b ≤ 10) (hf : mk_fit A a b c) (hc : c ≤ 3) (hl : ln < a + b) (hi : i < mk_L a b ln) : mk_g A b ln i ≤ 3 := by
  unfold mk_L at hi
  unfold mk_g
  by_cases h : ln < b
  · rw [if_pos h] at hi ⊢
    exact Nat.le_trans (hf ln i h hi) hc
  · rw [if_neg h] at hi ⊢
    exact Nat.le_trans (hf i (ln - b) hi (by omega)) hc

theorem mk_f10 {A : md_A} {a b c ln : Nat} (ha : a ≤ 10) (hb : b ≤ 10) (hf : mk_fit A a b c) (hc : c ≤ 3) (hl : ln < a + b) : (mk_f A a b ln).1 ≤ 10 := by
  have h := mk_inv (g := mk_g A b ln) (C := 3) (mk_L a b ln) _ _ _ _ (fun k hk => mk_g3 ha hb hf hc hl hk) rfl
  have h1 := h.1
  have h2 : mk_L a b ln ≤ 10 := by unfold mk_L; split <;> omega
  exact Nat.le_trans h1 h2

set_option maxHeartbeats 4000000 in
set_option maxRecDepth 100000 in
theorem c_X8_make {T : q_T} {G0 : q_G} {sz X t : Nat} {I : md_I} {A : md_A} {pa gq lv O : Nat → Nat} {m vb : Nat} (R : Rep T X I A G0 sz pa gq lv O m vb) (hI : Inv t I A) (x y w : Int32) : q_C T mX8_make 5 113 83 1207 [.ref X, .int x, .int y, .int w] G0 sz (fun v G' sz' => (sz ≤ sz' ∧ ∀ b, X + 18 ≤ b → b < X + 46 → G' b = G0 b) ∧ ∃ z, v = some (.int z) ∧ ∀ z' I2 A2, D_make I A x y w z' I2 A2 → z' = z ∧ RepX T X I2 A2 G' sz') := by
  refine q_C.of (by decide) rfl (by simp [Value.category]) (Nat.le_of_ble_eq_true rfl) ?_
  obtain ⟨hgeo, hX, hcP, hcG, hcan, hscr, hsht, hscn, hstl, hsea, hpic, hlvs, hgra, hgs1, hgs2, hPz, hGm⟩ := id R
  have hI0 := hI.1
  have hI7 := hI.2.2.2.2.1
  have hgX := hgeo.1
  refine q_aload_n dX8_make_0 rfl rfl ?_
  refine q_iload_n dX8_make_1 rfl ?_
  refine q_iload_n dX8_make_2 rfl ?_
  refine q_iload_n dX8_make_3 rfl ?_
  refine q_iv (As := [_, _, _]) dX8_make_4 ml_X8_74 mt_X8_canCome mi_X8_canCome se_X8_canCome hX rfl rfl (Nat.le_of_ble_eq_true rfl) (Nat.le_of_ble_eq_true rfl) (Nat.zero_le _) (Nat.zero_le _) (Nat.le_of_ble_eq_true rfl) (q_C.mono (c_X8_canCome hX hI0 _ _ _) (fun v G1 sz1 hq => ?_))
  obtain ⟨⟨⟨a, b, c, hdz⟩, rfl⟩ | ⟨hnoc, rfl⟩, rfl, rfl⟩ := hq
  · obtain ⟨⟨ha1, ha, rfl⟩, ⟨hb1, hb, rfl⟩, ⟨hc1, hc, rfl⟩, hne30⟩ := id hdz
    refine q_if_eq (tgt := 20) dX8_make_7 (by decide) (fun h => absurd h (by decide)) (fun _ => ?_)
    refine q_aload_n dX8_make_10 rfl rfl ?_
    refine q_iload_n dX8_make_11 rfl ?_
    refine q_iload_n dX8_make_12 rfl ?_
    refine q_iload_n dX8_make_13 rfl ?_
    obtain ⟨cF, hcanv, hcF⟩ := hcan
    obtain ⟨sF, hscr0⟩ := hscr
    have h93 := hI.2.2.2.1
    refine q_iv (As := [_, _, _]) dX8_make_14 ml_X8_187 mt_X8_cutCanvas mi_X8_cutCanvas se_X8_cutCanvas hX rfl rfl (Nat.le_of_ble_eq_true rfl) (Nat.le_of_ble_eq_true rfl) (Nat.zero_le _) (Nat.zero_le _) (Nat.le_of_ble_eq_true rfl) (q_C.mono (c_X8_cutCanvas ⟨ha1, ha⟩ ⟨hb1, hb⟩ hc (fun x hx => by rw [hcF x hx]; exact h93 x hx) hX hcanv hscr0) (fun v G5 sz1 hq => ?_))
    obtain ⟨rfl, ⟨S5, hscr5, hS5⟩, hN5, hv5⟩ := hq
    have hfit : (∀ y2 x2, y2 < b → x2 < a → cF (10 * y2 + x2) ≤ c) ↔ mk_fit A a b c := ⟨fun h y2 x2 h1 h2 => by rw [← hcF _ (by omega)]; exact h y2 x2 h1 h2, fun h y2 x2 h1 h2 => by rw [hcF _ (by omega)]; exact h y2 x2 h1 h2⟩
    rcases hv5 with ⟨hf5, rfl⟩ | ⟨hf5, rfl⟩
    · refine q_if_ne (tgt := 22) dX8_make_17 (by decide) (fun _ => ?_) (fun h => absurd h (by decide))
      refine w_new dX8_make_22 nw_X8_9 (by omega) (by omega) (fun G hu hN => ?_)
      refine q_dup dX8_make_25 rfl ?_
      refine q_iload_n dX8_make_26 rfl ?_
      refine q_iload_n dX8_make_27 rfl ?_
      refine q_iload_n dX8_make_28 rfl ?_
      refine q_ii (As := [_, _, _]) dX8_make_29 ml_X8_78 mt_X4_init rfl mi_X4_init rfl rfl (Nat.le_of_ble_eq_true rfl) (Nat.le_of_ble_eq_true rfl) (by omega) (by omega) (Nat.le_of_ble_eq_true rfl) (q_C.mono (c_X4_init hu ⟨ha1, ha⟩ ⟨hb1, hb⟩ hc) (fun v G sz1 hq => ?_))
      obtain ⟨rfl, rfl, hN1, hPN⟩ := hq
      have hF0 : ∀ b, b < sz → G b = G5 b := fun b hb => (hN1 b hb).trans (hN b (by omega))
      refine s_astore dX8_make_32 (by decide) rfl rfl ?_
      refine q_iconst (v := nI 0) dX8_make_34 (by decide) ?_
      refine s_istore dX8_make_35 (by decide) rfl ?_
      have hfit1 := hfit.mp hf5
      refine l_make (A := A) (S := S5) (G0 := G5) ⟨ha1, ha⟩ ⟨hb1, hb⟩ hgX (fun ln i h1 h2 => mk_g3 ha hb hfit1 hc h1 h2) (fun y2 x2 h1 h2 => by rw [hS5 hf5 y2 x2 h1 h2]; exact hcF _ (by omega)) (fun G hX hscr hR hF6 => ?_) _ 0 G rfl (Nat.zero_le _) ((hF0 _ (by omega)).trans ((hN5 _ (by omega)).trans hX)) ((hF0 _ (by omega)).trans hscr5) (hPN.R _) hF0
      obtain ⟨fP, hfP, hfo⟩ := hcP
      have hfP := (hF6 _ (by omega)).trans ((hN5 _ (by omega)).trans hfP)
      refine q_aload_n dX8_make_69 rfl rfl ?_
      refine q_aload dX8_make_70 rfl rfl ?_
      refine q_iv (As := [_]) dX8_make_72 ml_X8_81 mt_X8_admit mi_X8_admit se_X8_admit hX rfl rfl (Nat.le_of_ble_eq_true rfl) (Nat.le_of_ble_eq_true rfl) (Nat.zero_le _) (Nat.zero_le _) (Nat.le_of_ble_eq_true rfl) (q_C.mono (c_X8_admit hX hfP hR.1 (by omega)) (fun v G4 sz1 hq => ?_))
      obtain ⟨rfl, rfl, hX4, hP4, hN4⟩ := hq
      exact q_ireturn dX8_make_75 rfl rfl ⟨⟨by omega, fun b b1 b2 => (hN4 b (by omega)).trans ((hF6 b (by omega)).trans (hN5 b (by omega)))⟩, _, rfl, fun z' I2 A2 hD => by
        rcases hD with ⟨a2, b2, c2, hdz2, hfit2, rfl, rfl, hD⟩ | ⟨hn, -⟩
        · obtain ⟨⟨-, -, e1⟩, ⟨-, -, e2⟩, ⟨-, -, e3⟩, -⟩ := id hdz2; obtain ⟨⟨q1, q2, -⟩, ⟨q3, q4, -⟩, ⟨q5, q6, -⟩, -⟩ := id hdz2; have u1 := nI_un e1 (by omega) (by omega); have u2 := nI_un e2 (by omega) (by omega); have u3 := nI_un e3 (by omega) (by omega); subst u1; subst u2; subst u3
          exact ⟨rfl, R.newp hI (by omega) ⟨ha1, ha⟩ ⟨hb1, hb⟩ hD (fun ln hl => mk_f10 ha hb hfit1 hc hl) (hR.fr (fun b hb => hN4 b (by omega))) hX4 hP4 (fun p hp => (va_up_n _ _ (by omega)).trans (hfo p hp)) (va_up_s _ _ _) ⟨_, (hN4 _ (by omega)).trans hscr⟩ (fun b hb hne => (hN4 b ⟨hne.1, hne.2.1⟩).trans ((hF6 b hb).trans (hN5 b hne.2.2)))⟩
        · exact absurd ⟨a, b, c, hdz, hfit1⟩ hn⟩
    · refine q_if_ne (tgt := 22) dX8_make_17 (by decide) (fun h => absurd h (by decide)) (fun _ => ?_)
      refine q_iconst (v := -1) dX8_make_20 (by decide) ?_
      exact q_ireturn dX8_make_21 rfl rfl ⟨⟨Nat.le_refl _, fun b b1 b2 => hN5 b (by omega)⟩, _, rfl, fun z' I2 A2 hD => by
        rcases hD with ⟨a2, b2, c2, hdz2, hfit2, -⟩ | ⟨-, rfl, rfl, rfl⟩
        · obtain ⟨⟨-, -, e1⟩, ⟨-, -, e2⟩, ⟨-, -, e3⟩, -⟩ := id hdz2; obtain ⟨⟨q1, q2, -⟩, ⟨q3, q4, -⟩, ⟨q5, q6, -⟩, -⟩ := id hdz2; have u1 := nI_un e1 (by omega) (by omega); have u2 := nI_un e2 (by omega) (by omega); have u3 := nI_un e3 (by omega) (by omega); subst u1; subst u2; subst u3
          exact absurd (hfit.mpr hfit2) hf5
        · exact ⟨rfl, pa, gq, lv, O, m, vb, R.work (fun b hb => hN5 b hb.1) ⟨_, hscr5⟩ (hscn.fr (fun b b1 b2 => hN5 b (by omega))) (hstl.imp (fun _ h => (hN5 _ (by omega)).trans h))⟩⟩
  · refine q_if_eq (tgt := 20) dX8_make_7 (by decide) (fun _ => ?_) (fun h => absurd h (by decide))
    refine q_iconst (v := -1) dX8_make_20 (by decide) ?_
    exact q_ireturn dX8_make_21 rfl rfl ⟨⟨Nat.le_refl _, fun _ _ _ => rfl⟩, _, rfl, fun z' I2 A2 hD => by
        rcases hD with ⟨a2, b2, c2, hdz2, hfit2, -⟩ | ⟨-, rfl, rfl, rfl⟩
        · exact (show False from hnoc ⟨a2, b2, c2, hdz2⟩).elim
        · exact ⟨rfl, pa, gq, lv, O, m, vb, R⟩⟩
