/-! THE FACE: marks -/
def mk_A (A : md_A) (g c k : Nat) : md_A := md_st (md_st (md_st (md_st (md_st (md_st A 24 (200 * g + A 21 g) c) 25 (200 * g + A 21 g) (A 20 (100 * g + c))) 26 (200 * g + A 21 g) k) 21 g (A 21 g + 1)) 22 g (A 21 g + 1)) 20 (100 * g + c) k
theorem mk_A_k {A : md_A} {g c k i : Nat} (h : i < 20 ∨ 26 < i) : mk_A A g c k i = A i := by
  unfold mk_A
  rw [md_st_k _ (by omega), md_st_k _ (by omega), md_st_k _ (by omega), md_st_k _ (by omega), md_st_k _ (by omega), md_st_k _ (by omega)]
theorem mk_A_at {A : md_A} {g c k i j : Nat} : mk_A A g c k i j = if i = 20 ∧ j = 100 * g + c then k else if i = 22 ∧ j = g then A 21 g + 1 else if i = 21 ∧ j = g then A 21 g + 1 else if i = 26 ∧ j = 200 * g + A 21 g then k else if i = 25 ∧ j = 200 * g + A 21 g then A 20 (100 * g + c) else if i = 24 ∧ j = 200 * g + A 21 g then c else A i j := by
  unfold mk_A
  rw [md_st_at, md_st_at, md_st_at, md_st_at, md_st_at, md_st_at]
section
variable {T : q_T} {X t : Nat} {I : md_I} {A : md_A} {G G1 : q_G} {sz : Nat} {pa gq lv O : Nat → Nat} {m vb g : Nat}
theorem Rep.gm (R : Rep T X I A G sz pa gq lv O m vb) (hg : g < I 7) {A2 : md_A} (hA : ∀ k, k < 20 ∨ 26 < k → A2 k = A k) (ho : ∀ q, q < I 7 → q ≠ g → GEq A A2 q) (hN : ∀ b, b < gq g ∨ gq g + 5 ≤ b → G1 b = G b) (hGm : GamR T G1 (gq g) (pa (A 19 g)) A2 g) : RepX T X I A2 G1 sz := by
  obtain ⟨q1, q2, q3⟩ := R.1.2.2.2.1 g hg
  exact ⟨pa, gq, lv, O, m, vb, R.gam1 hg hA ho (fun b _ h => hN b h) (R.2.2.2.2.2.1.imp (fun _ h => (hN _ (by omega)).trans h)) (R.2.2.2.2.2.2.2.1.fr (fun b b1 b2 => hN b (by omega))) (R.2.2.2.2.2.2.2.2.1.imp (fun _ h => (hN _ (by omega)).trans h)) hGm⟩
end
theorem un_A_k {A : md_A} {g d c v i : Nat} (h : i < 20 ∨ 26 < i) : md_st (md_st A 21 g d) 20 c v i = A i := by
  rw [md_st_k _ (by omega), md_st_k _ (by omega)]
theorem un_A_at {A : md_A} {g d c v i j : Nat} : md_st (md_st A 21 g d) 20 c v i j = if i = 20 ∧ j = c then v else if i = 21 ∧ j = g then d else A i j := by
  rw [md_st_at, md_st_at]

theorem mk_geq {t : Nat} {I : md_I} {A : md_A} (hI : Inv t I A) {g c k q : Nat} (hg : g < I 7) (hc : c < A 1 (A 19 g) * A 2 (A 19 g)) (hd : A 21 g < 200) (hq : q < I 7) (hne : q ≠ g) : GEq A (mk_A A g c k) q := by
  have h1 := pz_size (hI.2.1 _ (hI.2.2.2.2.2.1 q hq).1).1
  have h2 := pz_size (hI.2.1 _ (hI.2.2.2.2.2.1 g hg).1).1
  have h3 := (hI.2.2.2.2.2.1 q hq).2.2.1
  refine ⟨by rw [mk_A_k (by omega)], ?_, ?_, ?_, by rw [mk_A_k (by omega)], by rw [mk_A_k (by omega)], fun i hi => ?_, fun i hi => ⟨?_, ?_, ?_⟩⟩ <;> rw [mk_A_at] <;> (repeat (first | rw [if_neg (by omega)])) 
theorem mk_gam {T : q_T} {G : q_G} {A : md_A} {g c k q u : Nat} {M C Bf Af : Nat → Nat} (hdk : A 21 g ≤ A 22 g) (H : Gam T G q (A 19 g) u (A 1 (A 19 g) * A 2 (A 19 g)) (A 21 g + 1) (A 21 g + 1) (A 23 g) (va_up M c k) (va_up C (A 21 g) c) (va_up Bf (A 21 g) (A 20 (100 * g + c))) (va_up Af (A 21 g) k)) (hm : ∀ i, i < A 1 (A 19 g) * A 2 (A 19 g) → M i = A 20 (100 * g + i)) (hc : ∀ i, i < A 22 g → C i = A 24 (200 * g + i) ∧ Bf i = A 25 (200 * g + i) ∧ Af i = A 26 (200 * g + i)) : GamR T G q u (mk_A A g c k) g := by
  have e19 : mk_A A g c k 19 = A 19 := mk_A_k (by omega)
  have e1 : mk_A A g c k 1 = A 1 := mk_A_k (by omega)
  have e2 : mk_A A g c k 2 = A 2 := mk_A_k (by omega)
  have e21 : mk_A A g c k 21 g = A 21 g + 1 := by rw [mk_A_at, if_neg (by omega), if_neg (by omega), if_pos ⟨rfl, rfl⟩]
  have e22 : mk_A A g c k 22 g = A 21 g + 1 := by rw [mk_A_at, if_neg (by omega), if_pos ⟨rfl, rfl⟩]
  have e23 : mk_A A g c k 23 g = A 23 g := by rw [mk_A_at, if_neg (by omega), if_neg (by omega), if_neg (by omega), if_neg (by omega), if_neg (by omega), if_neg (by omega)]
  refine ⟨_, _, _, _, by rw [e19, e1, e2, e21, e22, e23]; exact H, fun i hi => ?_, fun i hi => ?_⟩
  · rw [e19, e1, e2] at hi
    rw [mk_A_at]
    by_cases h : i = c
    · rw [h, va_up_s, if_pos ⟨rfl, rfl⟩]
    · rw [va_up_n _ _ h, if_neg (by omega), if_neg (by omega), if_neg (by omega), if_neg (by omega), if_neg (by omega), if_neg (by omega)]; exact hm i hi
  · rw [e22] at hi
    rw [mk_A_at, mk_A_at, mk_A_at]
    by_cases h : i = A 21 g
    · rw [h, va_up_s, va_up_s, va_up_s, if_neg (by omega), if_neg (by omega), if_neg (by omega), if_neg (by omega), if_neg (by omega), if_pos ⟨rfl, rfl⟩]
      refine ⟨rfl, ?_, ?_⟩
      · rw [if_neg (by omega), if_neg (by omega), if_neg (by omega), if_neg (by omega), if_pos ⟨rfl, rfl⟩]
      · rw [if_neg (by omega), if_neg (by omega), if_neg (by omega), if_pos ⟨rfl, rfl⟩]
    · rw [va_up_n _ _ h, va_up_n _ _ h, va_up_n _ _ h]
      obtain ⟨h1, h2, h3⟩ := hc i (by omega)
      refine ⟨?_, ?_, ?_⟩
      · rw [if_neg (by omega), if_neg (by omega), if_neg (by omega), if_neg (by omega), if_neg (by omega), if_neg (by omega)]; exact h1
      · rw [if_neg (by omega), if_neg (by omega), if_neg (by omega), if_neg (by omega), if_neg (by omega), if_neg (by omega)]; exact h2
      · rw [if_neg (by omega), if_neg (by omega), if_neg (by omega), if_neg (by omega), if_neg (by omega), if_neg (by omega)]; exact h3
theorem un_geq {t : Nat} {I : md_I} {A : md_A} (hI : Inv t I A) {g d c v q : Nat} (hg : g < I 7) (hc : c < A 1 (A 19 g) * A 2 (A 19 g)) (hq : q < I 7) (hne : q ≠ g) : GEq A (md_st (md_st A 21 g d) 20 (100 * g + c) v) q := by
  have h1 := pz_size (hI.2.1 _ (hI.2.2.2.2.2.1 q hq).1).1
  have h2 := pz_size (hI.2.1 _ (hI.2.2.2.2.2.1 g hg).1).1
  refine ⟨by rw [un_A_k (by omega)], ?_, ?_, ?_, by rw [un_A_k (by omega)], by rw [un_A_k (by omega)], fun i hi => ?_, fun i hi => ⟨?_, ?_, ?_⟩⟩ <;> rw [un_A_at] <;> (repeat (first | rw [if_neg (by omega)]))
theorem un_gam {T : q_T} {G : q_G} {A : md_A} {g d c v q u : Nat} {M C Bf Af : Nat → Nat} (H : Gam T G q (A 19 g) u (A 1 (A 19 g) * A 2 (A 19 g)) d (A 22 g) (A 23 g) (va_up M c v) C Bf Af) (hm : ∀ i, i < A 1 (A 19 g) * A 2 (A 19 g) → M i = A 20 (100 * g + i)) (hc : ∀ i, i < A 22 g → C i = A 24 (200 * g + i) ∧ Bf i = A 25 (200 * g + i) ∧ Af i = A 26 (200 * g + i)) : GamR T G q u (md_st (md_st A 21 g d) 20 (100 * g + c) v) g := by
  have e19 : md_st (md_st A 21 g d) 20 (100 * g + c) v 19 = A 19 := un_A_k (by omega)
  have e1 : md_st (md_st A 21 g d) 20 (100 * g + c) v 1 = A 1 := un_A_k (by omega)
  have e2 : md_st (md_st A 21 g d) 20 (100 * g + c) v 2 = A 2 := un_A_k (by omega)
  have e21 : md_st (md_st A 21 g d) 20 (100 * g + c) v 21 g = d := by rw [un_A_at, if_neg (by omega), if_pos ⟨rfl, rfl⟩]
  have ek : ∀ k, k ≠ 20 ∧ k ≠ 21 → md_st (md_st A 21 g d) 20 (100 * g + c) v k = A k := fun k hk => by rw [md_st_k _ hk.1, md_st_k _ hk.2]
  refine ⟨_, _, _, _, by rw [e19, e1, e2, e21, ek 22 (by omega), ek 23 (by omega)]; exact H, fun i hi => ?_, fun i hi => ?_⟩
  · rw [e19, e1, e2] at hi
    rw [un_A_at]
    by_cases h : i = c
    · rw [h, va_up_s, if_pos ⟨rfl, rfl⟩]
    · rw [va_up_n _ _ h, if_neg (by omega), if_neg (by omega)]; exact hm i hi
  · rw [ek 22 (by omega)] at hi
    rw [ek 24 (by omega), ek 25 (by omega), ek 26 (by omega)]
    exact hc i hi

set_option maxHeartbeats 4000000 in
set_option maxRecDepth 100000 in
theorem c_X8_mark {T : q_T} {G0 : q_G} {sz X t : Nat} {I : md_I} {A : md_A} {pa gq lv O : Nat → Nat} {m vb : Nat} (R : Rep T X I A G0 sz pa gq lv O m vb) (hI : Inv t I A) (x y w : Int32) : q_C T mX8_mark 1 22 0 0 [.ref X, .int x, .int y, .int w] G0 sz (fun v G' sz' => (sz ≤ sz' ∧ ∀ b, X + 18 ≤ b → b < X + 46 → G' b = G0 b) ∧ ∃ z I2 A2, v = some (.int z) ∧ D_mark I A x y w z I2 A2 ∧ RepX T X I2 A2 G' sz') := by
  refine q_C.of (by decide) rfl (by simp [Value.category]) (Nat.le_of_ble_eq_true rfl) ?_
  obtain ⟨hgeo, hX, hcP, hcG, hcan, hscr, hsht, hscn, hstl, hsea, hpic, hlvs, hgra, hgs1, hgs2, hPz, hGm⟩ := id R
  have hI0 := hI.1
  have hI7 := hI.2.2.2.2.1
  have hgX := hgeo.1
  refine q_aload_n dX8_mark_0 rfl rfl ?_
  refine q_iload_n dX8_mark_1 rfl ?_
  refine q_iv (As := [_]) dX8_mark_2 ml_X8_208 mt_X8_gameAt mi_X8_gameAt se_X8_gameAt hX rfl rfl (Nat.le_of_ble_eq_true rfl) (Nat.le_of_ble_eq_true rfl) (Nat.zero_le _) (Nat.zero_le _) (Nat.le_of_ble_eq_true rfl) (q_C.mono (c_X8_gameAt hX hcG hI.2.2.2.2.1 _) (fun v G1 sz1 hq => ?_))
  obtain ⟨⟨g, hg, rfl, rfl⟩ | ⟨hno, rfl⟩, rfl, rfl⟩ := hq
  · obtain ⟨hp, gM, gC, gB, gA, hGam, hgm, hgc⟩ := hGm g hg
    obtain ⟨hgo, hgM, hgC, hgB, hgA⟩ := id hGam
    have hgi := hI.2.2.2.2.2.1 g hg
    have hz := (hI.2.1 (A 19 g) hp).1
    obtain ⟨hPl, Fd, hd, hFd⟩ := hPz (A 19 g) hp
    have hu := hPl.1
    obtain ⟨fL, hls, hfL⟩ := hPl.2.1
    have hwh := pz_size hz
    have hb10 := hz.2
    refine s_astore dX8_mark_5 (by decide) rfl rfl ?_
    refine q_aload dX8_mark_7 rfl rfl ?_
    refine q_ifnull (tgt := 41) dX8_mark_9 (by decide) rfl (fun h => by cases h) (fun _ => ?_)
    refine q_aload dX8_mark_12 rfl rfl ?_
    refine q_get dX8_mark_14 fl_X8_212 hgo rfl ?_
    refine q_iload_n dX8_mark_17 rfl ?_
    refine q_iv (As := [_]) dX8_mark_18 ml_X8_141 mt_X4_hasCell mi_X4_hasCell se_X4_hasCell hu rfl rfl (Nat.le_of_ble_eq_true rfl) (Nat.le_of_ble_eq_true rfl) (Nat.zero_le _) (Nat.zero_le _) (Nat.le_of_ble_eq_true rfl) (q_C.mono (c_X4_hasCell hu (by omega)) (fun v G1 sz1 hq => ?_))
    obtain ⟨⟨hq18, rfl⟩ | ⟨hq18, rfl⟩, rfl, rfl⟩ := hq
    · refine q_if_eq (tgt := 41) dX8_mark_21 (by decide) (fun h => absurd h (by decide)) (fun _ => ?_)
      obtain ⟨c, hc, rfl⟩ := hq18
      refine q_iload_n dX8_mark_24 rfl ?_
      refine q_iconst (v := -1) dX8_mark_25 (by decide) ?_
      refine q_icmp_lt (tgt := 41) dX8_mark_26 (by decide) (fun c26 => ?_) (fun c26 => ?_)
      · refine q_iconst (v := nI 0) dX8_mark_41 (by decide) ?_
        exact q_ireturn dX8_mark_42 rfl (by decide +kernel) ⟨⟨Nat.le_refl _, fun _ _ _ => rfl⟩, _, I, A, rfl, ⟨rfl, Or.inr ⟨fun ⟨g2, c2, k2, h1, h2, h3, h4, h5, h6, h7, h8⟩ => absurd c26 (Int32.not_lt.mpr ((q_ixk (by have := (hI.2.1 _ (hI.2.2.2.2.2.1 g2 h1).1).1.2; omega)).mpr ⟨k2, h5, h6⟩).1), rfl, rfl⟩⟩, ⟨pa, gq, lv, O, m, vb, R⟩⟩
      · refine q_iload_n dX8_mark_29 rfl ?_
        refine q_aload dX8_mark_30 rfl rfl ?_
        refine q_get dX8_mark_32 fl_X8_212 hgo rfl ?_
        refine q_get dX8_mark_35 fl_X8_97 hu rfl ?_
        refine q_icmp_le (tgt := 43) dX8_mark_38 (by decide) (fun c38 => ?_) (fun c38 => ?_)
        · obtain ⟨k, hk, rfl⟩ := (q_ixk (by omega)).mp ⟨Int32.not_lt.mp c26, c38⟩
          refine q_aload dX8_mark_43 rfl rfl ?_
          refine q_iload_n dX8_mark_45 rfl ?_
          refine q_iload_n dX8_mark_46 rfl ?_
          have hgg := (hgeo.2.2.2.1 g hg)
          have hMc := hgi.2.2.2.2.2.1 c hc
          refine q_iv (As := [_, _]) dX8_mark_47 ml_X8_216 mt_X0_change mi_X0_change se_X0_change hgo rfl rfl (Nat.le_of_ble_eq_true rfl) (Nat.le_of_ble_eq_true rfl) (Nat.zero_le _) (Nat.zero_le _) (Nat.le_of_ble_eq_true rfl) (q_C.mono (c_X0_change hGam hc hwh (by rw [hgm c hc]; omega) (by omega) (by omega)) (fun v G sz1 hq => ?_))
          obtain ⟨rfl, hN, hv⟩ := hq
          rw [hgm c hc] at hv
          rcases hv with ⟨hd1, rfl, hG1⟩ | ⟨hd1, rfl, hG1⟩
          · exact q_ireturn dX8_mark_50 rfl (by decide +kernel) ⟨⟨Nat.le_refl _, fun b b1 b2 => hN b (by omega)⟩, _, I, mk_A A g c k, rfl, ⟨rfl, Or.inl ⟨g, c, k, ⟨hg, rfl, hc, rfl, hk, rfl, hd1.1, by omega⟩, rfl, rfl⟩⟩, R.gm hg (fun i hi => mk_A_k hi) (fun q hq hne => mk_geq hI hg hc hd1.2 hq hne) hN (mk_gam hgi.2.1 hG1 hgm hgc)⟩
          · exact q_ireturn dX8_mark_50 rfl (by decide +kernel) ⟨⟨Nat.le_refl _, fun b b1 b2 => hN b (by omega)⟩, _, I, A, rfl, ⟨rfl, Or.inr ⟨fun ⟨g2, c2, k2, h1, h2, h3, h4, h5, h6, h7, h8⟩ => (by have e1 := nI_un h2 (by omega) (by omega); subst e1; have e2 := nI_un h4 (by omega) (by omega); subst e2; have e3 := (e_eq (by omega) (by omega)).mp h6; subst e3; exact hd1 ⟨h7, by omega⟩), rfl, rfl⟩⟩, R.gm hg (fun _ _ => rfl) (fun _ _ _ => geq_rfl) hN ⟨_, _, _, _, hG1, hgm, hgc⟩⟩
        · refine q_iconst (v := nI 0) dX8_mark_41 (by decide) ?_
          exact q_ireturn dX8_mark_42 rfl (by decide +kernel) ⟨⟨Nat.le_refl _, fun _ _ _ => rfl⟩, _, I, A, rfl, ⟨rfl, Or.inr ⟨fun ⟨g2, c2, k2, h1, h2, h3, h4, h5, h6, h7, h8⟩ => (by have e1 := nI_un h2 (by omega) (by omega); subst e1; exact absurd ((q_ixk (by omega)).mpr ⟨k2, h5, h6⟩).2 c38), rfl, rfl⟩⟩, ⟨pa, gq, lv, O, m, vb, R⟩⟩
    · refine q_if_eq (tgt := 41) dX8_mark_21 (by decide) (fun _ => ?_) (fun h => absurd h (by decide))
      refine q_iconst (v := nI 0) dX8_mark_41 (by decide) ?_
      exact q_ireturn dX8_mark_42 rfl (by decide +kernel) ⟨⟨Nat.le_refl _, fun _ _ _ => rfl⟩, _, I, A, rfl, ⟨rfl, Or.inr ⟨fun ⟨g2, c2, k2, h1, h2, h3, h4, h5, h6, h7, h8⟩ => (by have e1 := nI_un h2 (by omega) (by omega); subst e1; exact hq18 ⟨c2, h3, h4⟩), rfl, rfl⟩⟩, ⟨pa, gq, lv, O, m, vb, R⟩⟩
  · refine s_astore dX8_mark_5 (by decide) rfl rfl ?_
    refine q_aload dX8_mark_7 rfl rfl ?_
    refine q_ifnull (tgt := 41) dX8_mark_9 (by decide) rfl (fun _ => ?_) (fun h => absurd rfl h)
    refine q_iconst (v := nI 0) dX8_mark_41 (by decide) ?_
    exact q_ireturn dX8_mark_42 rfl (by decide +kernel) ⟨⟨Nat.le_refl _, fun _ _ _ => rfl⟩, _, I, A, rfl, ⟨rfl, Or.inr ⟨fun ⟨g2, c2, k2, h1, h2, h3, h4, h5, h6, h7, h8⟩ => hno ⟨g2, h1, h2⟩, rfl, rfl⟩⟩, ⟨pa, gq, lv, O, m, vb, R⟩⟩

set_option maxHeartbeats 4000000 in
set_option maxRecDepth 100000 in
theorem c_X8_undo {T : q_T} {G0 : q_G} {sz X t : Nat} {I : md_I} {A : md_A} {pa gq lv O : Nat → Nat} {m vb : Nat} (R : Rep T X I A G0 sz pa gq lv O m vb) (hI : Inv t I A) (x : Int32) : q_C T mX8_undo 1 21 0 0 [.ref X, .int x] G0 sz (fun v G' sz' => (sz ≤ sz' ∧ ∀ b, X + 18 ≤ b → b < X + 46 → G' b = G0 b) ∧ ∃ z I2 A2, v = some (.int z) ∧ D_undo I A x z I2 A2 ∧ RepX T X I2 A2 G' sz') := by
  refine q_C.of (by decide) rfl (by simp [Value.category]) (Nat.le_of_ble_eq_true rfl) ?_
  obtain ⟨hgeo, hX, hcP, hcG, hcan, hscr, hsht, hscn, hstl, hsea, hpic, hlvs, hgra, hgs1, hgs2, hPz, hGm⟩ := id R
  have hI0 := hI.1
  have hI7 := hI.2.2.2.2.1
  have hgX := hgeo.1
  refine q_aload_n dX8_undo_0 rfl rfl ?_
  refine q_iload_n dX8_undo_1 rfl ?_
  refine q_iv (As := [_]) dX8_undo_2 ml_X8_208 mt_X8_gameAt mi_X8_gameAt se_X8_gameAt hX rfl rfl (Nat.le_of_ble_eq_true rfl) (Nat.le_of_ble_eq_true rfl) (Nat.zero_le _) (Nat.zero_le _) (Nat.le_of_ble_eq_true rfl) (q_C.mono (c_X8_gameAt hX hcG hI.2.2.2.2.1 _) (fun v G1 sz1 hq => ?_))
  obtain ⟨⟨g, hg, rfl, rfl⟩ | ⟨hno, rfl⟩, rfl, rfl⟩ := hq
  · obtain ⟨hp, gM, gC, gB, gA, hGam, hgm, hgc⟩ := hGm g hg
    obtain ⟨hgo, hgM, hgC, hgB, hgA⟩ := id hGam
    have hgi := hI.2.2.2.2.2.1 g hg
    have hz := (hI.2.1 (A 19 g) hp).1
    obtain ⟨hPl, Fd, hd, hFd⟩ := hPz (A 19 g) hp
    have hu := hPl.1
    obtain ⟨fL, hls, hfL⟩ := hPl.2.1
    have hwh := pz_size hz
    have hb10 := hz.2
    refine s_astore_n dX8_undo_5 (by decide) rfl rfl ?_
    refine q_aload_n dX8_undo_6 rfl rfl ?_
    refine q_ifnonnull (tgt := 14) dX8_undo_7 (by decide) rfl (fun _ => ?_) (fun h => by cases h)
    refine q_aload_n dX8_undo_14 rfl rfl ?_
    have hgg := (hgeo.2.2.2.1 g hg)
    refine q_iv (As := []) dX8_undo_15 ml_X8_222 mt_X0_takeBack mi_X0_takeBack se_X0_takeBack hgo rfl rfl (Nat.le_of_ble_eq_true rfl) (Nat.le_of_ble_eq_true rfl) (Nat.zero_le _) (Nat.zero_le _) (Nat.le_of_ble_eq_true rfl) (q_C.mono (c_X0_takeBack hGam hwh (by omega) (fun h0 => by rw [(hgc (A 21 g - 1) (by omega)).1]; exact (hgi.2.2.2.2.2.2 (A 21 g - 1) (by omega)).1)) (fun v G sz1 hq => ?_))
    obtain ⟨rfl, hN, ⟨h0, rfl, hG1⟩ | ⟨h0, rfl, hG1⟩⟩ := hq
    · obtain ⟨gc1, gc2, gc3⟩ := hgc (A 21 g - 1) (by omega)
      rw [gc1, gc2] at hG1
      rw [gc1]
      have hgl := (hgi.2.2.2.2.2.2 (A 21 g - 1) (by omega)).1
      exact q_ireturn dX8_undo_18 rfl rfl ⟨⟨Nat.le_refl _, fun b b1 b2 => hN b (by omega)⟩, _, I, _, rfl, ⟨rfl, Or.inl ⟨g, hg, rfl, by omega, rfl, rfl⟩⟩, R.gm hg (fun i hi => un_A_k hi) (fun q hq hne => un_geq hI hg hgl hq hne) hN (un_gam hG1 hgm hgc)⟩
    · exact q_ireturn dX8_undo_18 rfl rfl ⟨⟨Nat.le_refl _, fun b b1 b2 => hN b (by omega)⟩, _, I, A, rfl, ⟨rfl, Or.inr ⟨fun ⟨g2, h1, h2, h3⟩ => (by have e1 := nI_un h2 (by omega) (by omega); subst e1; omega), rfl, rfl⟩⟩, R.gm hg (fun _ _ => rfl) (fun _ _ _ => geq_rfl) hN ⟨_, _, _, _, hG1, hgm, hgc⟩⟩
  · refine s_astore_n dX8_undo_5 (by decide) rfl rfl ?_
    refine q_aload_n dX8_undo_6 rfl rfl ?_
    refine q_ifnonnull (tgt := 14) dX8_undo_7 (by decide) rfl (fun h => absurd rfl h) (fun _ => ?_)
    refine q_iconst (v := -1) dX8_undo_10 (by decide) ?_
    refine q_goto (tgt := 18) dX8_undo_11 (by decide) ?_
    exact q_ireturn dX8_undo_18 rfl rfl ⟨⟨Nat.le_refl _, fun _ _ _ => rfl⟩, _, I, A, rfl, ⟨rfl, Or.inr ⟨fun ⟨g2, h1, h2, h3⟩ => hno ⟨g2, h1, h2⟩, rfl, rfl⟩⟩, ⟨pa, gq, lv, O, m, vb, R⟩⟩

set_option maxHeartbeats 4000000 in
set_option maxRecDepth 100000 in
theorem c_X8_redo {T : q_T} {G0 : q_G} {sz X t : Nat} {I : md_I} {A : md_A} {pa gq lv O : Nat → Nat} {m vb : Nat} (R : Rep T X I A G0 sz pa gq lv O m vb) (hI : Inv t I A) (x : Int32) : q_C T mX8_redo 1 21 0 0 [.ref X, .int x] G0 sz (fun v G' sz' => (sz ≤ sz' ∧ ∀ b, X + 18 ≤ b → b < X + 46 → G' b = G0 b) ∧ ∃ z I2 A2, v = some (.int z) ∧ D_redo I A x z I2 A2 ∧ RepX T X I2 A2 G' sz') := by
  refine q_C.of (by decide) rfl (by simp [Value.category]) (Nat.le_of_ble_eq_true rfl) ?_
  obtain ⟨hgeo, hX, hcP, hcG, hcan, hscr, hsht, hscn, hstl, hsea, hpic, hlvs, hgra, hgs1, hgs2, hPz, hGm⟩ := id R
  have hI0 := hI.1
  have hI7 := hI.2.2.2.2.1
  have hgX := hgeo.1
  refine q_aload_n dX8_redo_0 rfl rfl ?_
  refine q_iload_n dX8_redo_1 rfl ?_
  refine q_iv (As := [_]) dX8_redo_2 ml_X8_208 mt_X8_gameAt mi_X8_gameAt se_X8_gameAt hX rfl rfl (Nat.le_of_ble_eq_true rfl) (Nat.le_of_ble_eq_true rfl) (Nat.zero_le _) (Nat.zero_le _) (Nat.le_of_ble_eq_true rfl) (q_C.mono (c_X8_gameAt hX hcG hI.2.2.2.2.1 _) (fun v G1 sz1 hq => ?_))
  obtain ⟨⟨g, hg, rfl, rfl⟩ | ⟨hno, rfl⟩, rfl, rfl⟩ := hq
  · obtain ⟨hp, gM, gC, gB, gA, hGam, hgm, hgc⟩ := hGm g hg
    obtain ⟨hgo, hgM, hgC, hgB, hgA⟩ := id hGam
    have hgi := hI.2.2.2.2.2.1 g hg
    have hz := (hI.2.1 (A 19 g) hp).1
    obtain ⟨hPl, Fd, hd, hFd⟩ := hPz (A 19 g) hp
    have hu := hPl.1
    obtain ⟨fL, hls, hfL⟩ := hPl.2.1
    have hwh := pz_size hz
    have hb10 := hz.2
    refine s_astore_n dX8_redo_5 (by decide) rfl rfl ?_
    refine q_aload_n dX8_redo_6 rfl rfl ?_
    refine q_ifnonnull (tgt := 14) dX8_redo_7 (by decide) rfl (fun _ => ?_) (fun h => by cases h)
    refine q_aload_n dX8_redo_14 rfl rfl ?_
    have hgg := (hgeo.2.2.2.1 g hg)
    refine q_iv (As := []) dX8_redo_15 ml_X8_225 mt_X0_doAgain mi_X0_doAgain se_X0_doAgain hgo rfl rfl (Nat.le_of_ble_eq_true rfl) (Nat.le_of_ble_eq_true rfl) (Nat.zero_le _) (Nat.zero_le _) (Nat.le_of_ble_eq_true rfl) (q_C.mono (c_X0_doAgain hGam hwh ⟨hgi.2.1, hgi.2.2.1⟩ (fun h0 => by rw [(hgc (A 21 g) h0).1]; exact (hgi.2.2.2.2.2.2 (A 21 g) h0).1)) (fun v G sz1 hq => ?_))
    obtain ⟨rfl, hN, ⟨h0, rfl, hG1⟩ | ⟨h0, rfl, hG1⟩⟩ := hq
    · obtain ⟨gc1, gc2, gc3⟩ := hgc (A 21 g) (by omega)
      rw [gc1, gc3] at hG1
      rw [gc1]
      have hgl := (hgi.2.2.2.2.2.2 (A 21 g) (by omega)).1
      exact q_ireturn dX8_redo_18 rfl rfl ⟨⟨Nat.le_refl _, fun b b1 b2 => hN b (by omega)⟩, _, I, _, rfl, ⟨rfl, Or.inl ⟨g, hg, rfl, by omega, rfl, rfl⟩⟩, R.gm hg (fun i hi => un_A_k hi) (fun q hq hne => un_geq hI hg hgl hq hne) hN (un_gam hG1 hgm hgc)⟩
    · exact q_ireturn dX8_redo_18 rfl rfl ⟨⟨Nat.le_refl _, fun b b1 b2 => hN b (by omega)⟩, _, I, A, rfl, ⟨rfl, Or.inr ⟨fun ⟨g2, h1, h2, h3⟩ => (by have e1 := nI_un h2 (by omega) (by omega); subst e1; omega), rfl, rfl⟩⟩, R.gm hg (fun _ _ => rfl) (fun _ _ _ => geq_rfl) hN ⟨_, _, _, _, hG1, hgm, hgc⟩⟩
  · refine s_astore_n dX8_redo_5 (by decide) rfl rfl ?_
    refine q_aload_n dX8_redo_6 rfl rfl ?_
    refine q_ifnonnull (tgt := 14) dX8_redo_7 (by decide) rfl (fun h => absurd rfl h) (fun _ => ?_)
    refine q_iconst (v := -1) dX8_redo_10 (by decide) ?_
    refine q_goto (tgt := 18) dX8_redo_11 (by decide) ?_
    exact q_ireturn dX8_redo_18 rfl rfl ⟨⟨Nat.le_refl _, fun _ _ _ => rfl⟩, _, I, A, rfl, ⟨rfl, Or.inr ⟨fun ⟨g2, h1, h2, h3⟩ => hno ⟨g2, h1, h2⟩, rfl, rfl⟩⟩, ⟨pa, gq, lv, O, m, vb, R⟩⟩
