/-! THE FACE: search -/
def fd_t (lv : Nat → Nat) (b : Nat) : Nat → Nat
  | 0 => 0
  | d + 1 => if lv d ≤ b ∧ b < lv d + 2 then 102 + 3 * d else fd_t lv b d
theorem fd_at {lv : Nat → Nat} {b : Nat} : ∀ m, (∀ d d', d < d' → d' < m → lv d + 2 ≤ lv d') → ∀ d, d < m → lv d ≤ b → b < lv d + 2 → fd_t lv b m = 102 + 3 * d
  | 0, _, d, h, _, _ => absurd h (Nat.not_lt_zero _)
  | m + 1, ho, d, h, h1, h2 => by
    show (if lv m ≤ b ∧ b < lv m + 2 then 102 + 3 * m else fd_t lv b m) = _
    by_cases e : d = m
    · subst e; rw [if_pos ⟨h1, h2⟩]
    · have := ho d m (by omega) (by omega)
      rw [if_neg (by omega)]
      exact fd_at m (fun a b h3 h4 => ho a b h3 (by omega)) d (by omega) h1 h2
theorem Rep.srch {T : q_T} {X tt : Nat} {I : md_I} {A A2 : md_A} {G G1 : q_G} {sz sz1 : Nat} {pa gq lv O lv1 : Nat → Nat} {m vb p m1 h : Nat} {LS : Nat → Nat → Nat} {C X1 : Nat → Nat} {f : Nat} {P : Nat → Nat → Nat} {t : Nat} (R : Rep T X I A G sz pa gq lv O m vb) (hI : Inv tt I A) (hp : p < I 0) (H : Sek T G (X + 7) (pa p) (pa p + 2 + 4 * (A 1 p + A 2 p)) p A sz m lv m1 lv1 G1 sz1 h LS C X1 f P t) (hA : ∀ k, k ≠ 16 → A2 k = A k) (h16 : ∀ i, i < f → ∀ k, k < A 1 p * A 2 p → A2 16 (100 * i + k) = P i k) : RepX T X (va_up (va_up (va_up I 2 f) 3 t) 4 (A 1 p * A 2 p)) A2 G1 sz1 := by
  obtain ⟨a1, a2, a3, a4, ⟨Q, a5, a6⟩, ⟨l1, l2, l3, l4⟩, a8, a9, a10, ⟨b1, b2, b3, b4⟩, a11⟩ := H
  have hg := R.1
  obtain ⟨g0, g1, g2, g3, g4, g5, g6⟩ := hg
  have hz := (hI.2.1 p hp).1
  have i0 : va_up (va_up (va_up I 2 f) 3 t) 4 (A 1 p * A 2 p) 0 = I 0 := rfl
  have i7 : va_up (va_up (va_up I 2 f) 3 t) 4 (A 1 p * A 2 p) 7 = I 7 := rfl
  have hgeo : Geo X sz1 (va_up (va_up (va_up I 2 f) 3 t) 4 (A 1 p * A 2 p)) A2 pa gq lv1 (fun b => if b < sz then O b else fd_t lv1 b m1) m1 vb := by
    refine ⟨by omega, fun k hk => ?_, fun q hq => ?_, fun q hq => ?_, fun d hd => ?_, l4, ?_⟩
    · show (if X + k < sz then _ else _) = k
      rw [if_pos (by omega)]; exact g1 k hk
    · obtain ⟨q1, q2, q3⟩ := g2 q hq
      rw [hA 1 (by decide), hA 2 (by decide)]
      exact ⟨q1, by omega, fun b c1 c2 => (if_pos (show b < sz by omega)).trans (q3 b c1 c2)⟩
    · obtain ⟨q1, q2, q3⟩ := g3 q hq
      exact ⟨q1, by omega, fun b c1 c2 => (if_pos (show b < sz by omega)).trans (q3 b c1 c2)⟩
    · have hld := (l3 d hd).2
      by_cases e : d < m
      · obtain ⟨q1, q2, q3⟩ := g4 d e
        have e2 := b3 d e
        exact ⟨by omega, by omega, fun b c1 c2 => (if_pos (show b < sz by omega)).trans (q3 b (by omega) (by omega))⟩
      · have := b4 d (by omega) hd
        exact ⟨by omega, by omega, fun b c1 c2 => (if_neg (show ¬ b < sz by omega)).trans (fd_at m1 l4 d hd c1 c2)⟩
    · rcases g6 with e | ⟨q1, q2, q3⟩
      · exact Or.inl e
      · exact Or.inr ⟨q1, by omega, (if_pos q2).trans q3⟩
  refine ⟨pa, gq, lv1, (fun b => if b < sz then O b else fd_t lv1 b m1), m1, vb, ?_⟩
  exact R.put (fun t => t = 8 ∨ t = 9 ∨ t = 11 ∨ t = 12 ∨ t = 13 ∨ t = 14 ∨ (102 ≤ t ∧ t % 3 = 0)) (fun b hb hc => by have n8 : b ≠ X + 8 := fun h => hc (by have e := R.1.2.1 8 (by omega); rw [← h] at e; omega); have n9 : b ≠ X + 9 := fun h => hc (by have e := R.1.2.1 9 (by omega); rw [← h] at e; omega); have n11 : b ≠ X + 11 := fun h => hc (by have e := R.1.2.1 11 (by omega); rw [← h] at e; omega); have n12 : b ≠ X + 12 := fun h => hc (by have e := R.1.2.1 12 (by omega); rw [← h] at e; omega); have n13 : b ≠ X + 13 := fun h => hc (by have e := R.1.2.1 13 (by omega); rw [← h] at e; omega); have n14 : b ≠ X + 14 := fun h => hc (by have e := R.1.2.1 14 (by omega); rw [← h] at e; omega); exact a11 b hb ⟨n8, n9, n11, n12, n13, n14⟩ (fun d hd => by have q3 := (g4 d hd).2.2; refine ⟨fun e => hc ?_, fun e => hc ?_⟩; rw [q3 b (by omega) (by omega)]; omega; rw [q3 b (by omega) (by omega)]; omega)) hgeo (Or.inr ⟨by omega, rfl, rfl⟩) (Or.inr ⟨by omega, rfl, fun _ _ => rfl⟩) (Or.inr ⟨by omega, rfl, fun _ _ => rfl⟩) (Or.inr ⟨by omega, fun _ _ => by rw [hA 9 (by decide)]⟩) (Or.inr (by omega)) (Or.inr ⟨by omega, by omega, by omega, rfl, rfl, fun _ _ => by rw [hA 27 (by decide)]⟩) (Or.inl a1) (Or.inl a2) (Or.inl a4) (Or.inl ⟨Q, a5, fun i hi k hk => (a6 i hi k hk).trans (h16 i hi k hk).symm⟩) (Or.inl ⟨l1, l2, fun d hd => (l3 d hd).1⟩) (Or.inr ⟨by omega, rfl⟩) (Or.inr (by omega)) (Or.inr (by omega)) (fun p hp => Or.inr ⟨hp, rfl, by omega, peq_of (fun k h1 h2 => hA k (by omega)), fun _ _ => by rw [hA 8 (by decide)]⟩) (fun g hg => Or.inr ⟨hg, rfl, by omega, geq_of (fun k hk => hA k (by omega)), Nat.le_refl _, rfl⟩)

set_option maxHeartbeats 4000000 in
set_option maxRecDepth 100000 in
theorem c_X8_search {T : q_T} {G0 : q_G} {sz X t : Nat} {I : md_I} {A : md_A} {pa gq lv O : Nat → Nat} {m vb : Nat} (R : Rep T X I A G0 sz pa gq lv O m vb) (hI : Inv t I A) (x y w : Int32) : q_C T mX8_search 6 156 202 10403 [.ref X, .int x, .int y, .int w] G0 sz (fun v G' sz' => (sz ≤ sz' ∧ ∀ b, X + 18 ≤ b → b < X + 46 → G' b = G0 b) ∧ ∃ z, v = some (.int z) ∧ ∀ z' I2 A2, D_search I A x y w z' I2 A2 → z' = z ∧ RepX T X I2 A2 G' sz') := by
  refine q_C.of (by decide) rfl (by simp [Value.category]) (Nat.le_of_ble_eq_true rfl) ?_
  obtain ⟨hgeo, hX, hcP, hcG, hcan, hscr, hsht, hscn, hstl, hsea, hpic, hlvs, hgra, hgs1, hgs2, hPz, hGm⟩ := id R
  have hI0 := hI.1
  have hI7 := hI.2.2.2.2.1
  have hgX := hgeo.1
  refine q_aload_n dX8_search_0 rfl rfl ?_
  refine q_iload_n dX8_search_1 rfl ?_
  refine q_iv (As := [_]) dX8_search_2 ml_X8_85 mt_X8_puzzleAt mi_X8_puzzleAt se_X8_puzzleAt hX rfl rfl (Nat.le_of_ble_eq_true rfl) (Nat.le_of_ble_eq_true rfl) (Nat.zero_le _) (Nat.zero_le _) (Nat.le_of_ble_eq_true rfl) (q_C.mono (c_X8_puzzleAt hX hcP hI.1 _) (fun v G1 sz1 hq => ?_))
  obtain ⟨⟨p, hp, rfl, rfl⟩ | ⟨hno, rfl⟩, rfl, rfl⟩ := hq
  · have hz := (hI.2.1 p hp).1
    obtain ⟨hPl, Fd, hd, hFd⟩ := hPz p hp
    have hu := hPl.1
    obtain ⟨fL, hls, hfL⟩ := hPl.2.1
    have hwh := pz_size hz
    have hb10 := hz.2
    refine s_astore dX8_search_5 (by decide) rfl rfl ?_
    refine q_aload dX8_search_7 rfl rfl ?_
    refine q_ifnull (tgt := 33) dX8_search_9 (by decide) rfl (fun h => by cases h) (fun _ => ?_)
    refine q_iload_n dX8_search_12 rfl ?_
    refine q_if_lt (tgt := 33) dX8_search_13 (by decide) (fun c13 => ?_) (fun c13 => ?_)
    · refine q_iconst (v := -1) dX8_search_33 (by decide) ?_
      exact q_ireturn dX8_search_34 rfl rfl ⟨⟨Nat.le_refl _, fun _ _ _ => rfl⟩, _, rfl, fun z' I2 A2 hD => by
        rcases hD with ⟨p2, tr2, li2, b2, h9, LS9, C9, X9, f9, P9, t9, ⟨h1, h2, ⟨h3, h4⟩, h5, h6, h7⟩, -⟩ | ⟨-, rfl, rfl, rfl⟩
        · exact (show False from absurd c13 (by rw [h4]; exact nI_pos (by omega))).elim
        · exact ⟨rfl, pa, gq, lv, O, m, vb, R⟩⟩
    · obtain ⟨tr, htr, rfl⟩ := nI_of c13
      refine q_iload_n dX8_search_16 rfl ?_
      refine q_sipush (v := nI 200) dX8_search_17 (by decide) ?_
      refine n_icmp_gt (tgt := 33) dX8_search_20 (by decide) (by omega) (by omega) (fun c20 => ?_) (fun c20 => ?_)
      · refine q_iconst (v := -1) dX8_search_33 (by decide) ?_
        exact q_ireturn dX8_search_34 rfl rfl ⟨⟨Nat.le_refl _, fun _ _ _ => rfl⟩, _, rfl, fun z' I2 A2 hD => by
        rcases hD with ⟨p2, tr2, li2, b2, h9, LS9, C9, X9, f9, P9, t9, ⟨h1, h2, ⟨h3, h4⟩, h5, h6, h7⟩, -⟩ | ⟨-, rfl, rfl, rfl⟩
        · exact (show False from (by have := nI_un h4 htr (by omega); omega)).elim
        · exact ⟨rfl, pa, gq, lv, O, m, vb, R⟩⟩
      · refine q_iload_n dX8_search_23 rfl ?_
        refine q_iconst (v := nI 1) dX8_search_24 (by decide) ?_
        refine q_icmp_lt (tgt := 33) dX8_search_25 (by decide) (fun c25 => ?_) (fun c25 => ?_)
        · refine q_iconst (v := -1) dX8_search_33 (by decide) ?_
          exact q_ireturn dX8_search_34 rfl rfl ⟨⟨Nat.le_refl _, fun _ _ _ => rfl⟩, _, rfl, fun z' I2 A2 hD => by
        rcases hD with ⟨p2, tr2, li2, b2, h9, LS9, C9, X9, f9, P9, t9, ⟨h1, h2, ⟨h3, h4⟩, h5, h6, h7⟩, -⟩ | ⟨-, rfl, rfl, rfl⟩
        · exact (show False from absurd c25 (by rw [h7]; exact nI_nlt h5 (by omega))).elim
        · exact ⟨rfl, pa, gq, lv, O, m, vb, R⟩⟩
        · refine q_iload_n dX8_search_28 rfl ?_
          refine q_iconst (v := nI 5) dX8_search_29 (by decide) ?_
          refine q_icmp_le (tgt := 35) dX8_search_30 (by decide) (fun c30 => ?_) (fun c30 => ?_)
          · obtain ⟨li, hli, rfl⟩ := nI_of2 (nI_toInt (show 5 < 2 ^ 31 by decide)) (fun h => c25 (Int32.lt_trans h (by decide))) c30
            have hli1 : 1 ≤ li := by rcases Nat.eq_zero_or_pos li with h | h; exact absurd (by rw [h]; decide) c25; exact h
            refine q_aload_n dX8_search_35 rfl rfl ?_
            refine q_get dX8_search_36 fl_X8_56 hX rfl ?_
            refine q_aload dX8_search_39 rfl rfl ?_
            refine q_iload_n dX8_search_41 rfl ?_
            refine q_iload_n dX8_search_42 rfl ?_
            have hgp := (hgeo.2.2.1 p hp)
            obtain ⟨Q0, hQ0, -⟩ := hpic
            have h1p : Pn A p (fun x => A 8 (100 * p + x)) := fun a ha => ((hI.2.1 p hp).2.2 a ha).1
            have hLv : Lvs T G0 (X + 7) (pa p) (pa p + 3 + 4 * (A 1 p + A 2 p)) m lv sz := ⟨hlvs.1, hlvs.2.1, fun d hd => by obtain ⟨q1, q2, q3⟩ := hgeo.2.2.2.2.1 d hd; exact ⟨hlvs.2.2 d hd, by omega, (by have := Geo.ap (n := 2) (n' := 3 + 4 * (A 1 p + A 2 p)) (fun b b1 b2 => q3 b b1 b2) (fun b b1 b2 => hgp.2.2 b b1 (by omega)) (by omega) (by omega) (by omega); omega), q2⟩, hgeo.2.2.2.2.2.1⟩
            refine q_iv (As := [_, _, _]) dX8_search_43 ml_X8_167 mt_X6_seek mi_X6_seek se_X6_seek hsea rfl rfl (Nat.le_of_ble_eq_true rfl) (Nat.le_of_ble_eq_true rfl) (by omega) (by omega) (Nat.le_of_ble_eq_true rfl) (q_C.mono (c_X6_seek hz (by omega) (by omega) (by omega) (by omega) (hI.ps hp) h1p hscn hstl hPl (desk_on hFd) hd hsea hQ0 hLv) (fun v G sz1 hq => ?_))
            obtain ⟨bb, h1, LS, C, X0, f, P, t1, m1, lv1, hrun, rfl, h2, X2, H⟩ := hq
            exact q_ireturn dX8_search_46 rfl rfl ⟨⟨H.2.2.2.2.2.2.2.2.2.1.2.1, fun b b1 b2 => H.2.2.2.2.2.2.2.2.2.2 b (by omega) (by omega) (fun d hd => by have := hgeo.2.2.2.2.1 d hd; omega)⟩, _, rfl, fun z' I2 A2 hD => by
        rcases hD with ⟨p2, tr2, li2, b2, h9, LS9, C9, X9, f9, P9, t9, ⟨e1, e2, ⟨e3, e4⟩, e5, e6, e7⟩, hr, hf, ht, rfl, rfl, hA2, hP2⟩ | ⟨hn, -⟩
        · have u1 := nI_un e2 (by omega) (by omega)
          have u2 := nI_un e4 (by omega) (by omega)
          have u3 := nI_un e7 (by omega) (by omega)
          subst u1; subst u2; subst u3
          rw [hr] at hrun
          cases hrun
          exact ⟨rfl, R.srch hI hp H hA2 hP2⟩
        · exact absurd ⟨p, tr, li, hp, rfl, ⟨by omega, rfl⟩, hli1, hli, rfl⟩ hn⟩
          · refine q_iconst (v := -1) dX8_search_33 (by decide) ?_
            exact q_ireturn dX8_search_34 rfl rfl ⟨⟨Nat.le_refl _, fun _ _ _ => rfl⟩, _, rfl, fun z' I2 A2 hD => by
        rcases hD with ⟨p2, tr2, li2, b2, h9, LS9, C9, X9, f9, P9, t9, ⟨h1, h2, ⟨h3, h4⟩, h5, h6, h7⟩, -⟩ | ⟨-, rfl, rfl, rfl⟩
        · exact (show False from c30 (by rw [h7]; exact nI_le h6 (by decide))).elim
        · exact ⟨rfl, pa, gq, lv, O, m, vb, R⟩⟩
  · refine s_astore dX8_search_5 (by decide) rfl rfl ?_
    refine q_aload dX8_search_7 rfl rfl ?_
    refine q_ifnull (tgt := 33) dX8_search_9 (by decide) rfl (fun _ => ?_) (fun h => absurd rfl h)
    refine q_iconst (v := -1) dX8_search_33 (by decide) ?_
    exact q_ireturn dX8_search_34 rfl rfl ⟨⟨Nat.le_refl _, fun _ _ _ => rfl⟩, _, rfl, fun z' I2 A2 hD => by
        rcases hD with ⟨p2, tr2, li2, b2, h9, LS9, C9, X9, f9, P9, t9, ⟨h1, h2, ⟨h3, h4⟩, h5, h6, h7⟩, -⟩ | ⟨-, rfl, rfl, rfl⟩
        · exact (show False from hno ⟨p2, h1, h2⟩).elim
        · exact ⟨rfl, pa, gq, lv, O, m, vb, R⟩⟩
