/-! WHAT STANDS IN THE HEAP: a new puzzle, a new game -/
theorem D_new_3 {I : md_I} {A : md_A} {a b c : Nat} : D_new I A a b c 3 (I 0) = c := by
  unfold D_new
  rw [md_fill_k _ (by decide), md_st_s]
theorem D_new_3n {I : md_I} {A : md_A} {a b c p : Nat} (h : p ≠ I 0) : D_new I A a b c 3 p = A 3 p := by
  unfold D_new
  rw [md_fill_k _ (by decide), md_st_n _ h, md_st_k _ (by decide), md_st_k _ (by decide)]
theorem D_new_8 {I : md_I} {A : md_A} {a b c : Nat} (j : Nat) : D_new I A a b c 8 j = if 100 * I 0 ≤ j ∧ j < 100 * I 0 + a * b then 1 <<< (c + 1) - 1 else A 8 j := by
  unfold D_new
  rw [md_fill_at]
  split
  · rfl
  · rw [md_st_k _ (by decide), md_st_k _ (by decide), md_st_k _ (by decide)]
theorem Rep.newp {T : q_T} {X tt : Nat} {I : md_I} {A A2 : md_A} {G G1 : q_G} {sz : Nat} {pa gq lv O : Nat → Nat} {m vb a b c : Nat} {f : ru_F} {fp : Nat → Option Nat} (R : Rep T X I A G sz pa gq lv O m vb) (hI : Inv tt I A) (h30 : I 0 < 30) (ha : 1 ≤ a ∧ a ≤ 10) (hb : 1 ≤ b ∧ b ≤ 10) (hD : D_runs (D_new I A a b c) A2 (I 0) (a + b) f) (hf10 : ∀ ln, ln < a + b → (f ln).1 ≤ 10) (hR : PuzR T G1 sz a b c (a + b) f) (hX : G1 X = some (q_ob 9 (rx_ob X (I 0 + 1) (I 7)))) (hfp : G1 (X + 1) = some (q_ra T 3 30 fp)) (hfo : ∀ p, p < I 0 → fp p = some (pa p)) (hfn : fp (I 0) = some sz) (hscr : ∃ F : Nat → Nat, G1 (X + 4) = some (q_ia T 100 (fun i => nI (F i)))) (hN : ∀ b, b < sz → b ≠ X ∧ b ≠ X + 1 ∧ b ≠ X + 4 → G1 b = G b) : RepX T X (va_up I 0 (I 0 + 1)) A2 G1 (sz + 3 + 4 * (a + b)) := by
  obtain ⟨d1, d2, d3, d4⟩ := hD
  have hg := R.1
  obtain ⟨g0, g1, g2, g3, g4, g5, g6⟩ := hg
  have hab : a * b ≤ 10 * 10 := Nat.mul_le_mul ha.2 hb.2
  have i0 : va_up I 0 (I 0 + 1) 0 = I 0 + 1 := rfl
  have i7 : va_up I 0 (I 0 + 1) 7 = I 7 := rfl
  have ek : ∀ k, k ≠ 5 ∧ k ≠ 6 ∧ k ≠ 7 → k ≠ 1 ∧ k ≠ 2 ∧ k ≠ 3 ∧ k ≠ 8 → A2 k = A k := fun k h1 h2 => (d1 k h1.1 h1.2.1 h1.2.2).trans (D_new_k h2)
  have e1 : A2 1 (I 0) = a := by rw [d1 1 (by decide) (by decide) (by decide)]; exact D_new_1
  have e2 : A2 2 (I 0) = b := by rw [d1 2 (by decide) (by decide) (by decide)]; exact D_new_2
  have e3 : A2 3 (I 0) = c := by rw [d1 3 (by decide) (by decide) (by decide)]; exact D_new_3
  have e4 : A2 4 (I 0) = 0 := by rw [ek 4 (by decide) (by decide)]; exact (hI.2.2.1 (I 0) (Nat.le_refl _) h30).1
  have o1 : ∀ p, p ≠ I 0 → A2 1 p = A 1 p := fun p hp => by rw [d1 1 (by decide) (by decide) (by decide)]; exact D_new_1n hp
  have o2 : ∀ p, p ≠ I 0 → A2 2 p = A 2 p := fun p hp => by rw [d1 2 (by decide) (by decide) (by decide)]; exact D_new_2n hp
  have o3 : ∀ p, p ≠ I 0 → A2 3 p = A 3 p := fun p hp => by rw [d1 3 (by decide) (by decide) (by decide)]; exact D_new_3n hp
  have o5 : ∀ j, j < 20 * I 0 → A2 5 j = A 5 j := fun j hj => by
    rw [d2, md_cp_out _ (Or.inl hj)]
    exact congrFun (D_new_k (by decide)) j
  have n5 : ∀ ln, ln < a + b → A2 5 (20 * I 0 + ln) = (f ln).1 := fun ln hl => by rw [d2, md_cp_in _ hl]
  have o6 : ∀ j, j < 200 * I 0 → A2 6 j = A 6 j ∧ A2 7 j = A 7 j := fun j hj => ⟨(d3 j hj).1.trans (congrFun (D_new_k (by decide)) j), (d3 j hj).2.trans (congrFun (D_new_k (by decide)) j)⟩
  have hpeq : ∀ p, p < I 0 → PEq A A2 p := fun p hp => ⟨o1 p (by omega), o2 p (by omega), o3 p (by omega), by rw [ek 4 (by decide) (by decide)], fun ln hl => by
    have hz := (hI.2.1 p hp).1
    have hb2 := hz.2
    refine ⟨o5 _ (by omega), fun i hi => ?_⟩
    have := (hz.2.2.2.2 ln hl).1
    exact ⟨(o6 _ (by omega)).1.symm, (o6 _ (by omega)).2.symm⟩⟩
  have h8 : ∀ p, p < I 0 → ∀ x, x < A 1 p * A 2 p → A2 8 (100 * p + x) = A 8 (100 * p + x) := fun p hp x hx => by
    have := pz_size (hI.2.1 p hp).1
    rw [d1 8 (by decide) (by decide) (by decide), D_new_8, if_neg (by omega)]
  have hgeo : Geo X (sz + 3 + 4 * (a + b)) (va_up I 0 (I 0 + 1)) A2 (va_up pa (I 0) sz) gq lv (fun x => if x < sz then O x else 100 + 3 * I 0) m vb := by
    refine ⟨by omega, fun k hk => (if_pos (show X + k < sz by omega)).trans (g1 k hk), fun q hq => ?_, fun q hq => ?_, fun d hd => ?_, g5, ?_⟩
    · by_cases e : q = I 0
      · subst e
        rw [va_up_s, e1, e2]
        exact ⟨by omega, Nat.le_refl _, fun x c1 c2 => if_neg (show ¬ x < sz by omega)⟩
      · obtain ⟨q1, q2, q3⟩ := g2 q (by omega)
        rw [va_up_n _ _ e, o1 q e, o2 q e]
        exact ⟨q1, by omega, fun x c1 c2 => (if_pos (show x < sz by omega)).trans (q3 x c1 c2)⟩
    · obtain ⟨q1, q2, q3⟩ := g3 q hq
      exact ⟨q1, by omega, fun x c1 c2 => (if_pos (show x < sz by omega)).trans (q3 x c1 c2)⟩
    · obtain ⟨q1, q2, q3⟩ := g4 d hd
      exact ⟨q1, by omega, fun x c1 c2 => (if_pos (show x < sz by omega)).trans (q3 x c1 c2)⟩
    · rcases g6 with e | ⟨q1, q2, q3⟩
      · exact Or.inl e
      · exact Or.inr ⟨q1, by omega, (if_pos q2).trans q3⟩
  have hpz : Puz T G1 sz A2 (I 0) := by
    obtain ⟨r1, ⟨fl, r2, r3⟩, r4, F, r5, r6⟩ := hR
    refine ⟨⟨by rw [e1, e2, e3, e4]; exact r1, ⟨fl, by rw [e1, e2]; exact r2, by rw [e1, e2]; exact r3⟩, fun ln hl => ?_⟩, F, by rw [e1, e2]; exact r5, by rw [e1, e2]; exact fun x hx => by rw [r6 x hx, d1 8 (by decide) (by decide) (by decide), D_new_8, if_pos (by omega)]⟩
    rw [e1, e2] at hl
    have hl2 := (r4 ln hl).1 hl
    unfold LinP
    have eL : pz_L A2 (I 0) ln = if ln < b then a else b := by unfold pz_L; rw [e1, e2]
    have ec : pz_cr A2 (I 0) ln = if ln < b then b else 0 := by unfold pz_cr; rw [e2]
    have en : pz_n A2 (I 0) ln = (f ln).1 := n5 ln hl
    rw [e1, e2, eL, ec, en]
    exact hl2.cg (fun i hi => ⟨(d4 ln hl i hi).1.symm, (d4 ln hl i hi).2.symm⟩)
  refine ⟨va_up pa (I 0) sz, gq, lv, (fun x => if x < sz then O x else 100 + 3 * I 0), m, vb, ?_⟩
  exact R.put (fun t => t = 0 ∨ t = 1 ∨ t = 4) (fun b hb hc => by have n0 : b ≠ X + 0 := fun h => hc (by have e := R.1.2.1 0 (by omega); rw [← h] at e; omega); have n1 : b ≠ X + 1 := fun h => hc (by have e := R.1.2.1 1 (by omega); rw [← h] at e; omega); have n4 : b ≠ X + 4 := fun h => hc (by have e := R.1.2.1 4 (by omega); rw [← h] at e; omega); exact hN b hb ⟨n0, n1, n4⟩) hgeo (Or.inl hX) (Or.inl ⟨fp, hfp, fun p hp => if e : p = I 0 then (by rw [e, va_up_s]; exact hfn) else (by rw [va_up_n _ _ e]; exact hfo p (by omega))⟩) (Or.inr ⟨by omega, rfl, fun _ _ => rfl⟩) (Or.inr ⟨by omega, fun _ _ => by rw [ek 9 (by decide) (by decide)]⟩) (Or.inl hscr) (Or.inr ⟨by omega, by omega, by omega, rfl, rfl, fun _ _ => by rw [ek 27 (by decide) (by decide)]⟩) (Or.inr ⟨by omega, by omega, by omega, by omega⟩) (Or.inr (by omega)) (Or.inr ⟨by omega, rfl, rfl, rfl⟩) (Or.inr ⟨by omega, rfl, rfl, fun _ _ _ _ => by rw [ek 16 (by decide) (by decide)]⟩) (Or.inr ⟨by omega, fun d hd => by omega, rfl, rfl⟩) (Or.inr ⟨by omega, rfl⟩) (Or.inr (by omega)) (Or.inr (by omega)) (fun p hp => if e : p = I 0 then Or.inl (by rw [e, va_up_s]; exact hpz) else Or.inr ⟨by omega, va_up_n _ _ e, by omega, hpeq p (by omega), h8 p (by omega)⟩) (fun g hg => Or.inr ⟨hg, rfl, by omega, ⟨by rw [ek 19 (by decide) (by decide)], by rw [ek 21 (by decide) (by decide)], by rw [ek 22 (by decide) (by decide)], by rw [ek 23 (by decide) (by decide)], o1 _ (by have := (hI.2.2.2.2.2.1 g hg).1; omega), o2 _ (by have := (hI.2.2.2.2.2.1 g hg).1; omega), fun i hi => by rw [ek 20 (by decide) (by decide)], fun i hi => ⟨by rw [ek 24 (by decide) (by decide)], by rw [ek 25 (by decide) (by decide)], by rw [ek 26 (by decide) (by decide)]⟩⟩, by omega, va_up_n _ _ (by have := (hI.2.2.2.2.2.1 g hg).1; omega)⟩)

def gm_A (I : md_I) (A : md_A) (p : Nat) : md_A := md_fill (md_st (md_st A 19 (I 7) p) 4 p 1) 20 (100 * I 7) 100 0
theorem gm_A_at {I : md_I} {A : md_A} {p k j : Nat} : gm_A I A p k j = if k = 20 ∧ 100 * I 7 ≤ j ∧ j < 100 * I 7 + 100 then 0 else if k = 4 ∧ j = p then 1 else if k = 19 ∧ j = I 7 then p else A k j := by
  unfold gm_A
  by_cases h : k = 20
  · subst h
    rw [md_fill_at]
    by_cases h2 : 100 * I 7 ≤ j ∧ j < 100 * I 7 + 100
    · rw [if_pos h2, if_pos ⟨rfl, h2⟩]
    · rw [if_neg h2, if_neg (fun g => h2 g.2), md_st_k _ (by decide), md_st_k _ (by decide), if_neg (by omega), if_neg (by omega)]
  · rw [md_fill_k _ h, md_st_at, md_st_at]
    exact (if_neg (fun g => h g.1)).symm
theorem gm_A_k {I : md_I} {A : md_A} {p k : Nat} (h : k ≠ 4 ∧ k ≠ 19 ∧ k ≠ 20) : gm_A I A p k = A k := by
  funext j
  rw [gm_A_at, if_neg (by omega), if_neg (by omega), if_neg (by omega)]
theorem Rep.newg {T : q_T} {X tt : Nat} {I : md_I} {A : md_A} {G G1 : q_G} {sz p : Nat} {pa gq lv O : Nat → Nat} {m vb : Nat} {fg : Nat → Option Nat} {M C Bf Af : Nat → Nat} (R : Rep T X I A G sz pa gq lv O m vb) (hI : Inv tt I A) (hp : p < I 0) (h20 : I 7 < 20) (hX : G1 X = some (q_ob 9 (rx_ob X (I 0) (I 7 + 1)))) (hfg : G1 (X + 2) = some (q_ra T 4 20 fg)) (hfo : ∀ g, g < I 7 → fg g = some (gq g)) (hfn : fg (I 7) = some sz) (hu : G1 (pa p) = some (q_ob 5 (pu_ob (pa p) (A 1 p) (A 2 p) (A 3 p) (pa p + 2 + 4 * (A 1 p + A 2 p)) 1))) (hGam : Gam T G1 sz p (pa p) (A 1 p * A 2 p) 0 0 0 M C Bf Af) (hM : ∀ i, i < A 1 p * A 2 p → M i = 0) (hN : ∀ b, b < sz → b ≠ X ∧ b ≠ X + 2 ∧ b ≠ pa p → G1 b = G b) : RepX T X (va_up I 7 (I 7 + 1)) (gm_A I A p) G1 (sz + 5) := by
  have hg := R.1
  obtain ⟨g0, g1, g2, g3, g4, g5, g6⟩ := hg
  have ek : ∀ k, k ≠ 4 ∧ k ≠ 19 ∧ k ≠ 20 → gm_A I A p k = A k := fun k h => gm_A_k h
  have hz := (hI.2.1 p hp).1
  have hwh := pz_size hz
  obtain ⟨p1, p2, p3⟩ := g2 p hp
  obtain ⟨k1, k2, k3⟩ := hI.2.2.2.2.2.2.1 (I 7) (Nat.le_refl _) h20
  have e19 : gm_A I A p 19 (I 7) = p := by rw [gm_A_at, if_neg (by omega), if_neg (by omega), if_pos ⟨rfl, rfl⟩]
  have hgeo : Geo X (sz + 5) (va_up I 7 (I 7 + 1)) (gm_A I A p) pa (va_up gq (I 7) sz) lv (fun x => if x < sz then O x else 101 + 3 * I 7) m vb := by
    refine ⟨by omega, fun k hk => (if_pos (show X + k < sz by omega)).trans (g1 k hk), fun q hq => ?_, fun q hq => ?_, fun d hd => ?_, g5, ?_⟩
    · obtain ⟨q1, q2, q3⟩ := g2 q hq
      rw [ek 1 (by decide), ek 2 (by decide)]
      exact ⟨q1, by omega, fun x c1 c2 => (if_pos (show x < sz by omega)).trans (q3 x c1 c2)⟩
    · by_cases e : q = I 7
      · subst e
        rw [va_up_s]
        exact ⟨by omega, Nat.le_refl _, fun x c1 c2 => if_neg (show ¬ x < sz by omega)⟩
      · have hq' : q < I 7 := by have : va_up I 7 (I 7 + 1) 7 = I 7 + 1 := rfl; omega
        obtain ⟨q1, q2, q3⟩ := g3 q hq'
        rw [va_up_n _ _ e]
        exact ⟨q1, by omega, fun x c1 c2 => (if_pos (show x < sz by omega)).trans (q3 x c1 c2)⟩
    · obtain ⟨q1, q2, q3⟩ := g4 d hd
      exact ⟨q1, by omega, fun x c1 c2 => (if_pos (show x < sz by omega)).trans (q3 x c1 c2)⟩
    · rcases g6 with e | ⟨q1, q2, q3⟩
      · exact Or.inl e
      · exact Or.inr ⟨q1, by omega, (if_pos q2).trans q3⟩
  have hpz : Puz T G1 (pa p) (gm_A I A p) p := by
    obtain ⟨hPl, F, hd, hF⟩ := R.2.2.2.2.2.2.2.2.2.2.2.2.2.2.2.1 p hp
    have e4 : gm_A I A p 4 p = 1 := by rw [gm_A_at, if_neg (by omega), if_pos ⟨rfl, rfl⟩]
    refine ⟨⟨by rw [ek 1 (by decide), ek 2 (by decide), ek 3 (by decide), e4]; exact hu, ?_, fun ln hl => ?_⟩, F, ?_, ?_⟩
    · rw [ek 1 (by decide), ek 2 (by decide)]
      obtain ⟨f, h1, h2⟩ := hPl.2.1
      exact ⟨f, (hN _ (by omega) (by omega)).trans h1, h2⟩
    · rw [ek 1 (by decide), ek 2 (by decide)] at hl
      have h := (hPl.2.2 ln hl).fr (G' := G1) (fun b b1 b2 => hN b (by omega) (by omega))
      unfold LinP at h ⊢
      have eL : pz_L (gm_A I A p) p ln = pz_L A p ln := by unfold pz_L; rw [ek 1 (by decide), ek 2 (by decide)]
      have ec : pz_cr (gm_A I A p) p ln = pz_cr A p ln := by unfold pz_cr; rw [ek 2 (by decide)]
      have en : pz_n (gm_A I A p) p ln = pz_n A p ln := by unfold pz_n; rw [ek 5 (by decide)]
      have e6 : pz_c (gm_A I A p) p ln = pz_c A p ln := by unfold pz_c; rw [ek 6 (by decide)]
      have e7 : pz_l (gm_A I A p) p ln = pz_l A p ln := by unfold pz_l; rw [ek 7 (by decide)]
      rw [ek 1 (by decide), ek 2 (by decide), eL, ec, en, e6, e7]
      exact h
    · rw [ek 1 (by decide), ek 2 (by decide)]; exact (hN _ (by omega) (by omega)).trans hd
    · rw [ek 1 (by decide), ek 2 (by decide), ek 8 (by decide)]; exact hF
  have hgm : GamR T G1 sz (pa p) (gm_A I A p) (I 7) := by
    refine ⟨M, C, Bf, Af, by rw [e19, ek 1 (by decide), ek 2 (by decide), ek 21 (by decide), ek 22 (by decide), ek 23 (by decide), k1, k2, k3]; exact hGam, ?_, ?_⟩
    · rw [e19, ek 1 (by decide), ek 2 (by decide)]
      exact fun i hi => by rw [hM i hi, gm_A_at, if_pos ⟨rfl, by omega, by omega⟩]
    · rw [ek 22 (by decide), k2]
      exact fun i hi => absurd hi (Nat.not_lt_zero _)
  refine ⟨pa, va_up gq (I 7) sz, lv, (fun x => if x < sz then O x else 101 + 3 * I 7), m, vb, ?_⟩
  exact R.put (fun t => t = 0 ∨ t = 2 ∨ t = 100 + 3 * p) (fun b hb hc => by have n0 : b ≠ X + 0 := fun h => hc (by have e := R.1.2.1 0 (by omega); rw [← h] at e; omega); have n2 : b ≠ X + 2 := fun h => hc (by have e := R.1.2.1 2 (by omega); rw [← h] at e; omega); exact hN b hb ⟨n0, n2, fun h => hc (by have e := p3 b (by omega) (by omega); omega)⟩) hgeo (Or.inl hX) (Or.inr ⟨by omega, rfl, fun _ _ => rfl⟩) (Or.inl ⟨fg, hfg, fun q hq => if e : q = I 7 then (by rw [e, va_up_s]; exact hfn) else (by rw [va_up_n _ _ e]; exact hfo q (by have h9 : va_up I 7 (I 7 + 1) 7 = I 7 + 1 := rfl; omega))⟩) (Or.inr ⟨by omega, fun _ _ => by rw [ek 9 (by decide)]⟩) (Or.inr (by omega)) (Or.inr ⟨by omega, by omega, by omega, rfl, rfl, fun _ _ => by rw [ek 27 (by decide)]⟩) (Or.inr ⟨by omega, by omega, by omega, by omega⟩) (Or.inr (by omega)) (Or.inr ⟨by omega, rfl, rfl, rfl⟩) (Or.inr ⟨by omega, rfl, rfl, fun _ _ _ _ => by rw [ek 16 (by decide)]⟩) (Or.inr ⟨by omega, fun d hd => by omega, rfl, rfl⟩) (Or.inr ⟨by omega, rfl⟩) (Or.inr (by omega)) (Or.inr (by omega)) (fun q hq => if e : q = p then Or.inl (by rw [e]; exact hpz) else Or.inr ⟨hq, rfl, by omega, ⟨by rw [ek 1 (by decide)], by rw [ek 2 (by decide)], by rw [ek 3 (by decide)], by rw [gm_A_at, if_neg (by omega), if_neg (by omega), if_neg (by omega)], fun ln hl => ⟨by unfold pz_n; rw [ek 5 (by decide)], fun i hi => ⟨by unfold pz_c; rw [ek 6 (by decide)], by unfold pz_l; rw [ek 7 (by decide)]⟩⟩⟩, fun _ _ => by rw [ek 8 (by decide)]⟩) (fun q hq => if e : q = I 7 then Or.inl (by rw [e, va_up_s, e19]; exact ⟨hp, hgm⟩) else Or.inr ⟨(by have h9 : va_up I 7 (I 7 + 1) 7 = I 7 + 1 := rfl; omega), va_up_n _ _ e, by omega, (by have hq2 : q < I 7 := (by have h9 : va_up I 7 (I 7 + 1) 7 = I 7 + 1 := rfl; omega); have hsz2 := pz_size (hI.2.1 _ (hI.2.2.2.2.2.1 q hq2).1).1; exact ⟨by rw [gm_A_at, if_neg (by omega), if_neg (by omega), if_neg (by omega)], by rw [ek 21 (by decide)], by rw [ek 22 (by decide)], by rw [ek 23 (by decide)], by rw [ek 1 (by decide)], by rw [ek 2 (by decide)], fun i hi => by rw [gm_A_at, if_neg (by omega), if_neg (by omega), if_neg (by omega)], fun i hi => ⟨by rw [ek 24 (by decide)], by rw [ek 25 (by decide)], by rw [ek 26 (by decide)]⟩⟩), Nat.le_refl _, rfl⟩)
