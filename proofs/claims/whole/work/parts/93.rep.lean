/-! WHAT STANDS IN THE HEAP: the object at X with all that it owns, for the model's numbers I, A. O: who owns an address -/
def PEq (A A' : md_A) (p : Nat) : Prop := A' 1 p = A 1 p ∧ A' 2 p = A 2 p ∧ A' 3 p = A 3 p ∧ A' 4 p = A 4 p ∧ ∀ ln, ln < A 1 p + A 2 p → pz_n A' p ln = pz_n A p ln ∧ ∀ i, i < pz_n A p ln → pz_c A p ln i = pz_c A' p ln i ∧ pz_l A p ln i = pz_l A' p ln i
theorem PuzL.cg {T : q_T} {G : q_G} {u : Nat} {A A' : md_A} {p D : Nat} (h : PuzL T G u A p D) (hc : PEq A A' p) : PuzL T G u A' p D := by
  obtain ⟨e1, e2, e3, e4, e5⟩ := hc
  obtain ⟨h1, h2, h3⟩ := h
  refine ⟨by rw [e1, e2, e3, e4]; exact h1, by rw [e1, e2]; exact h2, fun ln hl => ?_⟩
  rw [e1, e2] at hl
  have h4 := h3 ln hl
  unfold LinP at h4 ⊢
  have eL : pz_L A' p ln = pz_L A p ln := by unfold pz_L; rw [e1, e2]
  have ec : pz_cr A' p ln = pz_cr A p ln := by unfold pz_cr; rw [e2]
  rw [e1, e2, eL, ec, (e5 ln hl).1]
  exact h4.cg (e5 ln hl).2
def Puz (T : q_T) (G : q_G) (u : Nat) (A : md_A) (p : Nat) : Prop := PuzL T G u A p (u + 2 + 4 * (A 1 p + A 2 p)) ∧ ∃ F : Nat → Nat, G (u + 2 + 4 * (A 1 p + A 2 p)) = some (q_ia T (A 1 p * A 2 p) (fun i => nI (F i))) ∧ ∀ x, x < A 1 p * A 2 p → F x = A 8 (100 * p + x)
theorem Puz.cg {T : q_T} {G G' : q_G} {u : Nat} {A A' : md_A} {p : Nat} (h : Puz T G u A p) (hc : PEq A A' p) (h8 : ∀ x, x < A 1 p * A 2 p → A' 8 (100 * p + x) = A 8 (100 * p + x)) (hF : ∀ b, u ≤ b → b < u + 3 + 4 * (A 1 p + A 2 p) → G' b = G b) : Puz T G' u A' p := by
  obtain ⟨h1, F, h2, h3⟩ := h
  have e := hc
  obtain ⟨e1, e2, -⟩ := e
  refine ⟨?_, F, ?_, ?_⟩
  · rw [e1, e2]; exact (h1.fr (fun b b1 b2 => hF b b1 (by omega))).cg hc
  · rw [e1, e2]; exact (hF _ (by omega) (by omega)).trans h2
  · rw [e1, e2]; exact fun x hx => (h3 x hx).trans (h8 x hx).symm
/-- game g of the model at q, its puzzle at u -/
def GamR (T : q_T) (G : q_G) (q u : Nat) (A : md_A) (g : Nat) : Prop := ∃ M C Bf Af : Nat → Nat, Gam T G q (A 19 g) u (A 1 (A 19 g) * A 2 (A 19 g)) (A 21 g) (A 22 g) (A 23 g) M C Bf Af ∧ (∀ i, i < A 1 (A 19 g) * A 2 (A 19 g) → M i = A 20 (100 * g + i)) ∧ ∀ i, i < A 22 g → C i = A 24 (200 * g + i) ∧ Bf i = A 25 (200 * g + i) ∧ Af i = A 26 (200 * g + i)
def GEq (A A' : md_A) (g : Nat) : Prop := A' 19 g = A 19 g ∧ A' 21 g = A 21 g ∧ A' 22 g = A 22 g ∧ A' 23 g = A 23 g ∧ A' 1 (A 19 g) = A 1 (A 19 g) ∧ A' 2 (A 19 g) = A 2 (A 19 g) ∧ (∀ i, i < A 1 (A 19 g) * A 2 (A 19 g) → A' 20 (100 * g + i) = A 20 (100 * g + i)) ∧ ∀ i, i < A 22 g → A' 24 (200 * g + i) = A 24 (200 * g + i) ∧ A' 25 (200 * g + i) = A 25 (200 * g + i) ∧ A' 26 (200 * g + i) = A 26 (200 * g + i)
theorem GamR.cg {T : q_T} {G G' : q_G} {q u : Nat} {A A' : md_A} {g : Nat} (h : GamR T G q u A g) (hc : GEq A A' g) (hF : ∀ b, q ≤ b → b < q + 5 → G' b = G b) : GamR T G' q u A' g := by
  obtain ⟨e1, e2, e3, e4, e5, e6, e7, e8⟩ := hc
  obtain ⟨M, C, Bf, Af, h1, h2, h3⟩ := h
  refine ⟨M, C, Bf, Af, ?_, ?_, ?_⟩
  · rw [e1, e2, e3, e4, e5, e6]; exact h1.fr hF
  · rw [e1, e5, e6]; exact fun i hi => (h2 i hi).trans (e7 i hi).symm
  · rw [e3]; exact fun i hi => ⟨(h3 i hi).1.trans (e8 i hi).1.symm, (h3 i hi).2.1.trans (e8 i hi).2.1.symm, (h3 i hi).2.2.trans (e8 i hi).2.2.symm⟩
/-- the sheet at a: n bytes F at b -/
def Sht (T : q_T) (G : q_G) (a b n : Nat) (F : Nat → Nat) : Prop := ∃ (ml : Nat) (c : Nat) (f : Nat → Nat), G a = some (q_ob 0 [.ref b, .int (nI 0), .int (nI ml), .int (nI n)]) ∧ G b = some (q_ba T c (fun i => nI (f i))) ∧ n ≤ c ∧ 16 ≤ c ∧ c ≤ 1000 ∧ (∀ i, f i ≤ 127) ∧ ∀ i, i < n → f i = F i
abbrev rx_ob (X a b : Nat) : List Value := [.ref (X + 1), .ref (X + 2), .ref (X + 3), .ref (X + 4), .ref (X + 5), .ref (X + 7), .ref (X + 11), .ref (X + 12), .ref (X + 15), .int (nI a), .int (nI b)]
def Geo (X sz : Nat) (I : md_I) (A : md_A) (pa gq lv O : Nat → Nat) (m vb : Nat) : Prop := X + 46 ≤ sz ∧ (∀ k, k < 46 → O (X + k) = k) ∧ (∀ p, p < I 0 → X + 46 ≤ pa p ∧ pa p + 3 + 4 * (A 1 p + A 2 p) ≤ sz ∧ ∀ b, pa p ≤ b → b < pa p + 3 + 4 * (A 1 p + A 2 p) → O b = 100 + 3 * p) ∧ (∀ g, g < I 7 → X + 46 ≤ gq g ∧ gq g + 5 ≤ sz ∧ ∀ b, gq g ≤ b → b < gq g + 5 → O b = 101 + 3 * g) ∧ (∀ d, d < m → X + 46 ≤ lv d ∧ lv d + 2 ≤ sz ∧ ∀ b, lv d ≤ b → b < lv d + 2 → O b = 102 + 3 * d) ∧ (∀ d d', d < d' → d' < m → lv d + 2 ≤ lv d') ∧ (vb = X + 6 ∨ (X + 46 ≤ vb ∧ vb < sz ∧ O vb = 50))
def cP (T : q_T) (X : Nat) (n : Nat) (pa : Nat → Nat) (G : q_G) : Prop := ∃ f : Nat → Option Nat, G (X + 1) = some (q_ra T 3 30 f) ∧ ∀ p, p < n → f p = some (pa p)
def cG (T : q_T) (X : Nat) (n : Nat) (gq : Nat → Nat) (G : q_G) : Prop := ∃ f : Nat → Option Nat, G (X + 2) = some (q_ra T 4 20 f) ∧ ∀ p, p < n → f p = some (gq p)
def cCan (T : q_T) (X : Nat) (A : md_A) (G : q_G) : Prop := ∃ F : Nat → Nat, G (X + 3) = some (q_ia T 100 (fun i => nI (F i))) ∧ ∀ x, x < 100 → F x = A 9 x
def cPic (T : q_T) (X : Nat) (I : md_I) (A : md_A) (G : q_G) : Prop := ∃ Q : Nat → Nat, G (X + 13) = some (q_ia T 500 (fun i => nI (Q i))) ∧ ∀ i, i < I 2 → ∀ k, k < I 4 → Q (100 * i + k) = A 16 (100 * i + k)
def cLvs (T : q_T) (X m : Nat) (lv : Nat → Nat) (G : q_G) : Prop := m ≤ 101 ∧ (∃ g : Nat → Option Nat, G (X + 14) = some (q_ra T 5 101 g) ∧ (∀ d, d < m → g d = some (lv d)) ∧ ∀ d, m ≤ d → g d = none) ∧ ∀ d, d < m → ∃ S c x, Lev T G (lv d) S c x
def Rep (T : q_T) (X : Nat) (I : md_I) (A : md_A) (G : q_G) (sz : Nat) (pa gq lv O : Nat → Nat) (m vb : Nat) : Prop :=
  Geo X sz I A pa gq lv O m vb ∧ G X = some (q_ob 9 (rx_ob X (I 0) (I 7))) ∧ cP T X (I 0) pa G ∧ cG T X (I 7) gq G ∧ cCan T X A G ∧ (∃ F : Nat → Nat, G (X + 4) = some (q_ia T 100 (fun i => nI (F i)))) ∧ Sht T G (X + 5) vb (I 8) (A 27) ∧ Scn T G (X + 7) ∧ (∃ W, G (X + 11) = some (q_ob 8 [.ref (X + 7), .int (nI W)])) ∧ G (X + 12) = some (q_ob 7 (se_ob (X + 7) (I 2) (I 3) (I 4))) ∧ cPic T X I A G ∧ cLvs T X m lv G ∧ G (X + 15) = some (q_ob 2 (gd_ob (X + 7) (I 5))) ∧ (∃ F : Nat → Nat, G (X + 16) = some (q_ia T 100 (fun i => nI (F i)))) ∧ (∃ F : Nat → Nat, G (X + 17) = some (q_ia T 100 (fun i => nI (F i)))) ∧ (∀ p, p < I 0 → Puz T G (pa p) A p) ∧ ∀ g, g < I 7 → A 19 g < I 0 ∧ GamR T G (gq g) (pa (A 19 g)) A g
def RepX (T : q_T) (X : Nat) (I : md_I) (A : md_A) (G : q_G) (sz : Nat) : Prop := ∃ pa gq lv O m vb, Rep T X I A G sz pa gq lv O m vb
section
variable {T : q_T} {X : Nat} {I I' : md_I} {A A' : md_A} {G G' : q_G} {sz sz' : Nat} {pa gq lv O pa' gq' lv' O' : Nat → Nat} {m vb m' vb' : Nat}
/-- each part is told anew, or is untouched and its numbers are the same -/
theorem Rep.put (R : Rep T X I A G sz pa gq lv O m vb) (Ch : Nat → Prop) (hN : ∀ b, b < sz → ¬ Ch (O b) → G' b = G b) (hgeo : Geo X sz' I' A' pa' gq' lv' O' m' vb')
    (c0 : G' X = some (q_ob 9 (rx_ob X (I' 0) (I' 7))) ∨ (¬ Ch 0 ∧ I' 0 = I 0 ∧ I' 7 = I 7))
    (c1 : cP T X (I' 0) pa' G' ∨ (¬ Ch 1 ∧ I' 0 = I 0 ∧ ∀ p, p < I 0 → pa' p = pa p))
    (c2 : cG T X (I' 7) gq' G' ∨ (¬ Ch 2 ∧ I' 7 = I 7 ∧ ∀ p, p < I 7 → gq' p = gq p))
    (c3 : cCan T X A' G' ∨ (¬ Ch 3 ∧ ∀ x, x < 100 → A' 9 x = A 9 x))
    (c4 : (∃ F : Nat → Nat, G' (X + 4) = some (q_ia T 100 (fun i => nI (F i)))) ∨ ¬ Ch 4)
    (c5 : Sht T G' (X + 5) vb' (I' 8) (A' 27) ∨ (¬ Ch 5 ∧ ¬ Ch 6 ∧ ¬ Ch 50 ∧ vb' = vb ∧ I' 8 = I 8 ∧ ∀ i, i < I 8 → A' 27 i = A 27 i))
    (c7 : Scn T G' (X + 7) ∨ (¬ Ch 7 ∧ ¬ Ch 8 ∧ ¬ Ch 9 ∧ ¬ Ch 10))
    (c11 : (∃ W, G' (X + 11) = some (q_ob 8 [.ref (X + 7), .int (nI W)])) ∨ ¬ Ch 11)
    (c12 : G' (X + 12) = some (q_ob 7 (se_ob (X + 7) (I' 2) (I' 3) (I' 4))) ∨ (¬ Ch 12 ∧ I' 2 = I 2 ∧ I' 3 = I 3 ∧ I' 4 = I 4))
    (c13 : cPic T X I' A' G' ∨ (¬ Ch 13 ∧ I' 2 = I 2 ∧ I' 4 = I 4 ∧ ∀ i, i < I 2 → ∀ k, k < I 4 → A' 16 (100 * i + k) = A 16 (100 * i + k)))
    (c14 : cLvs T X m' lv' G' ∨ (¬ Ch 14 ∧ (∀ d, d < m → ¬ Ch (102 + 3 * d)) ∧ m' = m ∧ lv' = lv))
    (c15 : G' (X + 15) = some (q_ob 2 (gd_ob (X + 7) (I' 5))) ∨ (¬ Ch 15 ∧ I' 5 = I 5))
    (c16 : (∃ F : Nat → Nat, G' (X + 16) = some (q_ia T 100 (fun i => nI (F i)))) ∨ ¬ Ch 16)
    (c17 : (∃ F : Nat → Nat, G' (X + 17) = some (q_ia T 100 (fun i => nI (F i)))) ∨ ¬ Ch 17)
    (cp : ∀ p, p < I' 0 → Puz T G' (pa' p) A' p ∨ (p < I 0 ∧ pa' p = pa p ∧ ¬ Ch (100 + 3 * p) ∧ PEq A A' p ∧ ∀ x, x < A 1 p * A 2 p → A' 8 (100 * p + x) = A 8 (100 * p + x)))
    (cg : ∀ g, g < I' 7 → (A' 19 g < I' 0 ∧ GamR T G' (gq' g) (pa' (A' 19 g)) A' g) ∨ (g < I 7 ∧ gq' g = gq g ∧ ¬ Ch (101 + 3 * g) ∧ GEq A A' g ∧ I 0 ≤ I' 0 ∧ pa' (A 19 g) = pa (A 19 g))) : Rep T X I' A' G' sz' pa' gq' lv' O' m' vb' := by
  obtain ⟨⟨g0, g1, g2, g3, g4, g5, g6⟩, r0, r1, r2, r3, r4, r5, r7, r11, r12, r13, r14, r15, r16, r17, rp, rg⟩ := R
  have fx : ∀ k, k < 46 → ¬ Ch k → G' (X + k) = G (X + k) := fun k hk hc => hN _ (by omega) (by rw [g1 k hk]; exact hc)
  refine ⟨hgeo, ?_, ?_, ?_, ?_, ?_, ?_, ?_, ?_, ?_, ?_, ?_, ?_, ?_, ?_, fun p hp => ?_, fun g hg => ?_⟩
  · rcases c0 with h | ⟨h, e1, e2⟩
    · exact h
    · rw [e1, e2]; exact (fx 0 (by omega) h).trans r0
  · rcases c1 with h | ⟨h, e1, e2⟩
    · exact h
    · obtain ⟨f, h1, h2⟩ := r1
      exact ⟨f, (fx 1 (by omega) h).trans h1, fun p hp => (h2 p (by omega)).trans (by rw [e2 p (by omega)])⟩
  · rcases c2 with h | ⟨h, e1, e2⟩
    · exact h
    · obtain ⟨f, h1, h2⟩ := r2
      exact ⟨f, (fx 2 (by omega) h).trans h1, fun p hp => (h2 p (by omega)).trans (by rw [e2 p (by omega)])⟩
  · rcases c3 with h | ⟨h, e1⟩
    · exact h
    · obtain ⟨F, h1, h2⟩ := r3
      exact ⟨F, (fx 3 (by omega) h).trans h1, fun x hx => (h2 x hx).trans (e1 x hx).symm⟩
  · rcases c4 with h | h
    · exact h
    · exact r4.imp (fun F hF => (fx 4 (by omega) h).trans hF)
  · rcases c5 with h | ⟨h5, h6, h50, rfl, e2, e3⟩
    · exact h
    · obtain ⟨ml, c, f, h1, h2, h3, h4, h7, h9, h8⟩ := r5
      refine ⟨ml, c, f, by rw [e2]; exact (fx 5 (by omega) h5).trans h1, ?_, by omega, h4, h7, h9, fun i hi => (h8 i (by omega)).trans (e3 i (by omega)).symm⟩
      rcases g6 with e | ⟨q1, q2, q3⟩
      · rw [e] at h2 ⊢; exact (fx 6 (by omega) h6).trans h2
      · exact (hN _ q2 (by rw [q3]; exact h50)).trans h2
  · rcases c7 with h | ⟨h7, h8, h9, h10⟩
    · exact h
    · obtain ⟨h1, ⟨K, h2⟩, ⟨Q, h3⟩, Y, h4⟩ := r7
      exact ⟨(fx 7 (by omega) h7).trans h1, ⟨K, (fx 8 (by omega) h8).trans h2⟩, ⟨Q, (fx 9 (by omega) h9).trans h3⟩, Y, (fx 10 (by omega) h10).trans h4⟩
  · rcases c11 with h | h
    · exact h
    · exact r11.imp (fun F hF => (fx 11 (by omega) h).trans hF)
  · rcases c12 with h | ⟨h, e1, e2, e3⟩
    · exact h
    · rw [e1, e2, e3]; exact (fx 12 (by omega) h).trans r12
  · rcases c13 with h | ⟨h, e1, e2, e3⟩
    · exact h
    · obtain ⟨Q, h1, h2⟩ := r13
      exact ⟨Q, (fx 13 (by omega) h).trans h1, fun i hi k hk => (h2 i (by omega) k (by omega)).trans (e3 i (by omega) k (by omega)).symm⟩
  · rcases c14 with h | ⟨h, h2, rfl, rfl⟩
    · exact h
    · obtain ⟨k1, ⟨f, k2, k3⟩, k4⟩ := r14
      refine ⟨k1, ⟨f, (fx 14 (by omega) h).trans k2, k3⟩, fun d hd => ?_⟩
      obtain ⟨S, c, x, hl⟩ := k4 d hd
      obtain ⟨q1, q2, q3⟩ := g4 d hd
      exact ⟨S, c, x, hl.fr (fun b b1 b2 => hN b (by omega) (by rw [q3 b b1 b2]; exact h2 d hd))⟩
  · rcases c15 with h | ⟨h, e1⟩
    · exact h
    · rw [e1]; exact (fx 15 (by omega) h).trans r15
  · rcases c16 with h | h
    · exact h
    · exact r16.imp (fun F hF => (fx 16 (by omega) h).trans hF)
  · rcases c17 with h | h
    · exact h
    · exact r17.imp (fun F hF => (fx 17 (by omega) h).trans hF)
  · rcases cp p hp with h | ⟨h1, h2, h3, h4, h5⟩
    · exact h
    · obtain ⟨q1, q2, q3⟩ := g2 p h1
      rw [h2]
      exact (rp p h1).cg h4 h5 (fun b b1 b2 => hN b (by omega) (by rw [q3 b b1 b2]; exact h3))
  · rcases cg g hg with h | ⟨h1, h2, h3, h4, h5, h6⟩
    · exact h
    · obtain ⟨q1, q2, q3⟩ := g3 g h1
      obtain ⟨s1, s2⟩ := rg g h1
      have h4' := h4
      obtain ⟨e1, -⟩ := h4'
      rw [e1, h2, h6]
      exact ⟨by omega, s2.cg h4 (fun b b1 b2 => hN b (by omega) (by rw [q3 b b1 b2]; exact h3))⟩
theorem Geo.ap {t t' a n a' n' : Nat} (h : ∀ b, a ≤ b → b < a + n → O b = t) (h' : ∀ b, a' ≤ b → b < a' + n' → O b = t') (hne : t ≠ t') (hn : 0 < n) (hn' : 0 < n') : a + n ≤ a' ∨ a' + n' ≤ a := by
  rcases Nat.lt_or_ge a' (a + n) with h1 | h1
  · rcases Nat.lt_or_ge a (a' + n') with h2 | h2
    · exfalso
      rcases Nat.lt_or_ge a a' with h3 | h3
      · exact hne ((h a' (by omega) h1).symm.trans (h' a' (Nat.le_refl _) (by omega)))
      · exact hne ((h a (Nat.le_refl _) (by omega)).symm.trans (h' a h3 h2))
    · exact Or.inr h2
  · exact Or.inl h1
/-- the model's cells may change -/
theorem Rep.mod (R : Rep T X I A G sz pa gq lv O m vb) (hN : ∀ b, b < X + 18 ∨ X + 46 ≤ b → G' b = G b) : Rep T X I A G' sz pa gq lv O m vb := by
  have hg := R.1
  refine R.put (fun t => 18 ≤ t ∧ t < 46) (fun b hb hc => hN b ?_) hg (Or.inr ⟨by omega, rfl, rfl⟩) (Or.inr ⟨by omega, rfl, fun _ _ => rfl⟩) (Or.inr ⟨by omega, rfl, fun _ _ => rfl⟩) (Or.inr ⟨by omega, fun _ _ => rfl⟩) (Or.inr (by omega)) (Or.inr ⟨by omega, by omega, by omega, rfl, rfl, fun _ _ => rfl⟩) (Or.inr ⟨by omega, by omega, by omega, by omega⟩) (Or.inr (by omega)) (Or.inr ⟨by omega, rfl, rfl, rfl⟩) (Or.inr ⟨by omega, rfl, rfl, fun _ _ _ _ => rfl⟩) (Or.inr ⟨by omega, fun d hd => by omega, rfl, rfl⟩) (Or.inr ⟨by omega, rfl⟩) (Or.inr (by omega)) (Or.inr (by omega)) (fun p hp => Or.inr ⟨hp, rfl, by omega, ⟨rfl, rfl, rfl, rfl, fun _ _ => ⟨rfl, fun _ _ => ⟨rfl, rfl⟩⟩⟩, fun _ _ => rfl⟩) (fun g hg => Or.inr ⟨hg, rfl, by omega, ⟨rfl, rfl, rfl, rfl, rfl, rfl, fun _ _ => rfl, fun _ _ => ⟨rfl, rfl, rfl⟩⟩, Nat.le_refl _, rfl⟩)
  by_cases h1 : b < X + 18
  · exact Or.inl h1
  · by_cases h2 : X + 46 ≤ b
    · exact Or.inr h2
    · exfalso
      refine hc ?_
      have := hg.2.1 (b - X) (by omega)
      rw [show X + (b - X) = b by omega] at this
      rw [this]
      omega
end
