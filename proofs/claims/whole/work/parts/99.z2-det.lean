/-! EACH ANSWER IS ONE -/
section
variable {t : Nat} {I I2 I3 : md_I} {A A2 A3 : md_A} {x y w u z z2 : Int32}
theorem dt_p {p q : Nat} (h : Inv t I A) (hp : p < I 0) (hq : q < I 0) (e1 : x = nI p) (e2 : x = nI q) : p = q := by
  have h0 := h.1
  exact nI_un (e1.symm.trans e2) (by omega) (by omega)
theorem dt_g {p q : Nat} (h : Inv t I A) (hp : p < I 7) (hq : q < I 7) (e1 : x = nI p) (e2 : x = nI q) : p = q := by
  have h0 := h.2.2.2.2.1
  exact nI_un (e1.symm.trans e2) (by omega) (by omega)
theorem dt_cell {p c q d : Nat} (h : Inv t I A) (h1 : D_cell I A x y p c) (h2 : D_cell I A x y q d) : p = q ∧ c = d := by
  obtain ⟨a1, a2, a3, a4⟩ := h1
  obtain ⟨b1, b2, b3, b4⟩ := h2
  obtain rfl := dt_p h a1 b1 a2 b2
  have := pz_size (h.2.1 p a1).1
  exact ⟨rfl, nI_un (a4.symm.trans b4) (by omega) (by omega)⟩
theorem dt_line {p c q d : Nat} (h : Inv t I A) (h1 : D_line I A x y p c) (h2 : D_line I A x y q d) : p = q ∧ c = d := by
  obtain ⟨a1, a2, a3, a4⟩ := h1
  obtain ⟨b1, b2, b3, b4⟩ := h2
  obtain rfl := dt_p h a1 b1 a2 b2
  have := (h.2.1 p a1).1.2
  exact ⟨rfl, nI_un (a4.symm.trans b4) (by omega) (by omega)⟩
theorem dt_set (h : Inv t I A) (h1 : D_set I A x y z) (h2 : D_set I A x y z2) : z2 = z := by
  obtain ⟨p, c, a1, rfl⟩ | ⟨a1, rfl⟩ := h1 <;> obtain ⟨p', c', b1, rfl⟩ | ⟨b1, rfl⟩ := h2
  · obtain ⟨rfl, rfl⟩ := dt_cell h a1 b1; rfl
  · exact absurd ⟨_, _, a1⟩ b1
  · exact absurd ⟨_, _, b1⟩ a1
  · rfl
theorem dt_ways (h : Inv t I A) (h1 : D_ways I A x y z) (h2 : D_ways I A x y z2) : z2 = z := by
  obtain ⟨p, c, a1, rfl⟩ | ⟨a1, rfl⟩ := h1 <;> obtain ⟨p', c', b1, rfl⟩ | ⟨b1, rfl⟩ := h2
  · obtain ⟨rfl, rfl⟩ := dt_line h a1 b1; rfl
  · exact absurd ⟨_, _, a1⟩ b1
  · exact absurd ⟨_, _, b1⟩ a1
  · rfl
theorem dt_picture (h : Inv t I A) (h1 : D_picture I A x y z) (h2 : D_picture I A x y z2) : z2 = z := by
  obtain ⟨-, -, -, i4, -⟩ := h.to
  obtain ⟨f1, f2, f3, -⟩ := i4
  obtain ⟨p, c, a1, a2, a3, a4, rfl⟩ | ⟨a1, rfl⟩ := h1 <;> obtain ⟨p', c', b1, b2, b3, b4, rfl⟩ | ⟨b1, rfl⟩ := h2
  · obtain rfl : p = p' := nI_un (a2.symm.trans b2) (by omega) (by omega)
    obtain rfl : c = c' := nI_un (a4.symm.trans b4) (by omega) (by omega)
    rfl
  · exact absurd ⟨_, _, a1, a2, a3, a4⟩ b1
  · exact absurd ⟨_, _, b1, b2, b3, b4⟩ a1
  · rfl
theorem dt_out (h : Inv t I A) (h1 : D_out I A x z) (h2 : D_out I A x z2) : z2 = z := by
  obtain ⟨-, -, -, i4, -⟩ := h.to
  obtain ⟨f1, f2, f3, f4, f5⟩ := i4
  obtain ⟨p, a1, a2, rfl⟩ | ⟨a1, rfl⟩ := h1 <;> obtain ⟨p', b1, b2, rfl⟩ | ⟨b1, rfl⟩ := h2
  · obtain rfl : p = p' := nI_un (a2.symm.trans b2) (by omega) (by omega)
    rfl
  · exact absurd ⟨_, a1, a2⟩ b1
  · exact absurd ⟨_, b1, b2⟩ a1
  · rfl
theorem dt_clue (h : Inv t I A) (h1 : D_clue I A x y w u z) (h2 : D_clue I A x y w u z2) : z2 = z := by
  obtain ⟨p, c, i, a1, a2, a3, rfl⟩ | ⟨a1, rfl⟩ := h1 <;> obtain ⟨p', c', i', b1, b2, b3, rfl⟩ | ⟨b1, rfl⟩ := h2
  · obtain ⟨rfl, rfl⟩ := dt_line h a1 b1
    have := ((h.2.1 p a1.1).1.2.2.2.2 c a1.2.2.1).1
    obtain rfl : i = i' := nI_un (a3.symm.trans b3) (by omega) (by omega)
    rfl
  · exact absurd ⟨_, _, _, a1, a2, a3⟩ b1
  · exact absurd ⟨_, _, _, b1, b2, b3⟩ a1
  · rfl
theorem dt_gsz {g : Nat} (h : Inv t I A) (hg : g < I 7) : A 1 (A 19 g) * A 2 (A 19 g) ≤ 100 := pz_size (h.2.1 _ (h.to.2.2.1.2.1 g hg).1).1
theorem dt_marked (h : Inv t I A) (h1 : D_marked I A x y z) (h2 : D_marked I A x y z2) : z2 = z := by
  obtain ⟨p, c, a1, a2, a3, a4, rfl⟩ | ⟨a1, rfl⟩ := h1 <;> obtain ⟨p', c', b1, b2, b3, b4, rfl⟩ | ⟨b1, rfl⟩ := h2
  · obtain rfl := dt_g h a1 b1 a2 b2
    have := dt_gsz h a1
    obtain rfl : c = c' := nI_un (a4.symm.trans b4) (by omega) (by omega)
    rfl
  · exact absurd ⟨_, _, a1, a2, a3, a4⟩ b1
  · exact absurd ⟨_, _, b1, b2, b3, b4⟩ a1
  · rfl
theorem dt_told (h : Inv t I A) (h1 : D_told I A x y z) (h2 : D_told I A x y z2) : z2 = z := by
  have hf : ∀ (p : Nat) (z : Int32), ((y = nI 0 ∧ z = nI (A 1 p)) ∨ (y = nI 1 ∧ z = nI (A 2 p)) ∨ (y = nI 2 ∧ z = nI (A 3 p)) ∨ (y = nI 3 ∧ z = nI (pz_runs A p)) ∨ (y = nI 4 ∧ z = nI (pz_dec A p)) ∨ (¬ (∃ k, k ≤ 4 ∧ y = nI k) ∧ z = -1)) → z = if y = nI 0 then nI (A 1 p) else if y = nI 1 then nI (A 2 p) else if y = nI 2 then nI (A 3 p) else if y = nI 3 then nI (pz_runs A p) else if y = nI 4 then nI (pz_dec A p) else -1 := by
    intro p z hz
    rcases hz with ⟨rfl, rfl⟩ | ⟨rfl, rfl⟩ | ⟨rfl, rfl⟩ | ⟨rfl, rfl⟩ | ⟨rfl, rfl⟩ | ⟨hn, rfl⟩
    · rw [if_pos rfl]
    · rw [if_neg (by decide), if_pos rfl]
    · rw [if_neg (by decide), if_neg (by decide), if_pos rfl]
    · rw [if_neg (by decide), if_neg (by decide), if_neg (by decide), if_pos rfl]
    · rw [if_neg (by decide), if_neg (by decide), if_neg (by decide), if_neg (by decide), if_pos rfl]
    · rw [if_neg (fun e => hn ⟨0, by decide, e⟩), if_neg (fun e => hn ⟨1, by decide, e⟩), if_neg (fun e => hn ⟨2, by decide, e⟩), if_neg (fun e => hn ⟨3, by decide, e⟩), if_neg (fun e => hn ⟨4, by decide, e⟩)]
  obtain ⟨p, a1, a2, a3⟩ | ⟨a1, rfl⟩ := h1 <;> obtain ⟨p', b1, b2, b3⟩ | ⟨b1, rfl⟩ := h2
  · obtain rfl := dt_p h a1 b1 a2 b2
    rw [hf p _ a3, hf p _ b3]
  · exact absurd ⟨_, a1, a2⟩ b1
  · exact absurd ⟨_, b1, b2⟩ a1
  · rfl
theorem dt_state (h : Inv t I A) (h1 : D_state I A x y z) (h2 : D_state I A x y z2) : z2 = z := by
  have hf : ∀ (g : Nat) (z : Int32), ((y = nI 0 ∧ z = nI (A 19 g)) ∨ (y = nI 1 ∧ z = nI (gm_marked A g)) ∨ (y = nI 2 ∧ z = nI (gm_broken A g)) ∨ (y = nI 3 ∧ z = if gm_marked A g = A 1 (A 19 g) * A 2 (A 19 g) ∧ gm_broken A g = 0 then nI 1 else nI 0) ∨ (y = nI 4 ∧ z = nI (A 21 g)) ∨ (y = nI 5 ∧ z = nI (A 22 g - A 21 g)) ∨ (y = nI 6 ∧ z = nI (A 23 g)) ∨ (¬ (∃ k, k ≤ 6 ∧ y = nI k) ∧ z = -1)) → z = if y = nI 0 then nI (A 19 g) else if y = nI 1 then nI (gm_marked A g) else if y = nI 2 then nI (gm_broken A g) else if y = nI 3 then (if gm_marked A g = A 1 (A 19 g) * A 2 (A 19 g) ∧ gm_broken A g = 0 then nI 1 else nI 0) else if y = nI 4 then nI (A 21 g) else if y = nI 5 then nI (A 22 g - A 21 g) else if y = nI 6 then nI (A 23 g) else -1 := by
    intro g z hz
    rcases hz with ⟨rfl, rfl⟩ | ⟨rfl, rfl⟩ | ⟨rfl, rfl⟩ | ⟨rfl, rfl⟩ | ⟨rfl, rfl⟩ | ⟨rfl, rfl⟩ | ⟨rfl, rfl⟩ | ⟨hn, rfl⟩
    · rw [if_pos (c := nI 0 = nI 0) rfl]
    · rw [if_neg (c := nI 1 = nI 0) (by decide), if_pos (c := nI 1 = nI 1) rfl]
    · rw [if_neg (c := nI 2 = nI 0) (by decide), if_neg (c := nI 2 = nI 1) (by decide), if_pos (c := nI 2 = nI 2) rfl]
    · rw [if_neg (c := nI 3 = nI 0) (by decide), if_neg (c := nI 3 = nI 1) (by decide), if_neg (c := nI 3 = nI 2) (by decide), if_pos (c := nI 3 = nI 3) rfl]
    · rw [if_neg (c := nI 4 = nI 0) (by decide), if_neg (c := nI 4 = nI 1) (by decide), if_neg (c := nI 4 = nI 2) (by decide), if_neg (c := nI 4 = nI 3) (by decide), if_pos (c := nI 4 = nI 4) rfl]
    · rw [if_neg (c := nI 5 = nI 0) (by decide), if_neg (c := nI 5 = nI 1) (by decide), if_neg (c := nI 5 = nI 2) (by decide), if_neg (c := nI 5 = nI 3) (by decide), if_neg (c := nI 5 = nI 4) (by decide), if_pos (c := nI 5 = nI 5) rfl]
    · rw [if_neg (c := nI 6 = nI 0) (by decide), if_neg (c := nI 6 = nI 1) (by decide), if_neg (c := nI 6 = nI 2) (by decide), if_neg (c := nI 6 = nI 3) (by decide), if_neg (c := nI 6 = nI 4) (by decide), if_neg (c := nI 6 = nI 5) (by decide), if_pos (c := nI 6 = nI 6) rfl]
    · rw [if_neg (fun e => hn ⟨0, by decide, e⟩), if_neg (fun e => hn ⟨1, by decide, e⟩), if_neg (fun e => hn ⟨2, by decide, e⟩), if_neg (fun e => hn ⟨3, by decide, e⟩), if_neg (fun e => hn ⟨4, by decide, e⟩), if_neg (fun e => hn ⟨5, by decide, e⟩), if_neg (fun e => hn ⟨6, by decide, e⟩)]
  obtain ⟨p, a1, a2, a3⟩ | ⟨a1, rfl⟩ := h1 <;> obtain ⟨p', b1, b2, b3⟩ | ⟨b1, rfl⟩ := h2
  · obtain rfl := dt_g h a1 b1 a2 b2
    rw [hf p _ a3, hf p _ b3]
  · exact absurd ⟨_, a1, a2⟩ b1
  · exact absurd ⟨_, b1, b2⟩ a1
  · rfl
theorem dt_lst {P : Nat → Prop} {a b : Nat} (h1 : P a) (h2 : P b) (n1 : ∀ k, k < a → ¬ P k) (n2 : ∀ k, k < b → ¬ P k) : a = b := by
  rcases Nat.lt_trichotomy a b with h | h | h
  · exact absurd h1 (n2 a h)
  · exact h
  · exact absurd h2 (n1 b h)
theorem dt_same (h : Inv t I A) (h1 : D_same I A x y z) (h2 : D_same I A x y z2) : z2 = z := by
  obtain ⟨p, q, a1, a2, a3, a4, a5⟩ | ⟨a1, rfl⟩ := h1 <;> obtain ⟨p', q', b1, b2, b3, b4, b5⟩ | ⟨b1, rfl⟩ := h2
  · obtain rfl := dt_p h a1 b1 a2 b2
    obtain rfl := dt_p h a3 b3 a4 b4
    obtain ⟨k, c1, c2, c3, rfl⟩ | ⟨c1, rfl⟩ := a5 <;> obtain ⟨k', d1, d2, d3, rfl⟩ | ⟨d1, rfl⟩ := b5
    · obtain rfl := dt_lst (P := tn_same A p q) c2 d2 c3 d3
      rfl
    · exact absurd c2 (d1 _ c1)
    · exact absurd d2 (c1 _ d1)
    · rfl
  · exact absurd ⟨_, _, a1, a2, a3, a4⟩ b1
  · exact absurd ⟨_, _, b1, b2, b3, b4⟩ a1
  · rfl
/-! with what is left behind -/
theorem dt_paint (h1 : D_paint I A x y w z I2 A2) (h2 : D_paint I A x y w z2 I3 A3) : z2 = z ∧ I3 = I2 ∧ A3 = A2 := by
  obtain ⟨rfl, ⟨i, j, k, a1, a2, a3, a4, a5, a6, rfl, rfl⟩ | ⟨a1, rfl, rfl⟩⟩ := h1 <;> obtain ⟨rfl, ⟨i', j', k', b1, b2, b3, b4, b5, b6, rfl, rfl⟩ | ⟨b1, rfl, rfl⟩⟩ := h2
  · obtain rfl : i = i' := nI_un (a2.symm.trans b2) (by omega) (by omega)
    obtain rfl : j = j' := nI_un (a4.symm.trans b4) (by omega) (by omega)
    obtain rfl : k = k' := nI_un (a6.symm.trans b6) (by omega) (by omega)
    exact ⟨rfl, rfl, rfl⟩
  · exact absurd ⟨_, _, _, a1, a2, a3, a4, a5, a6⟩ b1
  · exact absurd ⟨_, _, _, b1, b2, b3, b4, b5, b6⟩ a1
  · exact ⟨rfl, rfl, rfl⟩
theorem dt_choose (h : Inv t I A) (h1 : D_choose I A x y w z I2 A2) (h2 : D_choose I A x y w z2 I3 A3) : z2 = z ∧ I3 = I2 ∧ A3 = A2 := by
  obtain ⟨rfl, ⟨p, c, k, a1, a2, a3, a4, rfl, rfl⟩ | ⟨a1, rfl, rfl⟩⟩ := h1 <;> obtain ⟨rfl, ⟨p', c', k', b1, b2, b3, b4, rfl, rfl⟩ | ⟨b1, rfl, rfl⟩⟩ := h2
  · obtain ⟨rfl, rfl⟩ := dt_cell h a1 b1
    obtain rfl : k = k' := nI_un (a3.symm.trans b3) (by omega) (by omega)
    exact ⟨rfl, rfl, rfl⟩
  · exact absurd ⟨_, _, _, a1, a2, a3, a4⟩ b1
  · exact absurd ⟨_, _, _, b1, b2, b3, b4⟩ a1
  · exact ⟨rfl, rfl, rfl⟩
theorem dt_bar (h : Inv t I A) (h1 : D_bar I A x y w z I2 A2) (h2 : D_bar I A x y w z2 I3 A3) : z2 = z ∧ I3 = I2 ∧ A3 = A2 := by
  obtain ⟨rfl, ⟨p, c, k, a1, a2, a3, a4, a5, rfl, rfl⟩ | ⟨a1, rfl, rfl⟩⟩ := h1 <;> obtain ⟨rfl, ⟨p', c', k', b1, b2, b3, b4, b5, rfl, rfl⟩ | ⟨b1, rfl, rfl⟩⟩ := h2
  · obtain ⟨rfl, rfl⟩ := dt_cell h a1 b1
    obtain rfl : k = k' := nI_un (a3.symm.trans b3) (by omega) (by omega)
    exact ⟨rfl, rfl, rfl⟩
  · exact absurd ⟨_, _, _, a1, a2, a3, a4, a5⟩ b1
  · exact absurd ⟨_, _, _, b1, b2, b3, b4, b5⟩ a1
  · exact ⟨rfl, rfl, rfl⟩
theorem dt_fresh (h : Inv t I A) (h1 : D_fresh I A x z I2 A2) (h2 : D_fresh I A x z2 I3 A3) : z2 = z ∧ I3 = I2 ∧ A3 = A2 := by
  obtain ⟨rfl, ⟨p, a1, a2, rfl, rfl⟩ | ⟨a1, rfl, rfl⟩⟩ := h1 <;> obtain ⟨rfl, ⟨p', b1, b2, rfl, rfl⟩ | ⟨b1, rfl, rfl⟩⟩ := h2
  · obtain rfl := dt_p h a1 b1 a2 b2
    exact ⟨rfl, rfl, rfl⟩
  · exact absurd ⟨_, a1, a2⟩ b1
  · exact absurd ⟨_, b1, b2⟩ a1
  · exact ⟨rfl, rfl, rfl⟩
theorem dt_step (h : Inv t I A) (h1 : D_step I A x y z I2 A2) (h2 : D_step I A x y z2 I3 A3) : z2 = z ∧ I3 = I2 ∧ A3 = A2 := by
  obtain ⟨rfl, ⟨p, c, a1, a2⟩ | ⟨a1, rfl, rfl⟩⟩ := h1 <;> obtain ⟨rfl, ⟨p', c', b1, b2⟩ | ⟨b1, rfl, rfl⟩⟩ := h2
  · obtain ⟨rfl, rfl⟩ := dt_line h a1 b1
    obtain ⟨c1, rfl, rfl⟩ | ⟨c1, rfl, rfl⟩ := a2 <;> obtain ⟨d1, rfl, rfl⟩ | ⟨d1, rfl, rfl⟩ := b2
    · exact ⟨rfl, rfl, rfl⟩
    · exact absurd d1 (by omega)
    · exact absurd c1 (by omega)
    · exact ⟨rfl, rfl, rfl⟩
  · exact absurd ⟨_, _, a1⟩ b1
  · exact absurd ⟨_, _, b1⟩ a1
  · exact ⟨rfl, rfl, rfl⟩
theorem dt_settle (h : Inv t I A) (h1 : D_settle I A x z I2 A2) (h2 : D_settle I A x z2 I3 A3) : z2 = z ∧ I3 = I2 ∧ A3 = A2 := by
  obtain ⟨rfl, ⟨p, a1, a2, a3⟩ | ⟨a1, rfl, rfl⟩⟩ := h1 <;> obtain ⟨rfl, ⟨p', b1, b2, b3⟩ | ⟨b1, rfl, rfl⟩⟩ := h2
  · obtain rfl := dt_p h a1 b1 a2 b2
    obtain ⟨c1, rfl, rfl⟩ | ⟨r, S, c1, rfl, rfl⟩ := a3 <;> obtain ⟨d1, rfl, rfl⟩ | ⟨r', S', d1, rfl, rfl⟩ := b3
    · exact ⟨rfl, rfl, rfl⟩
    · rw [c1] at d1; cases d1
    · rw [c1] at d1; cases d1
    · rw [c1] at d1; cases d1; exact ⟨rfl, rfl, rfl⟩
  · exact absurd ⟨_, a1, a2⟩ b1
  · exact absurd ⟨_, b1, b2⟩ a1
  · exact ⟨rfl, rfl, rfl⟩
theorem dt_grade (h : Inv t I A) (h1 : D_grade I A x z I2 A2) (h2 : D_grade I A x z2 I3 A3) : z2 = z ∧ I3 = I2 ∧ A3 = A2 := by
  obtain ⟨p, a1, a2, rfl, rfl, rfl⟩ | ⟨a1, rfl, rfl, rfl⟩ := h1 <;> obtain ⟨p', b1, b2, rfl, rfl, rfl⟩ | ⟨b1, rfl, rfl, rfl⟩ := h2
  · obtain rfl := dt_p h a1 b1 a2 b2
    exact ⟨rfl, rfl, rfl⟩
  · exact absurd ⟨_, a1, a2⟩ b1
  · exact absurd ⟨_, b1, b2⟩ a1
  · exact ⟨rfl, rfl, rfl⟩
theorem dt_write (h : Inv t I A) (h1 : D_write I A x y z I2 A2) (h2 : D_write I A x y z2 I3 A3) : z2 = z ∧ I3 = I2 ∧ A3 = A2 := by
  obtain ⟨p, c, a1, rfl, rfl, rfl⟩ | ⟨a1, rfl, rfl, rfl⟩ := h1 <;> obtain ⟨p', c', b1, rfl, rfl, rfl⟩ | ⟨b1, rfl, rfl, rfl⟩ := h2
  · obtain ⟨rfl, rfl⟩ := dt_line h a1 b1
    exact ⟨rfl, rfl, rfl⟩
  · exact absurd ⟨_, _, a1⟩ b1
  · exact absurd ⟨_, _, b1⟩ a1
  · exact ⟨rfl, rfl, rfl⟩
theorem dt_pz {a b c a' b' c' : Nat} (h1 : D_pz I x y w a b c) (h2 : D_pz I x y w a' b' c') : a = a' ∧ b = b' ∧ c = c' := by
  obtain ⟨⟨a1, a2, a3⟩, ⟨a4, a5, a6⟩, ⟨a7, a8, a9⟩, -⟩ := h1
  obtain ⟨⟨b1, b2, b3⟩, ⟨b4, b5, b6⟩, ⟨b7, b8, b9⟩, -⟩ := h2
  exact ⟨nI_un (a3.symm.trans b3) (by omega) (by omega), nI_un (a6.symm.trans b6) (by omega) (by omega), nI_un (a9.symm.trans b9) (by omega) (by omega)⟩
theorem dt_puzzle (h1 : D_puzzle I A x y w z I2 A2) (h2 : D_puzzle I A x y w z2 I3 A3) : z2 = z ∧ I3 = I2 ∧ A3 = A2 := by
  obtain ⟨a, b, c, a1, rfl, rfl, rfl⟩ | ⟨a1, rfl, rfl, rfl⟩ := h1 <;> obtain ⟨a', b', c', b1, rfl, rfl, rfl⟩ | ⟨b1, rfl, rfl, rfl⟩ := h2
  · obtain ⟨rfl, rfl, rfl⟩ := dt_pz a1 b1
    exact ⟨rfl, rfl, rfl⟩
  · exact absurd ⟨_, _, _, a1⟩ b1
  · exact absurd ⟨_, _, _, b1⟩ a1
  · exact ⟨rfl, rfl, rfl⟩
theorem dt_run (h : Inv t I A) (h1 : D_run I A x y w u z I2 A2) (h2 : D_run I A x y w u z2 I3 A3) : z2 = z ∧ I3 = I2 ∧ A3 = A2 := by
  obtain ⟨rfl, ⟨p, ln, c, l, a1, rfl, rfl⟩ | ⟨a1, rfl, rfl⟩⟩ := h1 <;> obtain ⟨rfl, ⟨p', ln', c', l', b1, rfl, rfl⟩ | ⟨b1, rfl, rfl⟩⟩ := h2
  · obtain ⟨e1, ⟨e2, e3, e4⟩, ⟨e5, e6, e7⟩, -⟩ := a1
    obtain ⟨d1, ⟨d2, d3, d4⟩, ⟨d5, d6, d7⟩, -⟩ := b1
    obtain ⟨rfl, rfl⟩ := dt_line h e1 d1
    have := (h.2.1 p e1.1).1.2.2.2.1.2
    obtain rfl : c = c' := nI_un (e4.symm.trans d4) (by omega) (by omega)
    obtain rfl : l = l' := nI_un (e7.symm.trans d7) (by omega) (by omega)
    exact ⟨rfl, rfl, rfl⟩
  · exact absurd ⟨_, _, _, _, a1⟩ b1
  · exact absurd ⟨_, _, _, _, b1⟩ a1
  · exact ⟨rfl, rfl, rfl⟩
theorem dt_undo (h : Inv t I A) (h1 : D_undo I A x z I2 A2) (h2 : D_undo I A x z2 I3 A3) : z2 = z ∧ I3 = I2 ∧ A3 = A2 := by
  obtain ⟨rfl, ⟨g, a1, a2, a3, rfl, rfl⟩ | ⟨a1, rfl, rfl⟩⟩ := h1 <;> obtain ⟨rfl, ⟨g', b1, b2, b3, rfl, rfl⟩ | ⟨b1, rfl, rfl⟩⟩ := h2
  · obtain rfl := dt_g h a1 b1 a2 b2
    exact ⟨rfl, rfl, rfl⟩
  · exact absurd ⟨_, a1, a2, a3⟩ b1
  · exact absurd ⟨_, b1, b2, b3⟩ a1
  · exact ⟨rfl, rfl, rfl⟩
theorem dt_redo (h : Inv t I A) (h1 : D_redo I A x z I2 A2) (h2 : D_redo I A x z2 I3 A3) : z2 = z ∧ I3 = I2 ∧ A3 = A2 := by
  obtain ⟨rfl, ⟨g, a1, a2, a3, rfl, rfl⟩ | ⟨a1, rfl, rfl⟩⟩ := h1 <;> obtain ⟨rfl, ⟨g', b1, b2, b3, rfl, rfl⟩ | ⟨b1, rfl, rfl⟩⟩ := h2
  · obtain rfl := dt_g h a1 b1 a2 b2
    exact ⟨rfl, rfl, rfl⟩
  · exact absurd ⟨_, a1, a2, a3⟩ b1
  · exact absurd ⟨_, b1, b2, b3⟩ a1
  · exact ⟨rfl, rfl, rfl⟩
theorem dt_game (h : Inv t I A) (h1 : D_game I A x z I2 A2) (h2 : D_game I A x z2 I3 A3) : z2 = z ∧ I3 = I2 ∧ A3 = A2 := by
  obtain ⟨p, a1, a2, a3, rfl, rfl, rfl⟩ | ⟨a1, rfl, rfl, rfl⟩ := h1 <;> obtain ⟨p', b1, b2, b3, rfl, rfl, rfl⟩ | ⟨b1, rfl, rfl, rfl⟩ := h2
  · obtain rfl := dt_p h a1 b1 a2 b2
    exact ⟨rfl, rfl, rfl⟩
  · exact absurd ⟨_, a1, a2, a3⟩ b1
  · exact absurd ⟨_, b1, b2, b3⟩ a1
  · exact ⟨rfl, rfl, rfl⟩
theorem dt_m1 {a b : Nat} (ha : a ≤ 10) (hb : b ≤ 10) (h : nI a - 1 = nI b - 1) : a = b := by
  have key : ∀ a, a < 11 → ∀ b, b < 11 → nI a - 1 = nI b - 1 → a = b := by decide +kernel
  exact key a (by omega) b (by omega) h
theorem dt_mark (h : Inv t I A) (h1 : D_mark I A x y w z I2 A2) (h2 : D_mark I A x y w z2 I3 A3) : z2 = z ∧ I3 = I2 ∧ A3 = A2 := by
  obtain ⟨rfl, ⟨g, c, k, a1, rfl, rfl⟩ | ⟨a1, rfl, rfl⟩⟩ := h1 <;> obtain ⟨rfl, ⟨g', c', k', b1, rfl, rfl⟩ | ⟨b1, rfl, rfl⟩⟩ := h2
  · obtain ⟨e1, e2, e3, e4, e5, e6, -⟩ := a1
    obtain ⟨d1, d2, d3, d4, d5, d6, -⟩ := b1
    obtain rfl := dt_g h e1 d1 e2 d2
    have := dt_gsz h e1
    have := (h.2.1 _ (h.to.2.2.1.2.1 g e1).1).1.2.2.2.1.2
    obtain rfl : c = c' := nI_un (e4.symm.trans d4) (by omega) (by omega)
    obtain rfl : k = k' := dt_m1 (by omega) (by omega) (e6.symm.trans d6)
    exact ⟨rfl, rfl, rfl⟩
  · exact absurd ⟨_, _, _, a1⟩ b1
  · exact absurd ⟨_, _, _, b1⟩ a1
  · exact ⟨rfl, rfl, rfl⟩
theorem dt_hint (h : Inv t I A) (h1 : D_hint I A x z I2 A2) (h2 : D_hint I A x z2 I3 A3) : z2 = z ∧ I3 = I2 ∧ A3 = A2 := by
  obtain ⟨rfl, ⟨g, a1, a2, a3⟩ | ⟨a1, rfl, rfl⟩⟩ := h1 <;> obtain ⟨rfl, ⟨g', b1, b2, b3⟩ | ⟨b1, rfl, rfl⟩⟩ := h2
  · obtain rfl := dt_g h a1 b1 a2 b2
    have n1 : ∀ l, pz_W A (A 19 g) l (gm_S A g) = 0 → ¬ gm_clean A g l := fun l e hc => by have := hc.1; omega
    have n2 : ∀ l k, k < pz_L A (A 19 g) l → gm_hit A g l k → ¬ gm_clean A g l := fun l k hk e hc => hc.2 k hk e
    obtain ⟨l, c1, c2, c3, rfl, rfl⟩ | ⟨l, k, c1, c2, c3, c4, c5, c6, rfl, rfl⟩ | ⟨c1, rfl, rfl⟩ := a3 <;> obtain ⟨l', d1, d2, d3, rfl, rfl⟩ | ⟨l', k', d1, d2, d3, d4, d5, d6, rfl, rfl⟩ | ⟨d1, rfl, rfl⟩ := b3
    · obtain rfl := dt_lst (P := fun l => ¬ gm_clean A g l) (n1 _ c3) (n1 _ d3) (fun k hk hn => hn (c2 k hk)) (fun k hk hn => hn (d2 k hk))
      exact ⟨rfl, rfl, rfl⟩
    · obtain rfl := dt_lst (P := fun l => ¬ gm_clean A g l) (n1 _ c3) (n2 _ _ d4 d6) (fun k hk hn => hn (c2 k hk)) (fun k hk hn => hn (d2 k hk))
      omega
    · exact absurd (d1 l c1) (n1 _ c3)
    · obtain rfl := dt_lst (P := fun l => ¬ gm_clean A g l) (n2 _ _ c4 c6) (n1 _ d3) (fun k hk hn => hn (c2 k hk)) (fun k hk hn => hn (d2 k hk))
      omega
    · obtain rfl := dt_lst (P := fun l => ¬ gm_clean A g l) (n2 _ _ c4 c6) (n2 _ _ d4 d6) (fun k hk hn => hn (c2 k hk)) (fun k hk hn => hn (d2 k hk))
      obtain rfl := dt_lst (P := gm_hit A g l) c6 d6 c5 d5
      exact ⟨rfl, rfl, rfl⟩
    · exact absurd (d1 l c1) (n2 _ _ c4 c6)
    · exact absurd (c1 l' d1) (n1 _ d3)
    · exact absurd (c1 l' d1) (n2 _ _ d4 d6)
    · exact ⟨rfl, rfl, rfl⟩
  · exact absurd ⟨_, a1, a2⟩ b1
  · exact absurd ⟨_, b1, b2⟩ a1
  · exact ⟨rfl, rfl, rfl⟩
end
