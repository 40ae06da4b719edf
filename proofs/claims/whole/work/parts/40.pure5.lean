/-! PURE: only the puzzle's cells count -/
def pz_on (A : md_A) (p : Nat) (S S' : Nat → Nat) : Prop := ∀ x, x < A 1 p * A 2 p → S x = S' x
section
variable {A : md_A} {p ln : Nat} {S S' : Nat → Nat}
theorem pz_on.symm (h : pz_on A p S S') : pz_on A p S' S := fun x hx => (h x hx).symm
theorem pz_on_W (hz : Pz A p) (hl : ln < A 1 p + A 2 p) (h : pz_on A p S S') : pz_W A p ln S = pz_W A p ln S' := ln_W_may (fun k hk => h _ (pz_cell_lt hz hl hk))
theorem pz_on_K (hz : Pz A p) (hl : ln < A 1 p + A 2 p) (h : pz_on A p S S') (k : Nat) : pz_K A p ln S k = pz_K A p ln S' k := ln_K_may (fun k hk => h _ (pz_cell_lt hz hl hk)) k
theorem pz_on_stp (hz : Pz A p) (hl : ln < A 1 p + A 2 p) (h : pz_on A p S S') : pz_on A p (pz_stp A p ln S) (pz_stp A p ln S') := by
  intro x hx
  by_cases g : ∃ k, k < pz_L A p ln ∧ x = pz_cell A p ln k
  · obtain ⟨k, hk, rfl⟩ := g
    rw [pz_stp_in hz hl hk, pz_stp_in hz hl hk, h _ hx, pz_on_K hz hl h]
  · rw [pz_stp_out (fun k hk e => g ⟨k, hk, e⟩), pz_stp_out (fun k hk e => g ⟨k, hk, e⟩)]
    exact h x hx
theorem pz_on_gone (hz : Pz A p) (hl : ln < A 1 p + A 2 p) (h : pz_on A p S S') : pz_gone A p ln S = pz_gone A p ln S' := by
  have key : ∀ k, k ≤ pz_L A p ln → pz_gn A p ln S k = pz_gn A p ln S' k := by
    intro k
    induction k with
    | zero => intro _; rfl
    | succ k ih =>
      intro hk
      show _ + _ = _ + _
      rw [ih (by omega), h _ (pz_cell_lt hz hl (show k < pz_L A p ln by omega)), pz_on_K hz hl h]
  exact key _ (Nat.le_refl _)
theorem pz_on_ps (h : pz_on A p S S') (hs : Ps A p S) : Ps A p S' := fun x hx => by rw [← h x hx]; exact hs x hx
/-- two answers alike: broken both, or the same number and sets alike -/
def pz_al (A : md_A) (p : Nat) (a b : Option (Nat × (Nat → Nat))) : Prop := (a = none ∧ b = none) ∨ ∃ r S S', a = some (r, S) ∧ b = some (r, S') ∧ pz_on A p S S'
theorem pz_on_rd (hz : Pz A p) (h : pz_on A p S S') : ∀ k, k ≤ A 1 p + A 2 p → (pz_rd A p k S = none ∧ pz_rd A p k S' = none) ∨ ∃ g S1 S1', pz_rd A p k S = some (S1, g) ∧ pz_rd A p k S' = some (S1', g) ∧ pz_on A p S1 S1' := by
  intro k
  induction k with
  | zero => intro _; exact Or.inr ⟨0, S, S', rfl, rfl, h⟩
  | succ k ih =>
    intro hk
    have hl : k < A 1 p + A 2 p := by omega
    rcases ih (by omega) with ⟨h1, h2⟩ | ⟨g, S1, S1', h1, h2, h3⟩
    · exact Or.inl ⟨pz_rd_none h1 1, pz_rd_none h2 1⟩
    · rw [pz_rd_s h1, pz_rd_s h2, ← pz_on_W hz hl h3, ← pz_on_gone hz hl h3]
      by_cases hw : pz_W A p k S1 = 0
      · rw [if_pos hw, if_pos hw]; exact Or.inl ⟨rfl, rfl⟩
      · rw [if_neg hw, if_neg hw]; exact Or.inr ⟨_, _, _, rfl, rfl, pz_on_stp hz hl h3⟩
theorem pz_st_s {f : Nat} : pz_st A p (f + 1) S = match pz_rd A p (A 1 p + A 2 p) S with
    | none => none
    | some (S1, g) => if g = 0 then some (0, S1) else match pz_st A p f S1 with
      | none => none
      | some (r, S2) => some (r + 1, S2) := rfl
theorem pz_on_st (hz : Pz A p) : ∀ (f : Nat) (S S' : Nat → Nat), pz_on A p S S' → pz_al A p (pz_st A p f S) (pz_st A p f S') := by
  intro f
  induction f with
  | zero => intro S S' _; exact Or.inl ⟨rfl, rfl⟩
  | succ f ih =>
    intro S S' h
    rw [pz_st_s, pz_st_s]
    rcases pz_on_rd hz h _ (Nat.le_refl _) with ⟨h1, h2⟩ | ⟨g, S1, S1', h1, h2, h3⟩
    · rw [h1, h2]; exact Or.inl ⟨rfl, rfl⟩
    · rw [h1, h2]
      dsimp only
      by_cases hg : g = 0
      · rw [if_pos hg, if_pos hg]; exact Or.inr ⟨_, _, _, rfl, rfl, h3⟩
      · rw [if_neg hg, if_neg hg]
        rcases ih S1 S1' h3 with ⟨e1, e2⟩ | ⟨r, S2, S2', e1, e2, e3⟩
        · rw [e1, e2]; exact Or.inl ⟨rfl, rfl⟩
        · rw [e1, e2]; exact Or.inr ⟨_, _, _, rfl, rfl, e3⟩
end
/-- what a settled set is: settling leaves sets below 16, and the ones of no cell alone -/
theorem pz_st_inv {A : md_A} {p : Nat} (hz : Pz A p) : ∀ (f : Nat) (S : Nat → Nat), Ps A p S → ∀ r S', pz_st A p f S = some (r, S') → Ps A p S' ∧ pz_tot A p S' ≤ pz_tot A p S ∧ r + pz_tot A p S' ≤ pz_tot A p S ∧ (∀ x, A 1 p * A 2 p ≤ x → S' x = S x) := by
  intro f
  induction f with
  | zero => intro S _ r S' e; cases e
  | succ f ih =>
    intro S hs r S' e
    rw [pz_st_s] at e
    cases h : pz_rd A p (A 1 p + A 2 p) S with
    | none => rw [h] at e; cases e
    | some z =>
      obtain ⟨S1, g⟩ := z
      rw [h] at e
      dsimp only at e
      obtain ⟨i1, i2, i3⟩ := pz_rd_inv hz hs _ (Nat.le_refl _) _ _ h
      by_cases hg : g = 0
      · rw [if_pos hg] at e
        cases e
        exact ⟨i1, by omega, by omega, i3⟩
      · rw [if_neg hg] at e
        cases h2 : pz_st A p f S1 with
        | none => rw [h2] at e; cases e
        | some z2 =>
          obtain ⟨r2, S2⟩ := z2
          rw [h2] at e
          obtain ⟨j1, j2, j3, j4⟩ := ih S1 i1 r2 S2 h2
          cases e
          exact ⟨j1, by omega, by omega, fun x hx => (j4 x hx).trans (i3 x hx)⟩
/-- all that the calls show is as it was -/
def Per (I I' : md_I) (A A' : md_A) : Prop := (∀ j, j ≠ 1 → j ≠ 6 → I' j = I j) ∧ ∀ k, k < 10 ∨ k = 16 ∨ 19 ≤ k → A' k = A k
theorem Per.rfl' {I : md_I} {A : md_A} : Per I I A A := ⟨fun _ _ _ => rfl, fun _ _ => rfl⟩
theorem Per.trans {I I1 I2 : md_I} {A A1 A2 : md_A} (h1 : Per I I1 A A1) (h2 : Per I1 I2 A1 A2) : Per I I2 A A2 := ⟨fun j hj hk => (h2.1 j hj hk).trans (h1.1 j hj hk), fun k hk => (h2.2 k hk).trans (h1.2 k hk)⟩
theorem Scr.per {I I' : md_I} {A A' : md_A} (h : Scr I I' A A') : Per I I' A A' := ⟨fun j hj _ => h.1 j hj, fun k hk => h.2 k (by omega)⟩
/-- what stays true of what the calls show; t calls were made -/
def Inv (t : Nat) (I : md_I) (A : md_A) : Prop :=
  I 0 ≤ 30 ∧ (∀ p, p < I 0 → Pz A p ∧ A 4 p ≤ 1 ∧ ∀ x, x < A 1 p * A 2 p → 1 ≤ A 8 (100 * p + x) ∧ A 8 (100 * p + x) < 1 <<< (A 3 p + 1)) ∧
  (∀ p, I 0 ≤ p → p < 30 → A 4 p = 0 ∧ ∀ ln, ln < 20 → A 5 (20 * p + ln) = 0) ∧ (∀ x, x < 100 → A 9 x ≤ 3) ∧
  I 7 ≤ 20 ∧ (∀ g, g < I 7 → A 19 g < I 0 ∧ A 21 g ≤ A 22 g ∧ A 22 g ≤ 200 ∧ A 23 g ≤ t ∧ A 4 (A 19 g) = 1 ∧ (∀ x, x < A 1 (A 19 g) * A 2 (A 19 g) → A 20 (100 * g + x) ≤ A 3 (A 19 g) + 1) ∧ ∀ i, i < A 22 g → A 24 (200 * g + i) < A 1 (A 19 g) * A 2 (A 19 g) ∧ A 25 (200 * g + i) ≤ A 3 (A 19 g) + 1 ∧ A 26 (200 * g + i) ≤ A 3 (A 19 g) + 1) ∧
  (∀ g, I 7 ≤ g → g < 20 → A 21 g = 0 ∧ A 22 g = 0 ∧ A 23 g = 0) ∧
  I 2 ≤ 5 ∧ I 3 ≤ 200 ∧ I 4 ≤ 100 ∧ I 5 ≤ 400 ∧ I 8 ≤ 64 ∧ t ≤ 512
theorem Inv.puz {t : Nat} {I : md_I} {A : md_A} (h : Inv t I A) : ∀ p, p < I 0 → 1 ≤ A 1 p ∧ A 1 p ≤ 10 ∧ 1 ≤ A 2 p ∧ A 2 p ≤ 10 := fun p hp => ⟨(h.2.1 p hp).1.2.1.1, (h.2.1 p hp).1.2.1.2, (h.2.1 p hp).1.2.2.1.1, (h.2.1 p hp).1.2.2.1.2⟩
theorem ln_full16 {n : Nat} (h : n ≤ 3) : 1 <<< (n + 1) ≤ 16 := by
  rcases (show n = 0 ∨ n = 1 ∨ n = 2 ∨ n = 3 by omega) with rfl | rfl | rfl | rfl <;> decide
theorem Inv.ps {t : Nat} {I : md_I} {A : md_A} (h : Inv t I A) {p : Nat} (hp : p < I 0) : Ps A p (fun x => A 8 (100 * p + x)) := fun x hx => Nat.lt_of_lt_of_le ((h.2.1 p hp).2.2 x hx).2 (ln_full16 (h.2.1 p hp).1.2.2.2.1.2)
