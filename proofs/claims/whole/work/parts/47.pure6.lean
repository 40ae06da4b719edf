/-! PURE: where something fits, each cell keeps one -/
theorem ln_sum_add (f g : Nat → Nat) : ∀ m lo, ln_sum (fun x => f x + g x) lo m = ln_sum f lo m + ln_sum g lo m := by
  intro m
  induction m with
  | zero => intro lo; rfl
  | succ m ih =>
    intro lo
    show f lo + g lo + ln_sum _ (lo + 1) m = f lo + ln_sum f (lo + 1) m + (g lo + ln_sum g (lo + 1) m)
    rw [ih (lo + 1)]
    omega
theorem ln_sum_mono {f g : Nat → Nat} (h : ∀ x, f x ≤ g x) : ∀ m lo, ln_sum f lo m ≤ ln_sum g lo m := by
  intro m
  induction m with
  | zero => intro lo; exact Nat.le_refl _
  | succ m ih =>
    intro lo
    show f lo + _ ≤ g lo + _
    have := h lo; have := ih (lo + 1)
    omega
theorem ln_N_ex {c l : Nat → Nat} {L : Nat} {P : (Nat → Nat) → Bool} : ∀ (k r : Nat) (pl : Nat → Nat), ln_N c l L P k r pl ≠ 0 → ∃ q, P q = true := by
  intro k
  induction k with
  | zero =>
    intro r pl h
    by_cases hp : P pl = true
    · exact ⟨pl, hp⟩
    · exact absurd (if_neg hp) h
  | succ k ih =>
    intro r pl h
    obtain ⟨x, -, -, h3⟩ := ln_sum_ne _ _ h
    exact ih (r + 1) _ h3
theorem ln_N_four {c l : Nat → Nat} {L : Nat} {P P0 P1 P2 P3 : (Nat → Nat) → Bool} (h : ∀ pl, P pl = true → P0 pl = true ∨ P1 pl = true ∨ P2 pl = true ∨ P3 pl = true) : ∀ (k r : Nat) (pl : Nat → Nat), ln_N c l L P k r pl ≤ ln_N c l L P0 k r pl + ln_N c l L P1 k r pl + ln_N c l L P2 k r pl + ln_N c l L P3 k r pl := by
  intro k
  induction k with
  | zero =>
    intro r pl
    show (if P pl = true then 1 else 0) ≤ (if P0 pl = true then 1 else 0) + (if P1 pl = true then 1 else 0) + (if P2 pl = true then 1 else 0) + if P3 pl = true then 1 else 0
    by_cases hp : P pl = true
    · rw [if_pos hp]
      rcases h pl hp with g | g | g | g <;> rw [if_pos g] <;> omega
    · rw [if_neg hp]; omega
  | succ k ih =>
    intro r pl
    show ln_sum _ _ _ ≤ ln_sum _ _ _ + ln_sum _ _ _ + ln_sum _ _ _ + ln_sum _ _ _
    rw [← ln_sum_add, ← ln_sum_add, ← ln_sum_add]
    exact ln_sum_mono (fun x => ih (r + 1) _) _ _
theorem ln_Wk_bit {c l : Nat → Nat} {n L : Nat} {may : Nat → Nat} {k v : Nat} (hk : k < L) (h : 0 < ln_Wk c l n L may k v) : (may k).testBit v = true := by
  obtain ⟨q, hq⟩ := ln_N_ex _ _ _ (Nat.ne_of_gt h)
  unfold ln_Pk ln_P ln_fits at hq
  simp only [Bool.and_eq_true, decide_eq_true_eq] at hq
  rw [← hq.2]
  exact hq.1.1 k hk
theorem ln_W_some {c l : Nat → Nat} {n L : Nat} {may : Nat → Nat} {k : Nat} (hc : ∀ i, i < n → c i ≤ 3) (h : 0 < ln_W c l n L may) : ∃ v, v < 4 ∧ 0 < ln_Wk c l n L may k v := by
  have h4 := ln_N_four (c := c) (l := l) (L := L) (P := ln_P c l n L may) (P0 := ln_Pk c l n L may k 0) (P1 := ln_Pk c l n L may k 1) (P2 := ln_Pk c l n L may k 2) (P3 := ln_Pk c l n L may k 3) (fun pl hp => by
    have hle := ln_fil_le (pl := pl) (l := l) hc n k (Nat.le_refl _)
    unfold ln_Pk
    simp only [hp, Bool.true_and, decide_eq_true_eq]
    omega) n 0 (fun _ => 0)
  have h' : 0 < ln_N c l L (ln_P c l n L may) n 0 (fun _ => 0) := h
  unfold ln_Wk
  by_cases a0 : 0 < ln_N c l L (ln_Pk c l n L may k 0) n 0 (fun _ => 0)
  · exact ⟨0, by decide, a0⟩
  · by_cases a1 : 0 < ln_N c l L (ln_Pk c l n L may k 1) n 0 (fun _ => 0)
    · exact ⟨1, by decide, a1⟩
    · by_cases a2 : 0 < ln_N c l L (ln_Pk c l n L may k 2) n 0 (fun _ => 0)
      · exact ⟨2, by decide, a2⟩
      · exact ⟨3, by decide, by omega⟩
theorem ln_K_sub {c l : Nat → Nat} {n L : Nat} {may : Nat → Nat} {k : Nat} (hk : k < L) (hm : may k < 16) : may k &&& ln_K c l n L may k = ln_K c l n L may k := by
  refine ln_bits4 (Nat.lt_of_le_of_lt Nat.and_le_left hm) (ln_K_lt _ _ _ _ _ _) (fun v hv => ?_)
  rw [Nat.testBit_and, ln_K_bit _ _ _ _ _ _ hv]
  by_cases h : 0 < ln_Wk c l n L may k v
  · rw [ln_Wk_bit hk h, decide_eq_true h]; rfl
  · rw [decide_eq_false h, Bool.and_false]
theorem ln_K_pos {c l : Nat → Nat} {n L : Nat} {may : Nat → Nat} {k : Nat} (hc : ∀ i, i < n → c i ≤ 3) (h : 0 < ln_W c l n L may) : 0 < ln_K c l n L may k := by
  obtain ⟨v, hv, h1⟩ := ln_W_some (k := k) hc h
  unfold ln_K
  rcases (show v = 0 ∨ v = 1 ∨ v = 2 ∨ v = 3 by omega) with rfl | rfl | rfl | rfl <;> rw [if_pos h1] <;> omega
theorem pz_new_eq {A : md_A} {p ln : Nat} {S : Nat → Nat} (hz : Pz A p) (hl : ln < A 1 p + A 2 p) (hs : Ps A p S) {k : Nat} (hk : k < pz_L A p ln) : S (pz_cell A p ln k) &&& pz_K A p ln S k = pz_K A p ln S k := ln_K_sub (c := pz_c A p ln) (l := pz_l A p ln) (n := pz_n A p ln) (L := pz_L A p ln) (may := fun j => S (pz_cell A p ln j)) (k := k) hk (hs _ (pz_cell_lt hz hl hk))
theorem pz_K_pos {A : md_A} {p ln : Nat} {S : Nat → Nat} (hz : Pz A p) (hl : ln < A 1 p + A 2 p) (hw : 0 < pz_W A p ln S) (k : Nat) : 0 < pz_K A p ln S k := ln_K_pos (fun i hi => Nat.le_trans ((hz.2.2.2.2 ln hl).2.2 i hi).2.1 hz.2.2.2.1.2) hw
/-- sets that have one at least -/
def Pn (A : md_A) (p : Nat) (S : Nat → Nat) : Prop := ∀ x, x < A 1 p * A 2 p → 1 ≤ S x
theorem Pn.stp {A : md_A} {p ln : Nat} {S : Nat → Nat} (h : Pz A p) (hl : ln < A 1 p + A 2 p) (hs : Ps A p S) (hn : Pn A p S) (hw : 0 < pz_W A p ln S) : Pn A p (pz_stp A p ln S) := by
  intro x hx
  by_cases g : ∃ k, k < pz_L A p ln ∧ x = pz_cell A p ln k
  · obtain ⟨k, hk, rfl⟩ := g
    rw [pz_stp_in h hl hk, pz_new_eq h hl hs hk]
    exact pz_K_pos h hl hw k
  · rw [pz_stp_out (fun k hk e => g ⟨k, hk, e⟩)]
    exact hn x hx
/-- what is left is of what was -/
def pz_sub (A : md_A) (p : Nat) (S' S : Nat → Nat) : Prop := ∀ x, x < A 1 p * A 2 p → S x &&& S' x = S' x
theorem pz_sub.trans {A : md_A} {p : Nat} {S S1 S2 : Nat → Nat} (h1 : pz_sub A p S1 S) (h2 : pz_sub A p S2 S1) : pz_sub A p S2 S := fun x hx => by
  rw [← h2 x hx, ← Nat.and_assoc, h1 x hx]
theorem pz_sub_stp {A : md_A} {p ln : Nat} {S : Nat → Nat} (h : Pz A p) (hl : ln < A 1 p + A 2 p) : pz_sub A p (pz_stp A p ln S) S := by
  intro x hx
  by_cases g : ∃ k, k < pz_L A p ln ∧ x = pz_cell A p ln k
  · obtain ⟨k, hk, rfl⟩ := g
    rw [pz_stp_in h hl hk, ← Nat.and_assoc, Nat.and_self]
  · rw [pz_stp_out (fun k hk e => g ⟨k, hk, e⟩), Nat.and_self]
theorem pz_rd_more {A : md_A} {p : Nat} {S : Nat → Nat} (h : Pz A p) (hs : Ps A p S) (hn : Pn A p S) : ∀ k, k ≤ A 1 p + A 2 p → ∀ S1 g, pz_rd A p k S = some (S1, g) → Pn A p S1 ∧ pz_sub A p S1 S := by
  intro k
  induction k with
  | zero => intro _ S1 g e; cases e; exact ⟨hn, fun x _ => Nat.and_self _⟩
  | succ k ih =>
    intro hk S1 g e
    cases e0 : pz_rd A p k S with
    | none => rw [pz_rd_none e0 1] at e; cases e
    | some z =>
      obtain ⟨S0, g0⟩ := z
      rw [pz_rd_s e0] at e
      obtain ⟨i1, i2⟩ := ih (by omega) S0 g0 e0
      have hs0 := (pz_rd_inv h hs k (by omega) S0 g0 e0).1
      have hl : k < A 1 p + A 2 p := by omega
      split at e
      · cases e
      · next hw =>
        cases e
        exact ⟨i1.stp h hl hs0 (by omega), i2.trans (pz_sub_stp h hl)⟩
theorem pz_st_more {A : md_A} {p : Nat} (h : Pz A p) : ∀ (f : Nat) (S : Nat → Nat), Ps A p S → Pn A p S → ∀ r S', pz_st A p f S = some (r, S') → Pn A p S' ∧ pz_sub A p S' S := by
  intro f
  induction f with
  | zero => intro S _ _ r S' e; cases e
  | succ f ih =>
    intro S hs hn r S' e
    rw [pz_st_s] at e
    cases e0 : pz_rd A p (A 1 p + A 2 p) S with
    | none => rw [e0] at e; cases e
    | some z =>
      obtain ⟨S1, g⟩ := z
      rw [e0] at e
      dsimp only at e
      obtain ⟨i1, i2⟩ := pz_rd_more h hs hn _ (Nat.le_refl _) _ _ e0
      have hs1 := (pz_rd_inv h hs _ (Nat.le_refl _) _ _ e0).1
      by_cases hg : g = 0
      · rw [if_pos hg] at e; cases e; exact ⟨i1, i2⟩
      · rw [if_neg hg] at e
        cases e2 : pz_st A p f S1 with
        | none => rw [e2] at e; cases e
        | some z2 =>
          obtain ⟨r2, S2⟩ := z2
          obtain ⟨j1, j2⟩ := ih S1 hs1 i1 r2 S2 e2
          rw [e2] at e
          cases e
          exact ⟨j1, i2.trans j2⟩
/-- the number of a set of one -/
def pz_log (s : Nat) : Nat := if s ≤ 1 then 0 else if s ≤ 3 then 1 else if s ≤ 7 then 2 else 3
