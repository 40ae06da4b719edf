/-! PURE: a line's placements are the chain's walks -/
def bl_all (f : Nat → Bool) : Nat → Nat → Bool
  | _, 0 => true
  | lo, m + 1 => f lo && bl_all f (lo + 1) m
theorem bl_all_iff (f : Nat → Bool) : ∀ m lo, bl_all f lo m = true ↔ ∀ x, lo ≤ x → x < lo + m → f x = true := by
  intro m
  induction m with
  | zero => intro lo; exact ⟨fun _ x h1 h2 => by omega, fun _ => rfl⟩
  | succ m ih =>
    intro lo
    show (f lo && bl_all f (lo + 1) m) = true ↔ _
    rw [Bool.and_eq_true, ih]
    constructor
    · rintro ⟨h1, h2⟩ x hx hy
      by_cases h : x = lo
      · subst h; exact h1
      · exact h2 x (by omega) (by omega)
    · intro h
      exact ⟨h lo (Nat.le_refl _) (by omega), fun x h1 h2 => h x (by omega) (by omega)⟩
def pl_ok (c l : Nat → Nat) (n : Nat) (may : Nat → Nat) (i q : Nat) : Bool := decide (q ≤ pl_p l n) && (may i).testBit (pl_col c l n q)
def pl_w (c l : Nat → Nat) (n L : Nat) (may : Nat → Nat) : Nat → Nat → Nat := au_w (pl_gap l n) (pl_jmp c l n) (pl_end l n) (pl_ok c l n may) L
section
variable {c l : Nat → Nat} {n L : Nat} {may : Nat → Nat}
theorem pl_w_s (d q : Nat) : pl_w c l n L may (d + 1) q = (if pl_ok c l n may (L - (d + 1)) (q + 1) = true then pl_w c l n L may d (q + 1) else 0) + (if pl_gap l n q = true ∧ pl_ok c l n may (L - (d + 1)) q = true then pl_w c l n L may d q else 0) + (if pl_jmp c l n q = true ∧ pl_ok c l n may (L - (d + 1)) (q + 2) = true then pl_w c l n L may d (q + 2) else 0) := rfl
theorem pl_ok_hi {i q : Nat} (h : pl_p l n < q) : pl_ok c l n may i q = false := by
  unfold pl_ok
  rw [decide_eq_false (by omega), Bool.false_and]
theorem pl_p_le {r s : Nat} (h : r ≤ s) : pl_p l r ≤ pl_p l s := by
  have := pl_p_mono l (s - r) r
  rw [show r + (s - r) = s by omega] at this
  omega
theorem pl_ok_gap {i r : Nat} (h : r ≤ n) : pl_ok c l n may i (pl_p l r) = (may i).testBit 0 := by
  unfold pl_ok
  rw [decide_eq_true (pl_p_le h), Bool.true_and, pl_col_gap]
theorem pl_ok_run {i r j : Nat} (h : r < n) (hj : j < l r) : pl_ok c l n may i (pl_p l r + 1 + j) = (may i).testBit (c r) := by
  unfold pl_ok
  have := pl_p_lt (l := l) h
  rw [decide_eq_true (by omega), Bool.true_and, pl_col_run c l n r j h hj]
/-- a run's cell is no gap -/
theorem pl_gap_run {r j : Nat} (h : r < n) (hj : j < l r) : pl_gap l n (pl_p l r + 1 + j) = false := by
  cases e : pl_gap l n (pl_p l r + 1 + j) with
  | false => rfl
  | true =>
    obtain ⟨s, h1, h2⟩ := (pl_gap_iff l n _).mp e
    rcases Nat.lt_trichotomy r s with g | g | g
    · have := pl_p_lt (l := l) g; omega
    · subst g; omega
    · have := pl_p_lt (l := l) g; omega
theorem pl_gap_at {r : Nat} (h : r ≤ n) : pl_gap l n (pl_p l r) = true := (pl_gap_iff l n _).mpr ⟨r, h, rfl⟩
/-- a jump is from a run's last cell -/
theorem pl_jmp_run {r j : Nat} (h : r < n) (hj : j < l r) (hne : j + 1 < l r ∨ r + 1 = n ∨ c (r + 1) = c r) : pl_jmp c l n (pl_p l r + 1 + j) = false := by
  cases e : pl_jmp c l n (pl_p l r + 1 + j) with
  | false => rfl
  | true =>
    obtain ⟨s, h1, h2, h3, h4⟩ := (pl_jmp_iff c l n _).mp e
    rcases Nat.lt_trichotomy (r + 1) s with g | g | g
    · have := pl_p_lt (l := l) g
      have e2 : pl_p l (r + 1) = pl_p l r + l r + 1 := rfl
      omega
    · subst g
      have e2 : pl_p l (r + 1) = pl_p l r + l r + 1 := rfl
      rw [Nat.add_sub_cancel] at h3
      omega
    · have := pl_p_le (l := l) (show s ≤ r by omega); omega
theorem pl_jmp_gap (hl : ∀ i, i < n → 1 ≤ l i) {r : Nat} (h : r ≤ n) : pl_jmp c l n (pl_p l r) = false := by
  cases e : pl_jmp c l n (pl_p l r) with
  | false => rfl
  | true =>
    obtain ⟨s, h1, h2, h3, h4⟩ := (pl_jmp_iff c l n _).mp e
    rcases Nat.lt_trichotomy r s with g | g | g
    · have := pl_p_lt (l := l) g; have := hl r (by omega); omega
    · subst g; omega
    · have := pl_p_lt (l := l) g; omega
theorem pl_jmp_at {r : Nat} (h : r + 1 < n) (hc : c (r + 1) ≠ c r) : pl_jmp c l n (pl_p l r + l r) = true := (pl_jmp_iff c l n _).mpr ⟨r + 1, by omega, h, by rw [Nat.add_sub_cancel]; exact hc, rfl⟩
theorem pl_end_no {q : Nat} (h : q + 1 < pl_p l n) : pl_end l n q = false := by
  unfold pl_end
  refine decide_eq_false ?_
  rintro (⟨h1, h2⟩ | ⟨h1, h2⟩)
  · subst h1; exact absurd h (by show ¬ _ < 0; omega)
  · omega
/-- the last gap: all cells left must be able to be empty -/
theorem pl_w_tail : ∀ d, d ≤ L → pl_w c l n L may d (pl_p l n) = if bl_all (fun x => (may x).testBit 0) (L - d) d = true then 1 else 0 := by
  intro d
  induction d with
  | zero =>
    intro _
    show (if pl_end l n (pl_p l n) = true then 1 else 0) = if true = true then 1 else 0
    have : pl_end l n (pl_p l n) = true := by
      unfold pl_end
      refine decide_eq_true ?_
      cases n with
      | zero => exact Or.inl ⟨rfl, rfl⟩
      | succ n => exact Or.inr ⟨by omega, Or.inr rfl⟩
    rw [if_pos this, if_pos rfl]
  | succ d ih =>
    intro hd
    rw [pl_w_s, if_neg (by rw [pl_ok_hi (by omega)]; decide), if_neg (c := pl_jmp c l n (pl_p l n) = true ∧ _) (by rw [pl_ok_hi (by omega)]; rintro ⟨_, h⟩; cases h), pl_gap_at (Nat.le_refl n), pl_ok_gap (Nat.le_refl n), ih (by omega)]
    show 0 + _ + 0 = if ((may (L - (d + 1))).testBit 0 && bl_all _ (L - (d + 1) + 1) d) = true then 1 else 0
    rw [show L - (d + 1) + 1 = L - d by omega]
    cases (may (L - (d + 1))).testBit 0 <;> simp
theorem pl_w_last (hl : ∀ i, i < n → 1 ≤ l i) (hn : 0 < n) : ∀ d, d ≤ L → pl_w c l n L may d (pl_p l n - 1) = if bl_all (fun x => (may x).testBit 0) (L - d) d = true then 1 else 0 := by
  intro d hd
  obtain ⟨r, rfl⟩ : ∃ r, n = r + 1 := ⟨n - 1, by omega⟩
  have h1 := hl r (by omega)
  have e : pl_p l (r + 1) - 1 = pl_p l r + 1 + (l r - 1) := by
    show pl_p l r + l r + 1 - 1 = _
    omega
  cases d with
  | zero =>
    show (if pl_end l (r + 1) (pl_p l (r + 1) - 1) = true then 1 else 0) = if true = true then 1 else 0
    have : pl_end l (r + 1) (pl_p l (r + 1) - 1) = true := by
      unfold pl_end
      refine decide_eq_true (Or.inr ⟨by omega, Or.inl ?_⟩)
      show pl_p l r + l r + 1 - 1 + 1 = pl_p l r + l r + 1
      omega
    rw [if_pos this, if_pos rfl]
  | succ d =>
    rw [← pl_w_tail (c := c) (l := l) (n := r + 1) (may := may) (d + 1) hd, pl_w_s, pl_w_s, e, pl_gap_run (by omega) (by omega), pl_jmp_run (by omega) (by omega) (Or.inr (Or.inl rfl)), show pl_p l r + 1 + (l r - 1) + 1 = pl_p l (r + 1) by show _ = pl_p l r + l r + 1; omega]
    rw [if_neg (c := pl_ok c l (r + 1) may (L - (d + 1)) (pl_p l (r + 1) + 1) = true) (by rw [pl_ok_hi (by omega)]; decide), if_neg (c := pl_jmp c l (r + 1) (pl_p l (r + 1)) = true ∧ _) (by rw [pl_ok_hi (by omega)]; rintro ⟨_, h⟩; cases h), pl_gap_at (Nat.le_refl _), pl_ok_gap (Nat.le_refl _)]
    simp
/-- within a run -/
theorem pl_w_in {r j d : Nat} (hr : r < n) (hj : j + 1 < l r) : pl_w c l n L may (d + 1) (pl_p l r + 1 + j) = if (may (L - (d + 1))).testBit (c r) = true then pl_w c l n L may d (pl_p l r + 1 + (j + 1)) else 0 := by
  rw [pl_w_s, pl_gap_run hr (by omega), pl_jmp_run hr (by omega) (Or.inl hj), show pl_p l r + 1 + j + 1 = pl_p l r + 1 + (j + 1) by omega, pl_ok_run hr hj]
  simp
theorem pl_w_in0 {r j : Nat} (hr : r < n) (hj : j + 1 < l r) : pl_w c l n L may 0 (pl_p l r + 1 + j) = 0 := by
  show (if pl_end l n _ = true then 1 else 0) = 0
  rw [pl_end_no (by have := pl_p_lt (l := l) hr; omega)]
  rfl
theorem pl_w_run {r : Nat} (hr : r < n) : ∀ (k j d : Nat), j + k + 1 = l r → d ≤ L → pl_w c l n L may d (pl_p l r + 1 + j) = if k ≤ d ∧ bl_all (fun x => (may x).testBit (c r)) (L - d) k = true then pl_w c l n L may (d - k) (pl_p l r + l r) else 0 := by
  intro k
  induction k with
  | zero =>
    intro j d h _
    rw [if_pos ⟨Nat.zero_le _, rfl⟩, show pl_p l r + 1 + j = pl_p l r + l r by omega]
    rfl
  | succ k ih =>
    intro j d h hd
    cases d with
    | zero => rw [pl_w_in0 hr (by omega), if_neg (by omega)]
    | succ d =>
      rw [pl_w_in hr (by omega), ih (j + 1) d (by omega) (by omega)]
      show _ = if k + 1 ≤ d + 1 ∧ ((may (L - (d + 1))).testBit (c r) && bl_all _ (L - (d + 1) + 1) k) = true then _ else 0
      rw [show L - (d + 1) + 1 = L - d by omega, show d + 1 - (k + 1) = d - k by omega]
      cases (may (L - (d + 1))).testBit (c r) <;> simp
/-- run r from cell x on -/
def pl_rf (c l : Nat → Nat) (L : Nat) (may : Nat → Nat) (r x : Nat) : Bool := decide (x + l r ≤ L) && bl_all (fun y => (may y).testBit (c r)) x (l r)
theorem pl_w_st {r x d : Nat} (hr : r < n) (hl : 1 ≤ l r) (hx : x + (d + 1) = L) : (if (may x).testBit (c r) = true then pl_w c l n L may d (pl_p l r + 1) else 0) = if pl_rf c l L may r x = true then pl_w c l n L may (L - (x + l r)) (pl_p l r + l r) else 0 := by
  have h := pl_w_run (c := c) (l := l) (L := L) (may := may) hr (l r - 1) 0 d (by omega) (by omega)
  rw [Nat.add_zero] at h
  rw [h]
  unfold pl_rf
  obtain ⟨k, hk⟩ : ∃ k, l r = k + 1 := ⟨l r - 1, by omega⟩
  rw [hk]
  show _ = if (decide (x + (k + 1) ≤ L) && ((may x).testBit (c r) && bl_all _ (x + 1) k)) = true then _ else 0
  rw [show L - d = x + 1 by omega, show k + 1 - 1 = k by omega, show d - k = L - (x + (k + 1)) by omega]
  by_cases h1 : k ≤ d
  · rw [decide_eq_true (by omega), Bool.true_and]
    cases (may x).testBit (c r) <;> simp [h1]
  · rw [decide_eq_false (by omega), Bool.false_and]
    simp [h1]
/-- in gap r: the next run starts somewhere -/
theorem pl_w_gap (hl : ∀ i, i < n → 1 ≤ l i) {r : Nat} (hr : r < n) : ∀ d a, a + d = L → pl_w c l n L may d (pl_p l r) = ln_sum (fun x => if (bl_all (fun y => (may y).testBit 0) a (x - a) && pl_rf c l L may r x) = true then pl_w c l n L may (L - (x + l r)) (pl_p l r + l r) else 0) a (d + 1) := by
  intro d
  induction d with
  | zero =>
    intro a ha
    have h1 := hl r hr
    have h2 := pl_p_lt (l := l) hr
    show (if pl_end l n (pl_p l r) = true then 1 else 0) = (if _ then _ else 0) + 0
    rw [pl_end_no (by omega)]
    have : pl_rf c l L may r a = false := by unfold pl_rf; rw [decide_eq_false (by omega), Bool.false_and]
    rw [this, Bool.and_false]
    rfl
  | succ d ih =>
    intro a ha
    have h1 := hl r hr
    rw [pl_w_s, pl_gap_at (by omega), pl_ok_gap (by omega), pl_jmp_gap hl (by omega), show L - (d + 1) = a by omega]
    have e1 : pl_ok c l n may a (pl_p l r + 1) = (may a).testBit (c r) := pl_ok_run (j := 0) hr (by omega)
    rw [e1, pl_w_st hr h1 (show a + (d + 1) = L from ha)]
    show _ = (if (bl_all _ a (a - a) && pl_rf c l L may r a) = true then _ else 0) + ln_sum _ (a + 1) (d + 1)
    rw [show a - a = 0 by omega]
    show _ = (if (true && pl_rf c l L may r a) = true then _ else 0) + _
    rw [Bool.true_and, ih (a + 1) (by omega)]
    have e2 : (if (false : Bool) = true ∧ pl_ok c l n may a (pl_p l r + 2) = true then pl_w c l n L may d (pl_p l r + 2) else 0) = 0 := if_neg (by rintro ⟨h, _⟩; cases h)
    rw [e2, Nat.add_zero]
    congr 1
    cases e3 : (may a).testBit 0 with
    | true =>
      rw [if_pos ⟨rfl, rfl⟩]
      refine ln_sum_congr _ _ (fun x x1 x2 => ?_)
      rw [show x - a = (x - (a + 1)) + 1 by omega]
      show _ = if (((may a).testBit 0 && bl_all _ (a + 1) (x - (a + 1))) && _) = true then _ else 0
      rw [e3, Bool.true_and]
    | false =>
      rw [if_neg (by rintro ⟨_, h⟩; cases h), ln_sum_zero]
      intro x x1 x2
      rw [show x - a = (x - (a + 1)) + 1 by omega]
      show (if (((may a).testBit 0 && bl_all _ (a + 1) (x - (a + 1))) && _) = true then _ else 0) = 0
      rw [e3]
      rfl
/-- behind run r - 1: run r starts at or behind its first place -/
theorem pl_w_next (hl : ∀ i, i < n → 1 ≤ l i) {r : Nat} (hr0 : 0 < r) (hr : r < n) {d a : Nat} (ha : a + d = L) : pl_w c l n L may d (pl_p l r - 1) = ln_sum (fun x => if (bl_all (fun y => (may y).testBit 0) a (x - a) && pl_rf c l L may r x) = true then pl_w c l n L may (L - (x + l r)) (pl_p l r + l r) else 0) (a + ln_sp c r) (L + 1 - (a + ln_sp c r)) := by
  obtain ⟨s, rfl⟩ : ∃ s, r = s + 1 := ⟨r - 1, by omega⟩
  have h1 := hl s (by omega)
  have h2 := hl (s + 1) hr
  have e0 : pl_p l (s + 1) = pl_p l s + l s + 1 := rfl
  have e : pl_p l (s + 1) - 1 = pl_p l s + 1 + (l s - 1) := by omega
  have hsp : ln_sp c (s + 1) = if c (s + 1) = c s then 1 else 0 := by
    unfold ln_sp
    rw [if_neg (by omega), Nat.add_sub_cancel]
  cases d with
  | zero =>
    have h3 := pl_p_lt (l := l) hr
    show (if pl_end l n _ = true then 1 else 0) = _
    rw [pl_end_no (by omega), ln_sum_zero]
    · rfl
    · intro x x1 x2
      have : pl_rf c l L may (s + 1) x = false := by unfold pl_rf; rw [decide_eq_false (by omega), Bool.false_and]
      rw [this, Bool.and_false]
      rfl
  | succ d =>
    by_cases hc : c (s + 1) = c s
    · rw [hsp, if_pos hc, pl_w_s, e, pl_gap_run (by omega) (by omega), pl_jmp_run (by omega) (by omega) (Or.inr (Or.inr hc)), show pl_p l s + 1 + (l s - 1) + 1 = pl_p l (s + 1) by omega, pl_ok_gap (by omega), show L - (d + 1) = a by omega, pl_w_gap hl hr d (a + 1) (by omega), show L + 1 - (a + 1) = d + 1 by omega]
      have z1 : (if (false : Bool) = true ∧ pl_ok c l n may a (pl_p l s + 1 + (l s - 1)) = true then pl_w c l n L may d (pl_p l s + 1 + (l s - 1)) else 0) = 0 := if_neg (by rintro ⟨h, _⟩; cases h)
      have z2 : (if (false : Bool) = true ∧ pl_ok c l n may a (pl_p l s + 1 + (l s - 1) + 2) = true then pl_w c l n L may d (pl_p l s + 1 + (l s - 1) + 2) else 0) = 0 := if_neg (by rintro ⟨h, _⟩; cases h)
      rw [z1, z2, Nat.add_zero, Nat.add_zero]
      cases e3 : (may a).testBit 0 with
      | true =>
        rw [if_pos rfl]
        refine ln_sum_congr _ _ (fun x x1 x2 => ?_)
        rw [show x - a = (x - (a + 1)) + 1 by omega]
        show _ = if (((may a).testBit 0 && bl_all _ (a + 1) (x - (a + 1))) && _) = true then _ else 0
        rw [e3, Bool.true_and]
      | false =>
        rw [if_neg (by decide), ln_sum_zero]
        intro x x1 x2
        rw [show x - a = (x - (a + 1)) + 1 by omega]
        show (if (((may a).testBit 0 && bl_all _ (a + 1) (x - (a + 1))) && _) = true then _ else 0) = 0
        rw [e3]
        rfl
    · rw [hsp, if_neg hc, show a + 0 = a from rfl, show L + 1 - a = d + 1 + 1 by omega, ← pl_w_gap hl hr (d + 1) a ha, pl_w_s, pl_w_s, e, pl_gap_run (by omega) (by omega), show pl_p l s + 1 + (l s - 1) = pl_p l s + l s by omega, pl_jmp_at hr hc, show pl_p l s + l s + 1 = pl_p l (s + 1) by omega, show pl_p l s + l s + 2 = pl_p l (s + 1) + 1 by omega, pl_gap_at (by omega), pl_jmp_gap hl (by omega)]
      simp
      omega
end
