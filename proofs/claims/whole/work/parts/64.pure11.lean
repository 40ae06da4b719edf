/-! PURE: the chain of places. lp r: the gap ahead of run r; run r has the places behind it; gaps, jumps, ends, colours -/
def pl_p (l : Nat → Nat) : Nat → Nat
  | 0 => 0
  | r + 1 => pl_p l r + l r + 1
def pl_gap (l : Nat → Nat) : Nat → Nat → Bool
  | 0, q => decide (q = 0)
  | n + 1, q => pl_gap l n q || decide (q = pl_p l (n + 1))
def pl_jmp (c l : Nat → Nat) : Nat → Nat → Bool
  | 0, _ => false
  | n + 1, q => pl_jmp c l n q || decide (0 < n ∧ c n ≠ c (n - 1) ∧ q + 1 = pl_p l n)
def pl_end (l : Nat → Nat) (n q : Nat) : Bool := decide ((n = 0 ∧ q = 0) ∨ (0 < n ∧ (q + 1 = pl_p l n ∨ q = pl_p l n)))
def pl_col (c l : Nat → Nat) : Nat → Nat → Nat
  | 0, _ => 0
  | n + 1, q => if pl_p l n < q ∧ q < pl_p l (n + 1) then c n else pl_col c l n q
theorem pl_p_mono (l : Nat → Nat) : ∀ d r, pl_p l r + d ≤ pl_p l (r + d) := by
  intro d
  induction d with
  | zero => intro r; exact Nat.le_refl _
  | succ d ih =>
    intro r
    have := ih r
    show _ ≤ pl_p l (r + d) + l (r + d) + 1
    omega
theorem pl_p_lt {l : Nat → Nat} {r s : Nat} (h : r < s) : pl_p l r + l r + 1 ≤ pl_p l s := by
  have := pl_p_mono l (s - (r + 1)) (r + 1)
  rw [show r + 1 + (s - (r + 1)) = s by omega] at this
  have e : pl_p l (r + 1) = pl_p l r + l r + 1 := rfl
  omega
theorem pl_p_inj {l : Nat → Nat} {r s : Nat} (h : pl_p l r = pl_p l s) : r = s := by
  rcases Nat.lt_trichotomy r s with g | g | g
  · have := pl_p_lt (l := l) g; omega
  · exact g
  · have := pl_p_lt (l := l) g; omega
theorem pl_gap_iff (l : Nat → Nat) : ∀ n q, pl_gap l n q = true ↔ ∃ r, r ≤ n ∧ q = pl_p l r := by
  intro n
  induction n with
  | zero =>
    intro q
    show decide (q = 0) = true ↔ _
    rw [decide_eq_true_eq]
    exact ⟨fun h => ⟨0, Nat.le_refl _, h⟩, fun ⟨r, h1, h2⟩ => by
      obtain rfl : r = 0 := by omega
      exact h2⟩
  | succ n ih =>
    intro q
    show (pl_gap l n q || decide (q = pl_p l (n + 1))) = true ↔ _
    rw [Bool.or_eq_true, ih, decide_eq_true_eq]
    constructor
    · rintro (⟨r, h1, h2⟩ | h)
      · exact ⟨r, by omega, h2⟩
      · exact ⟨n + 1, Nat.le_refl _, h⟩
    · rintro ⟨r, h1, h2⟩
      by_cases h : r = n + 1
      · subst h; exact Or.inr h2
      · exact Or.inl ⟨r, by omega, h2⟩
theorem pl_jmp_iff (c l : Nat → Nat) : ∀ n q, pl_jmp c l n q = true ↔ ∃ r, 0 < r ∧ r < n ∧ c r ≠ c (r - 1) ∧ q + 1 = pl_p l r := by
  intro n
  induction n with
  | zero =>
    intro q
    show false = true ↔ _
    exact ⟨fun h => (by cases h), fun ⟨r, h1, h2, _⟩ => by omega⟩
  | succ n ih =>
    intro q
    show (pl_jmp c l n q || decide _) = true ↔ _
    rw [Bool.or_eq_true, ih, decide_eq_true_eq]
    constructor
    · rintro (⟨r, h1, h2, h3, h4⟩ | ⟨h1, h2, h3⟩)
      · exact ⟨r, h1, by omega, h3, h4⟩
      · exact ⟨n, h1, by omega, h2, h3⟩
    · rintro ⟨r, h1, h2, h3, h4⟩
      by_cases h : r = n
      · subst h; exact Or.inr ⟨h1, h3, h4⟩
      · exact Or.inl ⟨r, h1, by omega, h3, h4⟩
theorem pl_col_gap (c l : Nat → Nat) : ∀ n r, pl_col c l n (pl_p l r) = 0 := by
  intro n
  induction n with
  | zero => intro r; rfl
  | succ n ih =>
    intro r
    show (if _ then _ else _) = 0
    rw [if_neg, ih]
    rintro ⟨h1, h2⟩
    rcases Nat.lt_or_ge n r with g | g
    · have := pl_p_mono l (r - (n + 1)) (n + 1)
      rw [show n + 1 + (r - (n + 1)) = r by omega] at this
      omega
    · have := pl_p_mono l (n - r) r
      rw [show r + (n - r) = n by omega] at this
      omega
theorem pl_col_run (c l : Nat → Nat) : ∀ n r j, r < n → j < l r → pl_col c l n (pl_p l r + 1 + j) = c r := by
  intro n
  induction n with
  | zero => intro r j h; omega
  | succ n ih =>
    intro r j hr hj
    show (if _ then _ else _) = c r
    have e : pl_p l (n + 1) = pl_p l n + l n + 1 := rfl
    by_cases h : r = n
    · subst h
      rw [if_pos ⟨by omega, by omega⟩]
    · rw [if_neg, ih r j (by omega) hj]
      have := pl_p_lt (l := l) (show r < n by omega)
      omega
/-! the ways to go on: d cells are left of L; ok i q: cell i may be at place q -/
def au_w (gap jmp en : Nat → Bool) (ok : Nat → Nat → Bool) (L : Nat) : Nat → Nat → Nat
  | 0, q => if en q = true then 1 else 0
  | d + 1, q => (if ok (L - (d + 1)) (q + 1) = true then au_w gap jmp en ok L d (q + 1) else 0) + (if gap q = true ∧ ok (L - (d + 1)) q = true then au_w gap jmp en ok L d q else 0) + (if jmp q = true ∧ ok (L - (d + 1)) (q + 2) = true then au_w gap jmp en ok L d (q + 2) else 0)
/-- the ways to come to place q with i cells -/
def au_c (gap jmp : Nat → Bool) (ok : Nat → Nat → Bool) : Nat → Nat → Nat
  | 0, q => if q = 0 then 1 else 0
  | i + 1, q => if ok i q = true then (if 1 ≤ q then au_c gap jmp ok i (q - 1) else 0) + (if gap q = true then au_c gap jmp ok i q else 0) + (if 2 ≤ q ∧ jmp (q - 2) = true then au_c gap jmp ok i (q - 2) else 0) else 0
theorem ln_sum_shift (f : Nat → Nat) : ∀ m lo, ln_sum (fun x => f (x + 1)) lo m = ln_sum f (lo + 1) m := by
  intro m
  induction m with
  | zero => intro lo; rfl
  | succ m ih => intro lo; show _ + ln_sum _ (lo + 1) m = _; rw [ih]; rfl
/-- a sum over q < N of something at q - 1 is one over q + 1, if what stands at N is nothing -/
theorem ln_sum_sh1 (f : Nat → Nat → Nat) (N : Nat) (h : ∀ q, f q N = 0) : ln_sum (fun q => if 1 ≤ q then f (q - 1) q else 0) 0 N = ln_sum (fun q => f q (q + 1)) 0 N := by
  cases N with
  | zero => rfl
  | succ N =>
    rw [ln_sum_snoc (fun q => f q (q + 1)), Nat.zero_add, h N, Nat.add_zero]
    show (if 1 ≤ 0 then _ else 0) + ln_sum _ (0 + 1) N = _
    rw [if_neg (by omega), Nat.zero_add, ← ln_sum_shift]
    exact ln_sum_congr _ _ (fun x _ _ => by show (if 1 ≤ x + 1 then _ else _) = _; rw [if_pos (by omega), Nat.add_sub_cancel])
theorem ln_sum_sh2 (f : Nat → Nat → Nat) (N : Nat) (h : ∀ q, f q N = 0) (h2 : ∀ q, f q (N + 1) = 0) : ln_sum (fun q => if 2 ≤ q then f (q - 2) q else 0) 0 N = ln_sum (fun q => f q (q + 2)) 0 N := by
  cases N with
  | zero => rfl
  | succ N =>
    rw [ln_sum_snoc (fun q => f q (q + 2)), Nat.zero_add, show f N (N + 2) = 0 from h2 N]
    have e1 : ln_sum (fun q => if 2 ≤ q then f (q - 2) q else 0) 0 (N + 1) = ln_sum (fun q => if 1 ≤ q then (fun a b => f a (b + 1)) (q - 1) q else 0) 0 N := by
      show (if 2 ≤ 0 then _ else 0) + ln_sum _ (0 + 1) N = _
      rw [if_neg (by omega), Nat.zero_add, ← ln_sum_shift]
      refine ln_sum_congr _ _ (fun x _ _ => ?_)
      by_cases hx : 1 ≤ x
      · show (if 2 ≤ x + 1 then f (x + 1 - 2) (x + 1) else 0) = _
        rw [if_pos (by omega), if_pos hx, show x + 1 - 2 = x - 1 by omega]
      · show (if 2 ≤ x + 1 then f (x + 1 - 2) (x + 1) else 0) = _
        rw [if_neg (by omega), if_neg hx]
    rw [e1, ln_sum_sh1 (fun a b => f a (b + 1)) N (fun q => h q), Nat.add_zero]
section
variable {gap jmp en : Nat → Bool} {ok : Nat → Nat → Bool} {L N : Nat}
/-- ways come and ways go on: their products add up to the same at each cell -/
theorem au_step (hN : ∀ i q, N ≤ q → ok i q = false) {i d : Nat} (hd : i + (d + 1) = L) : ln_sum (fun q => au_c gap jmp ok (i + 1) q * au_w gap jmp en ok L d q) 0 N = ln_sum (fun q => au_c gap jmp ok i q * au_w gap jmp en ok L (d + 1) q) 0 N := by
  obtain rfl : i = L - (d + 1) := by omega
  generalize hi : L - (d + 1) = i
  have e1 : ∀ q, au_c gap jmp ok (i + 1) q * au_w gap jmp en ok L d q = ((if 1 ≤ q then (fun a b => if ok i b = true then au_c gap jmp ok i a * au_w gap jmp en ok L d b else 0) (q - 1) q else 0) + (if gap q = true ∧ ok i q = true then au_c gap jmp ok i q * au_w gap jmp en ok L d q else 0)) + (if 2 ≤ q then (fun a b => if jmp a = true ∧ ok i b = true then au_c gap jmp ok i a * au_w gap jmp en ok L d b else 0) (q - 2) q else 0) := by
    intro q
    show (if ok i q = true then _ else 0) * _ = _
    dsimp only
    by_cases ho : ok i q = true
    · rw [if_pos ho, if_pos ho, Nat.add_mul, Nat.add_mul]
      congr 1
      · congr 1
        · by_cases h1 : 1 ≤ q
          · rw [if_pos h1, if_pos h1]
          · rw [if_neg h1, if_neg h1, Nat.zero_mul]
        · by_cases h1 : gap q = true
          · rw [if_pos h1, if_pos ⟨h1, ho⟩]
          · rw [if_neg h1, if_neg (fun g => h1 g.1), Nat.zero_mul]
      · by_cases h1 : 2 ≤ q
        · by_cases h2 : jmp (q - 2) = true
          · rw [if_pos ⟨h1, h2⟩, if_pos h1, if_pos ⟨h2, ho⟩]
          · rw [if_neg (fun g => h2 g.2), if_pos h1, if_neg (fun g => h2 g.1), Nat.zero_mul]
        · rw [if_neg (fun g => h1 g.1), if_neg h1, Nat.zero_mul]
    · simp [ho]
  have e2 : ∀ q, au_c gap jmp ok i q * au_w gap jmp en ok L (d + 1) q = ((fun a b => if ok i b = true then au_c gap jmp ok i a * au_w gap jmp en ok L d b else 0) q (q + 1) + (if gap q = true ∧ ok i q = true then au_c gap jmp ok i q * au_w gap jmp en ok L d q else 0)) + (fun a b => if jmp a = true ∧ ok i b = true then au_c gap jmp ok i a * au_w gap jmp en ok L d b else 0) q (q + 2) := by
    intro q
    show _ * ((if ok (L - (d + 1)) _ = true then _ else 0) + _ + _) = _
    rw [hi, Nat.mul_add, Nat.mul_add]
    dsimp only
    congr 1
    · congr 1
      · by_cases h1 : ok i (q + 1) = true
        · rw [if_pos h1, if_pos h1]
        · rw [if_neg h1, if_neg h1, Nat.mul_zero]
      · by_cases h1 : gap q = true ∧ ok i q = true
        · rw [if_pos h1, if_pos h1]
        · rw [if_neg h1, if_neg h1, Nat.mul_zero]
    · by_cases h1 : jmp q = true ∧ ok i (q + 2) = true
      · rw [if_pos h1, if_pos h1]
      · rw [if_neg h1, if_neg h1, Nat.mul_zero]
  rw [ln_sum_congr _ _ (fun q _ _ => e1 q), ln_sum_congr _ _ (fun q _ _ => e2 q), ln_sum_add, ln_sum_add, ln_sum_add, ln_sum_add, ln_sum_sh1 (fun a b => if ok i b = true then au_c gap jmp ok i a * au_w gap jmp en ok L d b else 0) N (fun q => by rw [if_neg (by rw [hN i N (Nat.le_refl _)]; decide)]), ln_sum_sh2 (fun a b => if jmp a = true ∧ ok i b = true then au_c gap jmp ok i a * au_w gap jmp en ok L d b else 0) N (fun q => by rw [if_neg (by rw [hN i N (Nat.le_refl _)]; rintro ⟨_, h⟩; cases h)]) (fun q => by rw [if_neg (by rw [hN i (N + 1) (by omega)]; rintro ⟨_, h⟩; cases h)])]
theorem au_all (hN : ∀ i q, N ≤ q → ok i q = false) (h0 : 0 < N) : ∀ i d, i + d = L → ln_sum (fun q => au_c gap jmp ok i q * au_w gap jmp en ok L d q) 0 N = au_w gap jmp en ok L L 0 := by
  intro i
  induction i with
  | zero =>
    intro d hd
    obtain rfl : d = L := by omega
    obtain ⟨M, rfl⟩ : ∃ M, N = M + 1 := ⟨N - 1, by omega⟩
    show (if (0 : Nat) = 0 then 1 else 0) * _ + ln_sum _ (0 + 1) M = _
    rw [if_pos rfl, Nat.one_mul, ln_sum_zero, Nat.add_zero]
    intro x h1 h2
    show (if x = 0 then 1 else 0) * _ = 0
    rw [if_neg (by omega), Nat.zero_mul]
  | succ i ih =>
    intro d hd
    rw [au_step hN (by omega)]
    exact ih (d + 1) (by omega)
/-- ways there are over a place that both come and go on -/
theorem au_pos (hN : ∀ i q, N ≤ q → ok i q = false) (h0 : 0 < N) {i d : Nat} (hd : i + d = L) : 0 < au_w gap jmp en ok L L 0 ↔ ∃ q, q < N ∧ 0 < au_c gap jmp ok i q ∧ 0 < au_w gap jmp en ok L d q := by
  rw [← au_all (en := en) hN h0 i d hd]
  constructor
  · intro h
    obtain ⟨q, a, b, e⟩ := ln_sum_ne _ _ (Nat.pos_iff_ne_zero.mp h)
    exact ⟨q, by omega, Nat.pos_of_ne_zero (fun g => e (by rw [g, Nat.zero_mul])), Nat.pos_of_ne_zero (fun g => e (by rw [g, Nat.mul_zero]))⟩
  · rintro ⟨q, a, b, e⟩
    refine Nat.pos_of_ne_zero (fun g => ?_)
    have key : ∀ m lo, ln_sum (fun q => au_c gap jmp ok i q * au_w gap jmp en ok L d q) lo m = 0 → lo ≤ q → q < lo + m → False := by
      intro m
      induction m with
      | zero => intro lo _ h1 h2; omega
      | succ m ih =>
        intro lo h h1 h2
        have h' : au_c gap jmp ok i lo * au_w gap jmp en ok L d lo + ln_sum (fun q => au_c gap jmp ok i q * au_w gap jmp en ok L d q) (lo + 1) m = 0 := h
        by_cases hq : q = lo
        · subst hq
          have := Nat.mul_pos b e
          omega
        · exact ih (lo + 1) (by omega) (by omega) (by omega)
    exact key N 0 g (Nat.zero_le _) (by omega)
end
