/-! PURE: placements of runs in a line. c r, l r: colour and length of run r; pl r: where it starts; n runs; L cells -/
def ln_sp (c : Nat → Nat) (r : Nat) : Nat := if r = 0 then 0 else if c r = c (r - 1) then 1 else 0
def ln_e (l pl : Nat → Nat) (r : Nat) : Nat := if r = 0 then 0 else pl (r - 1) + l (r - 1)
/-- the first place of run r behind the ones ahead of it -/
def ln_fst (c l pl : Nat → Nat) (r : Nat) : Nat := ln_e l pl r + ln_sp c r
/-- k runs from r on at their first places -/
def ln_lay (c l pl : Nat → Nat) (r : Nat) : Nat → (Nat → Nat)
  | 0 => pl
  | k + 1 => va_up (ln_lay c l pl r k) (r + k) (ln_fst c l (ln_lay c l pl r k) (r + k))
def ln_S (c l : Nat → Nat) : Nat → Nat → Nat
  | 0, _ => 0
  | k + 1, r => ln_sp c r + l r + ln_S c l k (r + 1)
def ln_sum (f : Nat → Nat) : Nat → Nat → Nat
  | _, 0 => 0
  | lo, m + 1 => f lo + ln_sum f (lo + 1) m
/-- how many completions from run r on (k of them) make P true -/
def ln_N (c l : Nat → Nat) (L : Nat) (P : (Nat → Nat) → Bool) : Nat → Nat → (Nat → Nat) → Nat
  | 0, _, pl => if P pl = true then 1 else 0
  | k + 1, r, pl => ln_sum (fun x => ln_N c l L P k (r + 1) (va_up pl r x)) (ln_fst c l pl r) (L + 1 - ln_fst c l pl r)
/-- and how many of them come behind pl -/
def ln_T (c l : Nat → Nat) (L : Nat) (P : (Nat → Nat) → Bool) : Nat → Nat → (Nat → Nat) → Nat
  | 0, _, _ => 0
  | k + 1, r, pl => ln_T c l L P k (r + 1) pl + ln_sum (fun x => ln_N c l L P k (r + 1) (va_up pl r x)) (pl r + 1) (L - pl r)
def ln_Rm (c l : Nat → Nat) (L : Nat) (P : (Nat → Nat) → Bool) (k r : Nat) (pl : Nat → Nat) : Nat := (if P pl = true then 1 else 0) + ln_T c l L P k r pl
theorem ln_sum_congr {f g : Nat → Nat} : ∀ (m lo : Nat), (∀ x, lo ≤ x → x < lo + m → f x = g x) → ln_sum f lo m = ln_sum g lo m := by
  intro m
  induction m with
  | zero => intro lo _; rfl
  | succ m ih =>
    intro lo h
    show f lo + _ = g lo + _
    rw [h lo (Nat.le_refl _) (by omega), ih (lo + 1) (fun x h1 h2 => h x (by omega) (by omega))]
theorem ln_sum_ne {f : Nat → Nat} : ∀ (m lo : Nat), ln_sum f lo m ≠ 0 → ∃ x, lo ≤ x ∧ x < lo + m ∧ f x ≠ 0 := by
  intro m
  induction m with
  | zero => intro lo h; exact absurd rfl h
  | succ m ih =>
    intro lo h
    by_cases h0 : f lo = 0
    · have h1 : ln_sum f (lo + 1) m ≠ 0 := fun g => h (by show f lo + _ = 0; omega)
      obtain ⟨x, a, b, d⟩ := ih (lo + 1) h1
      exact ⟨x, by omega, by omega, d⟩
    · exact ⟨lo, Nat.le_refl _, by omega, h0⟩
theorem ln_sum_zero {f : Nat → Nat} {m lo : Nat} (h : ∀ x, lo ≤ x → x < lo + m → f x = 0) : ln_sum f lo m = 0 := by
  by_cases h0 : ln_sum f lo m = 0
  · exact h0
  · obtain ⟨x, a, b, d⟩ := ln_sum_ne m lo h0
    exact absurd (h x a b) d
section
variable {c l : Nat → Nat} {L n : Nat} {P : (Nat → Nat) → Bool}
theorem ln_e_congr {pl pl' : Nat → Nat} {r : Nat} (h : ∀ i, i < r → pl i = pl' i) : ln_e l pl r = ln_e l pl' r := by
  unfold ln_e
  split
  · rfl
  · rw [h (r - 1) (by omega)]
theorem ln_N_congr (hP : ∀ pl pl' : Nat → Nat, (∀ i, i < n → pl i = pl' i) → P pl = P pl') : ∀ (k r : Nat) (pl pl' : Nat → Nat), n = r + k → (∀ i, i < r → pl i = pl' i) → ln_N c l L P k r pl = ln_N c l L P k r pl' := by
  intro k
  induction k with
  | zero =>
    intro r pl pl' hn h
    show (if P pl = true then 1 else 0) = if P pl' = true then 1 else 0
    rw [hP pl pl' (fun i hi => h i (by omega))]
  | succ k ih =>
    intro r pl pl' hn h
    have he : ln_fst c l pl r = ln_fst c l pl' r := by unfold ln_fst; rw [ln_e_congr h]
    show ln_sum _ (ln_fst c l pl r) _ = ln_sum _ (ln_fst c l pl' r) _
    rw [he]
    refine ln_sum_congr _ _ (fun x _ _ => ih (r + 1) _ _ (by omega) (fun i hi => ?_))
    unfold va_up
    split
    · rfl
    · exact h i (by omega)
theorem ln_N_zero (hE : ∀ pl, P pl = true → ln_e l pl n ≤ L) : ∀ (k r : Nat) (pl : Nat → Nat), n = r + k → ln_N c l L P k r pl ≠ 0 → ln_e l pl r + ln_S c l k r ≤ L := by
  intro k
  induction k with
  | zero =>
    intro r pl hn h
    have hp : P pl = true := by
      by_cases hp : P pl = true
      · exact hp
      · exact absurd (if_neg hp) h
    have := hE pl hp
    rw [show n = r by omega] at this
    simpa [ln_S] using this
  | succ k ih =>
    intro r pl hn h
    obtain ⟨x, h1, h2, h3⟩ := ln_sum_ne _ _ h
    have h4 := ih (r + 1) _ (by omega) h3
    have h5 : ln_e l (va_up pl r x) (r + 1) = x + l r := by simp [ln_e, va_up]
    rw [h5] at h4
    unfold ln_fst at h1
    show ln_e l pl r + (ln_sp c r + l r + ln_S c l k (r + 1)) ≤ L
    omega
/-- if the runs from r on lie at their first places, all completions are at or behind them -/
theorem ln_min (hP : ∀ pl pl' : Nat → Nat, (∀ i, i < n → pl i = pl' i) → P pl = P pl') (hE : ∀ pl, P pl = true → ln_e l pl n ≤ L) : ∀ (k r : Nat) (pl : Nat → Nat), n = r + k → (∀ i, r ≤ i → i < n → pl i = ln_fst c l pl i) → ln_Rm c l L P k r pl = ln_N c l L P k r pl := by
  intro k
  induction k with
  | zero => intro r pl hn h; rfl
  | succ k ih =>
    intro r pl hn h
    have h1 := ih (r + 1) pl (by omega) (fun i a b => h i (by omega) b)
    have h2 : pl r = ln_fst c l pl r := h r (Nat.le_refl _) (by omega)
    have hup : ln_N c l L P k (r + 1) (va_up pl r (pl r)) = ln_N c l L P k (r + 1) pl := ln_N_congr hP _ _ _ _ (by omega) (fun i _ => by unfold va_up; split <;> simp_all)
    show (if P pl = true then 1 else 0) + (ln_T c l L P k (r + 1) pl + ln_sum _ (pl r + 1) (L - pl r)) = ln_sum _ (ln_fst c l pl r) (L + 1 - ln_fst c l pl r)
    rw [← h2]
    unfold ln_Rm at h1
    by_cases hL : pl r ≤ L
    · rw [show L + 1 - pl r = (L - pl r) + 1 by omega]
      show _ = ln_N c l L P k (r + 1) (va_up pl r (pl r)) + ln_sum _ (pl r + 1) (L - pl r)
      rw [hup]
      omega
    · rw [show L + 1 - pl r = 0 by omega, show L - pl r = 0 by omega]
      have h3 : ln_N c l L P k (r + 1) pl = 0 := by
        by_cases h4 : ln_N c l L P k (r + 1) pl = 0
        · exact h4
        · have h5 := ln_N_zero (c := c) hE k (r + 1) pl (by omega) h4
          have h6 : ln_e l pl (r + 1) = pl r + l r := by simp [ln_e]
          omega
      show _ + (_ + 0) = 0
      omega
theorem ln_T_none (hE : ∀ pl, P pl = true → ln_e l pl n ≤ L) : ∀ (k r : Nat) (pl : Nat → Nat), n = r + k → (∀ i, r ≤ i → i < n → L < pl i + 1 + l i + ln_S c l (n - 1 - i) (i + 1)) → ln_T c l L P k r pl = 0 := by
  intro k
  induction k with
  | zero => intro r pl hn h; rfl
  | succ k ih =>
    intro r pl hn h
    have h1 := ih (r + 1) pl (by omega) (fun i a b => h i (by omega) b)
    show ln_T c l L P k (r + 1) pl + ln_sum _ (pl r + 1) (L - pl r) = 0
    rw [h1, ln_sum_zero]
    intro x a b
    by_cases h4 : ln_N c l L P k (r + 1) (va_up pl r x) = 0
    · exact h4
    · have h5 := ln_N_zero (c := c) hE k (r + 1) _ (by omega) h4
      have h6 : ln_e l (va_up pl r x) (r + 1) = x + l r := by simp [ln_e, va_up]
      have h7 := h r (Nat.le_refl _) (by omega)
      rw [show n - 1 - r = k by omega] at h7
      omega
/-- the next placement: run r one further, those behind it at their first places -/
theorem ln_next (hP : ∀ pl pl' : Nat → Nat, (∀ i, i < n → pl i = pl' i) → P pl = P pl') (hE : ∀ pl, P pl = true → ln_e l pl n ≤ L) {r : Nat} (hr : r < n) {pl q : Nat → Nat} (hq : ∀ i, i < r → q i = pl i) (hq1 : q r = pl r + 1) (hq2 : ∀ i, r < i → i < n → q i = ln_fst c l q i) (hpl : pl r + 1 ≤ L) (hno : ∀ i, r < i → i < n → L < pl i + 1 + l i + ln_S c l (n - 1 - i) (i + 1)) :
    ∀ (d k r0 : Nat), r = r0 + d → n = r0 + k → ln_T c l L P k r0 pl = ln_Rm c l L P k r0 q := by
  intro d
  induction d with
  | zero =>
    intro k r0 h1 h2
    obtain ⟨k, rfl⟩ : ∃ k', k = k' + 1 := ⟨k - 1, by omega⟩
    obtain rfl : r0 = r := by omega
    have h3 : ln_T c l L P k (r0 + 1) pl = 0 := ln_T_none hE k (r0 + 1) pl (by omega) (fun i a b => hno i (by omega) b)
    have h4 := ln_min hP hE k (r0 + 1) q (by omega) (fun i a b => hq2 i (by omega) b)
    have h5 : ∀ x, ln_N c l L P k (r0 + 1) (va_up q r0 x) = ln_N c l L P k (r0 + 1) (va_up pl r0 x) := fun x => ln_N_congr hP _ _ _ _ (by omega) (fun i hi => by
      unfold va_up
      split
      · rfl
      · exact hq i (by omega))
    have h6 : ln_N c l L P k (r0 + 1) q = ln_N c l L P k (r0 + 1) (va_up pl r0 (pl r0 + 1)) := ln_N_congr hP _ _ _ _ (by omega) (fun i hi => by
      unfold va_up
      split
      · next h => rw [h]; exact hq1
      · exact hq i (by omega))
    show ln_T c l L P k (r0 + 1) pl + ln_sum _ (pl r0 + 1) (L - pl r0) = (if P q = true then 1 else 0) + (ln_T c l L P k (r0 + 1) q + ln_sum _ (q r0 + 1) (L - q r0))
    unfold ln_Rm at h4
    rw [h3, hq1, show L - pl r0 = (L - (pl r0 + 1)) + 1 by omega]
    show 0 + (ln_N c l L P k (r0 + 1) (va_up pl r0 (pl r0 + 1)) + ln_sum _ (pl r0 + 1 + 1) (L - (pl r0 + 1))) = _
    rw [ln_sum_congr (f := fun x => ln_N c l L P k (r0 + 1) (va_up q r0 x)) (g := fun x => ln_N c l L P k (r0 + 1) (va_up pl r0 x)) _ _ (fun x _ _ => h5 x)]
    omega
  | succ d ih =>
    intro k r0 h1 h2
    obtain ⟨k, rfl⟩ : ∃ k', k = k' + 1 := ⟨k - 1, by omega⟩
    have h3 := ih k (r0 + 1) (by omega) (by omega)
    have h4 : q r0 = pl r0 := hq r0 (by omega)
    have h5 : ∀ x, ln_N c l L P k (r0 + 1) (va_up q r0 x) = ln_N c l L P k (r0 + 1) (va_up pl r0 x) := fun x => ln_N_congr hP _ _ _ _ (by omega) (fun i hi => by
      unfold va_up
      split
      · rfl
      · exact hq i (by omega))
    show ln_T c l L P k (r0 + 1) pl + ln_sum _ (pl r0 + 1) (L - pl r0) = (if P q = true then 1 else 0) + (ln_T c l L P k (r0 + 1) q + ln_sum _ (q r0 + 1) (L - q r0))
    rw [h4, h3, ln_sum_congr (f := fun x => ln_N c l L P k (r0 + 1) (va_up q r0 x)) (g := fun x => ln_N c l L P k (r0 + 1) (va_up pl r0 x)) _ _ (fun x _ _ => h5 x)]
    unfold ln_Rm
    omega
end
theorem ln_lay_lt (c l pl : Nat → Nat) (r : Nat) : ∀ (k i : Nat), i < r → ln_lay c l pl r k i = pl i := by
  intro k
  induction k with
  | zero => intro i _; rfl
  | succ k ih =>
    intro i hi
    show va_up _ _ _ i = _
    unfold va_up
    rw [if_neg (by omega)]
    exact ih i hi
theorem ln_lay_ge (c l pl : Nat → Nat) (r : Nat) : ∀ (k i : Nat), r + k ≤ i → ln_lay c l pl r k i = pl i := by
  intro k
  induction k with
  | zero => intro i _; rfl
  | succ k ih =>
    intro i hi
    show va_up _ _ _ i = _
    unfold va_up
    rw [if_neg (by omega)]
    exact ih i (by omega)
theorem ln_fst_congr {c l pl pl' : Nat → Nat} {r : Nat} (h : ∀ i, i < r → pl i = pl' i) : ln_fst c l pl r = ln_fst c l pl' r := by unfold ln_fst; rw [ln_e_congr h]
theorem ln_lay_in (c l pl : Nat → Nat) (r : Nat) : ∀ (k i : Nat), r ≤ i → i < r + k → ln_lay c l pl r k i = ln_fst c l (ln_lay c l pl r k) i := by
  intro k
  induction k with
  | zero => intro i h1 h2; omega
  | succ k ih =>
    intro i h1 h2
    have hc : ∀ j, j < r + k → ln_lay c l pl r (k + 1) j = ln_lay c l pl r k j := fun j hj => by
      show va_up _ _ _ j = _
      unfold va_up
      rw [if_neg (by omega)]
    rw [ln_fst_congr (c := c) (l := l) (pl := ln_lay c l pl r (k + 1)) (pl' := ln_lay c l pl r k) (fun j hj => hc j (by omega))]
    by_cases h : i = r + k
    · subst h
      show va_up _ _ _ _ = _
      simp [va_up]
    · rw [hc i (by omega)]
      exact ih i h1 (by omega)
theorem ln_S_snoc (c l : Nat → Nat) : ∀ (k r : Nat), ln_S c l (k + 1) r = ln_S c l k r + ln_sp c (r + k) + l (r + k) := by
  intro k
  induction k with
  | zero => intro r; simp [ln_S]
  | succ k ih =>
    intro r
    show ln_sp c r + l r + ln_S c l (k + 1) (r + 1) = ln_sp c r + l r + ln_S c l k (r + 1) + ln_sp c (r + (k + 1)) + l (r + (k + 1))
    rw [ih (r + 1), show r + 1 + k = r + (k + 1) by omega]
    omega
theorem ln_lay_e (c l pl : Nat → Nat) (r : Nat) : ∀ k, ln_e l (ln_lay c l pl r k) (r + k) = ln_e l pl r + ln_S c l k r := by
  intro k
  induction k with
  | zero => rfl
  | succ k ih =>
    rw [show ln_e l pl r + ln_S c l (k + 1) r = (ln_e l pl r + ln_S c l k r) + ln_sp c (r + k) + l (r + k) by rw [ln_S_snoc]; omega, ← ih]
    show (if r + (k + 1) = 0 then 0 else ln_lay c l pl r (k + 1) (r + (k + 1) - 1) + l (r + (k + 1) - 1)) = _
    rw [if_neg (by omega), show r + (k + 1) - 1 = r + k by omega, ln_lay_in c l pl r (k + 1) (r + k) (by omega) (by omega)]
    rw [ln_fst_congr (c := c) (l := l) (pl' := ln_lay c l pl r k) (fun j hj => by
      show va_up _ _ _ j = _
      unfold va_up
      rw [if_neg (by omega)])]
    rfl
