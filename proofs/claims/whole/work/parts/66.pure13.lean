/-! PURE: how many fillings a line has is how many walks the chain has -/
section
variable {c l : Nat → Nat} {n L : Nat} {may : Nat → Nat}
/-- behind the runs placed all is empty -/
theorem ln_fil_hi {pl : Nat → Nat} : ∀ r x, (∀ i, i < r → ln_fst c l pl i ≤ pl i) → ln_e l pl r ≤ x → ln_fil c l pl r x = 0 := by
  intro r
  induction r with
  | zero => intro x _ _; rfl
  | succ r ih =>
    intro x h hx
    have e : ln_e l pl (r + 1) = pl r + l r := by simp [ln_e]
    show (if pl r ≤ x ∧ x < pl r + l r then c r else _) = 0
    have h1 := h r (by omega)
    unfold ln_fst at h1
    rw [if_neg (by omega), ih x (fun i hi => h i (by omega)) (by omega)]
def ln_pre (c l : Nat → Nat) (L : Nat) (may pl : Nat → Nat) (r : Nat) : Bool := decide (ln_e l pl r ≤ L) && bl_all (fun x => (may x).testBit (ln_fil c l pl r x)) 0 (ln_e l pl r)
theorem ln_pre_up {pl : Nat → Nat} {r x : Nat} (hord : ∀ i, i < r → ln_fst c l pl i ≤ pl i) (hx : ln_fst c l pl r ≤ x) : ln_pre c l L may (va_up pl r x) (r + 1) = (ln_pre c l L may pl r && (bl_all (fun y => (may y).testBit 0) (ln_e l pl r) (x - ln_e l pl r) && pl_rf c l L may r x)) := by
  have e : ln_e l (va_up pl r x) (r + 1) = x + l r := by simp [ln_e, va_up]
  have ee : ln_e l pl r ≤ x := by unfold ln_fst at hx; omega
  have ef : ∀ y, ln_fil c l (va_up pl r x) (r + 1) y = if x ≤ y ∧ y < x + l r then c r else ln_fil c l pl r y := by
    intro y
    show (if va_up pl r x r ≤ y ∧ y < va_up pl r x r + l r then c r else ln_fil c l (va_up pl r x) r y) = _
    rw [va_up_s, ln_fil_congr (pl' := pl) r (fun i hi => va_up_n _ _ (by omega))]
  rw [Bool.eq_iff_iff]
  unfold ln_pre pl_rf
  rw [e]
  simp only [Bool.and_eq_true, decide_eq_true_eq, bl_all_iff]
  constructor
  · rintro ⟨h1, h2⟩
    refine ⟨⟨by omega, fun y y1 y2 => ?_⟩, fun y y1 y2 => ?_, h1, fun y y1 y2 => ?_⟩
    · have := h2 y y1 (by omega)
      rw [ef, if_neg (by omega)] at this
      exact this
    · have := h2 y (by omega) (by omega)
      rw [ef, if_neg (by omega), ln_fil_hi r y hord y1] at this
      exact this
    · have := h2 y (by omega) (by omega)
      rw [ef, if_pos ⟨y1, y2⟩] at this
      exact this
  · rintro ⟨⟨h1, h2⟩, h3, h4, h5⟩
    refine ⟨h4, fun y y1 y2 => ?_⟩
    rw [ef]
    by_cases g : x ≤ y
    · rw [if_pos ⟨g, by omega⟩]; exact h5 y g (by omega)
    · rw [if_neg (by omega)]
      by_cases g2 : y < ln_e l pl r
      · exact h2 y y1 (by omega)
      · rw [ln_fil_hi r y hord (by omega)]; exact h3 y (by omega) (by omega)
theorem ln_N_pl (hl : ∀ i, i < n → 1 ≤ l i) : ∀ (k r : Nat) (pl : Nat → Nat), n = r + k → (∀ i, i < r → ln_fst c l pl i ≤ pl i) → ln_N c l L (ln_P c l n L may) k r pl = if ln_pre c l L may pl r = true then (if r = 0 then pl_w c l n L may L 0 else pl_w c l n L may (L - ln_e l pl r) (pl_p l r - 1)) else 0 := by
  intro k
  induction k with
  | zero =>
    intro r pl hn hord
    obtain rfl : n = r := hn
    show (if ln_P c l n L may pl = true then 1 else 0) = _
    by_cases he : ln_e l pl n ≤ L
    · have hw : (if n = 0 then pl_w c l n L may L 0 else pl_w c l n L may (L - ln_e l pl n) (pl_p l n - 1)) = if bl_all (fun x => (may x).testBit 0) (ln_e l pl n) (L - ln_e l pl n) = true then 1 else 0 := by
        by_cases h0 : n = 0
        · subst h0
          rw [if_pos rfl]
          have := pl_w_tail (c := c) (l := l) (n := 0) (may := may) L (Nat.le_refl L)
          rw [show L - L = 0 by omega] at this
          exact this
        · rw [if_neg h0, pl_w_last hl (by omega) _ (by omega), show L - (L - ln_e l pl n) = ln_e l pl n by omega]
      rw [hw]
      have hb : ln_P c l n L may pl = (ln_pre c l L may pl n && bl_all (fun x => (may x).testBit 0) (ln_e l pl n) (L - ln_e l pl n)) := by
        rw [Bool.eq_iff_iff]
        unfold ln_P ln_pre ln_fits
        simp only [Bool.and_eq_true, decide_eq_true_eq, bl_all_iff]
        constructor
        · rintro ⟨h1, h2⟩
          refine ⟨⟨h2, fun x _ x2 => h1 x (by omega)⟩, fun x x1 x2 => ?_⟩
          have := h1 x (by omega)
          rw [ln_fil_hi n x hord x1] at this
          exact this
        · rintro ⟨⟨h1, h2⟩, h3⟩
          refine ⟨fun x hx => ?_, h1⟩
          by_cases g : x < ln_e l pl n
          · exact h2 x (Nat.zero_le _) (by omega)
          · rw [ln_fil_hi n x hord (by omega)]; exact h3 x (by omega) (by omega)
      rw [hb]
      cases ln_pre c l L may pl n <;> simp
    · have h1 : ln_P c l n L may pl = false := by unfold ln_P; rw [decide_eq_false he, Bool.and_false]
      have h2 : ln_pre c l L may pl n = false := by unfold ln_pre; rw [decide_eq_false he, Bool.false_and]
      rw [h1, h2]
      rfl
  | succ k ih =>
    intro r pl hn hord
    show ln_sum _ (ln_fst c l pl r) (L + 1 - ln_fst c l pl r) = _
    have e1 : ∀ x, ln_fst c l pl r ≤ x → ln_N c l L (ln_P c l n L may) k (r + 1) (va_up pl r x) = if ln_pre c l L may pl r = true then (if (bl_all (fun y => (may y).testBit 0) (ln_e l pl r) (x - ln_e l pl r) && pl_rf c l L may r x) = true then pl_w c l n L may (L - (x + l r)) (pl_p l r + l r) else 0) else 0 := by
      intro x hx
      have e : ln_e l (va_up pl r x) (r + 1) = x + l r := by simp [ln_e, va_up]
      rw [ih (r + 1) (va_up pl r x) (by omega) (fun i hi => ?_), ln_pre_up hord hx, if_neg (show ¬ r + 1 = 0 by omega), e, show pl_p l (r + 1) - 1 = pl_p l r + l r from rfl]
      · cases ln_pre c l L may pl r <;> simp
      · by_cases h : i = r
        · subst h
          rw [va_up_s, ln_fst_congr (pl' := pl) (fun j hj => va_up_n _ _ (by omega))]
          exact hx
        · rw [va_up_n _ _ h, ln_fst_congr (pl' := pl) (fun j hj => va_up_n _ _ (by omega))]
          exact hord i (by omega)
    rw [ln_sum_congr _ _ (fun x x1 _ => e1 x x1)]
    cases hp : ln_pre c l L may pl r with
    | false =>
      rw [if_neg (by decide), ln_sum_zero]
      intro x _ _
      rw [if_neg (by decide)]
    | true =>
      rw [if_pos rfl]
      have he : ln_e l pl r ≤ L := by
        unfold ln_pre at hp
        simp only [Bool.and_eq_true, decide_eq_true_eq] at hp
        exact hp.1
      rw [ln_sum_congr _ _ (fun x _ _ => if_pos rfl)]
      by_cases h0 : r = 0
      · subst h0
        have e0 : ln_e l pl 0 = 0 := rfl
        have e2 : ln_fst c l pl 0 = 0 := rfl
        rw [if_pos rfl, e0, e2]
        exact (pl_w_gap (c := c) (may := may) hl (show 0 < n by omega) L 0 (by omega)).symm
      · rw [if_neg h0, pl_w_next hl (by omega) (by omega) (show ln_e l pl r + (L - ln_e l pl r) = L by omega)]
        rfl
theorem ln_W_pl (hl : ∀ i, i < n → 1 ≤ l i) : ln_W c l n L may = pl_w c l n L may L 0 := by
  unfold ln_W
  rw [ln_N_pl hl n 0 _ (by omega) (fun i hi => by omega), if_pos rfl]
  unfold ln_pre
  rw [show ln_e l (fun _ => 0) 0 = 0 from rfl, decide_eq_true (Nat.zero_le _)]
  exact if_pos rfl
/-- one with v at cell k is one where cell k's set is cut to v -/
theorem ln_Wk_cut {k v : Nat} (hk : k < L) (hv : v ≤ 3) (hc : ∀ i, i < n → c i ≤ 3) (hm : may k < 16) : ln_Wk c l n L may k v = ln_W c l n L (va_up may k (may k &&& 1 <<< v)) := by
  unfold ln_Wk ln_W
  congr 1
  funext pl
  unfold ln_Pk
  rw [Bool.eq_iff_iff]
  unfold ln_P ln_fits
  simp only [Bool.and_eq_true, decide_eq_true_eq]
  have hb : ∀ f, f ≤ 3 → ((may k &&& 1 <<< v).testBit f = true ↔ (may k).testBit f = true ∧ f = v) := by
    intro f hf
    have key : ∀ a, a < 16 → ∀ v, v ≤ 3 → ∀ f, f ≤ 3 → ((a &&& 1 <<< v).testBit f = true ↔ a.testBit f = true ∧ f = v) := by decide +kernel
    exact key _ hm v hv f hf
  have hf := ln_fil_le (pl := pl) (l := l) hc n k (Nat.le_refl _)
  constructor
  · rintro ⟨⟨h1, h2⟩, h3⟩
    refine ⟨fun x hx => ?_, h2⟩
    by_cases g : x = k
    · subst g; rw [va_up_s, hb _ hf]; exact ⟨h1 x hx, h3⟩
    · rw [va_up_n _ _ g]; exact h1 x hx
  · rintro ⟨h1, h2⟩
    have h3 := h1 k hk
    rw [va_up_s, hb _ hf] at h3
    refine ⟨⟨fun x hx => ?_, h2⟩, h3.2⟩
    by_cases g : x = k
    · subst g; exact h3.1
    · have := h1 x hx
      rw [va_up_n _ _ g] at this
      exact this
end
