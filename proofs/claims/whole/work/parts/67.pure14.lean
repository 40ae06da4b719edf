/-! PURE: what the walks' bits say: reached, left over, kept -/
def Bt (x : Nat) (f : Nat → Bool) : Prop := ∀ q, x.testBit q = f q
def pl_c (c l : Nat → Nat) (n : Nat) (may : Nat → Nat) : Nat → Nat → Nat := au_c (pl_gap l n) (pl_jmp c l n) (pl_ok c l n may)
theorem Bt_lt {x k : Nat} {f : Nat → Bool} (h : Bt x f) (hf : ∀ q, k ≤ q → f q = false) : x < 2 ^ k := Nat.lt_pow_two_of_testBit x (fun i hi => (h i).trans (hf i hi))
theorem Bt_ne {x : Nat} {f : Nat → Bool} (h : Bt x f) : x ≠ 0 ↔ ∃ q, f q = true := by
  constructor
  · intro hx
    obtain ⟨q, hq⟩ := Nat.exists_testBit_of_ne_zero hx
    exact ⟨q, (h q).symm.trans hq⟩
  · rintro ⟨q, hq⟩ h0
    have := (h q).trans hq
    rw [h0, Nat.zero_testBit] at this
    cases this
section
variable {gap jmp en : Nat → Bool} {ok ok' : Nat → Nat → Bool} {L N : Nat}
theorem au_c_congr : ∀ i q, (∀ j q, j < i → ok j q = ok' j q) → au_c gap jmp ok i q = au_c gap jmp ok' i q := by
  intro i
  induction i with
  | zero => intro q _; rfl
  | succ i ih =>
    intro q h
    show (if ok i q = true then _ else 0) = if ok' i q = true then _ else 0
    rw [h i q (by omega), ih (q - 1) (fun j q hj => h j q (by omega)), ih q (fun j q hj => h j q (by omega)), ih (q - 2) (fun j q hj => h j q (by omega))]
theorem au_w_congr : ∀ d q, d ≤ L → (∀ j q, L - d ≤ j → ok j q = ok' j q) → au_w gap jmp en ok L d q = au_w gap jmp en ok' L d q := by
  intro d
  induction d with
  | zero => intro q _ _; rfl
  | succ d ih =>
    intro q hd h
    show (if ok (L - (d + 1)) (q + 1) = true then _ else 0) + (if _ ∧ ok (L - (d + 1)) q = true then _ else 0) + (if _ ∧ ok (L - (d + 1)) (q + 2) = true then _ else 0) = (if ok' (L - (d + 1)) (q + 1) = true then _ else 0) + (if _ ∧ ok' (L - (d + 1)) q = true then _ else 0) + (if _ ∧ ok' (L - (d + 1)) (q + 2) = true then _ else 0)
    rw [h _ (q + 1) (Nat.le_refl _), h _ q (Nat.le_refl _), h _ (q + 2) (Nat.le_refl _), ih (q + 1) (by omega) (fun j q hj => h j q (by omega)), ih q (by omega) (fun j q hj => h j q (by omega)), ih (q + 2) (by omega) (fun j q hj => h j q (by omega))]
theorem au_c_pos {i q : Nat} : 0 < au_c gap jmp ok (i + 1) q ↔ ok i q = true ∧ ((1 ≤ q ∧ 0 < au_c gap jmp ok i (q - 1)) ∨ (gap q = true ∧ 0 < au_c gap jmp ok i q) ∨ (2 ≤ q ∧ jmp (q - 2) = true ∧ 0 < au_c gap jmp ok i (q - 2))) := by
  show 0 < (if ok i q = true then _ else 0) ↔ _
  by_cases h : ok i q = true
  · rw [if_pos h]
    constructor
    · intro g
      refine ⟨h, ?_⟩
      by_cases g1 : 1 ≤ q ∧ 0 < au_c gap jmp ok i (q - 1)
      · exact Or.inl g1
      · by_cases g2 : gap q = true ∧ 0 < au_c gap jmp ok i q
        · exact Or.inr (Or.inl g2)
        · by_cases g3 : 2 ≤ q ∧ jmp (q - 2) = true ∧ 0 < au_c gap jmp ok i (q - 2)
          · exact Or.inr (Or.inr g3)
          · exfalso
            have e1 : (if 1 ≤ q then au_c gap jmp ok i (q - 1) else 0) = 0 := by
              by_cases k : 1 ≤ q
              · rw [if_pos k]; exact Nat.eq_zero_of_not_pos (fun z => g1 ⟨k, z⟩)
              · rw [if_neg k]
            have e2 : (if gap q = true then au_c gap jmp ok i q else 0) = 0 := by
              by_cases k : gap q = true
              · rw [if_pos k]; exact Nat.eq_zero_of_not_pos (fun z => g2 ⟨k, z⟩)
              · rw [if_neg k]
            have e3 : (if 2 ≤ q ∧ jmp (q - 2) = true then au_c gap jmp ok i (q - 2) else 0) = 0 := by
              by_cases k : 2 ≤ q ∧ jmp (q - 2) = true
              · rw [if_pos k]; exact Nat.eq_zero_of_not_pos (fun z => g3 ⟨k.1, k.2, z⟩)
              · rw [if_neg k]
            omega
    · rintro ⟨-, ⟨g1, g2⟩ | ⟨g1, g2⟩ | ⟨g1, g2, g3⟩⟩
      · rw [if_pos g1]; omega
      · rw [if_pos g1]; omega
      · rw [if_pos (c := 2 ≤ q ∧ _) ⟨g1, g2⟩]; omega
  · rw [if_neg h]
    exact ⟨fun g => absurd g (Nat.lt_irrefl 0), fun g => absurd g.1 h⟩
theorem au_w_pos {d q : Nat} : 0 < au_w gap jmp en ok L (d + 1) q ↔ (ok (L - (d + 1)) (q + 1) = true ∧ 0 < au_w gap jmp en ok L d (q + 1)) ∨ (gap q = true ∧ ok (L - (d + 1)) q = true ∧ 0 < au_w gap jmp en ok L d q) ∨ (jmp q = true ∧ ok (L - (d + 1)) (q + 2) = true ∧ 0 < au_w gap jmp en ok L d (q + 2)) := by
  show 0 < (if ok _ _ = true then _ else 0) + (if _ then _ else 0) + (if _ then _ else 0) ↔ _
  constructor
  · intro g
    by_cases g1 : ok (L - (d + 1)) (q + 1) = true ∧ 0 < au_w gap jmp en ok L d (q + 1)
    · exact Or.inl g1
    · by_cases g2 : gap q = true ∧ ok (L - (d + 1)) q = true ∧ 0 < au_w gap jmp en ok L d q
      · exact Or.inr (Or.inl g2)
      · by_cases g3 : jmp q = true ∧ ok (L - (d + 1)) (q + 2) = true ∧ 0 < au_w gap jmp en ok L d (q + 2)
        · exact Or.inr (Or.inr g3)
        · exfalso
          have e1 : (if ok (L - (d + 1)) (q + 1) = true then au_w gap jmp en ok L d (q + 1) else 0) = 0 := by
            by_cases k : ok (L - (d + 1)) (q + 1) = true
            · rw [if_pos k]; exact Nat.eq_zero_of_not_pos (fun z => g1 ⟨k, z⟩)
            · rw [if_neg k]
          have e2 : (if gap q = true ∧ ok (L - (d + 1)) q = true then au_w gap jmp en ok L d q else 0) = 0 := by
            by_cases k : gap q = true ∧ ok (L - (d + 1)) q = true
            · rw [if_pos k]; exact Nat.eq_zero_of_not_pos (fun z => g2 ⟨k.1, k.2, z⟩)
            · rw [if_neg k]
          have e3 : (if jmp q = true ∧ ok (L - (d + 1)) (q + 2) = true then au_w gap jmp en ok L d (q + 2) else 0) = 0 := by
            by_cases k : jmp q = true ∧ ok (L - (d + 1)) (q + 2) = true
            · rw [if_pos k]; exact Nat.eq_zero_of_not_pos (fun z => g3 ⟨k.1, k.2, z⟩)
            · rw [if_neg k]
          omega
  · rintro (⟨g1, g2⟩ | ⟨g1, g2, g3⟩ | ⟨g1, g2, g3⟩)
    · rw [if_pos g1]; omega
    · rw [if_pos (c := gap q = true ∧ _) ⟨g1, g2⟩]; omega
    · rw [if_pos (c := jmp q = true ∧ _) ⟨g1, g2⟩]; omega
/-- left over after i cells at place q: it is reached, and it can go on to an end -/
def au_at (gap jmp en : Nat → Bool) (ok : Nat → Nat → Bool) (L i q : Nat) : Bool := decide (0 < au_c gap jmp ok i q ∧ 0 < au_w gap jmp en ok L (L - i) q)
theorem au_at_back {i q : Nat} (hi : i < L) : au_at gap jmp en ok L i q = (decide (0 < au_c gap jmp ok i q) && (au_at gap jmp en ok L (i + 1) (q + 1) || (gap q && au_at gap jmp en ok L (i + 1) q) || (jmp q && au_at gap jmp en ok L (i + 1) (q + 2)))) := by
  have hd : L - i = (L - (i + 1)) + 1 := by omega
  have hL : L - (L - (i + 1) + 1) = i := by omega
  rw [Bool.eq_iff_iff]
  unfold au_at
  simp only [Bool.and_eq_true, Bool.or_eq_true, decide_eq_true_eq]
  rw [hd, au_w_pos, hL]
  constructor
  · rintro ⟨h1, ⟨g1, g2⟩ | ⟨g1, g2, g3⟩ | ⟨g1, g2, g3⟩⟩
    · exact ⟨h1, Or.inl (Or.inl ⟨au_c_pos.mpr ⟨g1, Or.inl ⟨by omega, by rw [Nat.add_sub_cancel]; exact h1⟩⟩, g2⟩)⟩
    · exact ⟨h1, Or.inl (Or.inr ⟨g1, au_c_pos.mpr ⟨g2, Or.inr (Or.inl ⟨g1, h1⟩)⟩, g3⟩)⟩
    · exact ⟨h1, Or.inr ⟨g1, au_c_pos.mpr ⟨g2, Or.inr (Or.inr ⟨by omega, by rw [Nat.add_sub_cancel]; exact ⟨g1, h1⟩⟩)⟩, g3⟩⟩
  · rintro ⟨h1, (⟨g1, g2⟩ | ⟨g1, g2, g3⟩) | ⟨g1, g2, g3⟩⟩
    · exact ⟨h1, Or.inl ⟨(au_c_pos.mp g1).1, g2⟩⟩
    · exact ⟨h1, Or.inr (Or.inl ⟨g1, (au_c_pos.mp g2).1, g3⟩)⟩
    · exact ⟨h1, Or.inr (Or.inr ⟨g1, (au_c_pos.mp g2).1, g3⟩)⟩
theorem au_at_end {q : Nat} : au_at gap jmp en ok L L q = (decide (0 < au_c gap jmp ok L q) && en q) := by
  rw [Bool.eq_iff_iff]
  unfold au_at
  simp only [Bool.and_eq_true, decide_eq_true_eq]
  rw [show L - L = 0 by omega]
  have : 0 < au_w gap jmp en ok L 0 q ↔ en q = true := by
    show 0 < (if en q = true then 1 else 0) ↔ _
    by_cases h : en q = true
    · rw [if_pos h]; exact ⟨fun _ => h, fun _ => by decide⟩
    · rw [if_neg h]; exact ⟨fun g => absurd g (by decide), fun g => absurd g h⟩
  rw [this]
theorem au_c_hi (hN : ∀ i q, N ≤ q → ok i q = false) (h0 : 0 < N) {i q : Nat} (hq : N ≤ q) : au_c gap jmp ok i q = 0 := by
  cases i with
  | zero => exact if_neg (by omega)
  | succ i => show (if ok i q = true then _ else 0) = 0; rw [hN i q hq]; exact if_neg (by decide)
end
section
variable {c l : Nat → Nat} {n L : Nat} {may : Nat → Nat}
def pl_at (c l : Nat → Nat) (n L : Nat) (may : Nat → Nat) : Nat → Nat → Bool := au_at (pl_gap l n) (pl_jmp c l n) (pl_end l n) (pl_ok c l n may) L
theorem pl_hi (i q : Nat) (h : pl_p l n + 1 ≤ q) : pl_ok c l n may i q = false := pl_ok_hi (by omega)
/-- there is a filling: some place is left over -/
theorem pl_W_pos (hl : ∀ i, i < n → 1 ≤ l i) {i : Nat} (hi : i ≤ L) : 0 < ln_W c l n L may ↔ ∃ q, pl_at c l n L may i q = true := by
  rw [ln_W_pl hl]
  unfold pl_w
  rw [au_pos (N := pl_p l n + 1) pl_hi (by omega) (show i + (L - i) = L by omega)]
  constructor
  · rintro ⟨q, h1, h2, h3⟩
    exact ⟨q, decide_eq_true ⟨h2, h3⟩⟩
  · rintro ⟨q, h⟩
    have h' := of_decide_eq_true h
    refine ⟨q, ?_, h'.1, h'.2⟩
    rcases Nat.lt_or_ge q (pl_p l n + 1) with g | g
    · exact g
    · have := au_c_hi (gap := pl_gap l n) (jmp := pl_jmp c l n) (pl_hi (c := c) (may := may)) (by omega) (i := i) g
      have h2 := h'.1
      omega
/-- colour v is kept at cell i: a place of colour v is left over there -/
theorem pl_K_bit (hl : ∀ i, i < n → 1 ≤ l i) (hc : ∀ i, i < n → c i ≤ 3) {i v : Nat} (hi : i < L) (hv : v < 4) (hm : may i < 16) : (ln_K c l n L may i).testBit v = true ↔ ∃ q, pl_at c l n L may (i + 1) q = true ∧ pl_col c l n q = v := by
  have hcol : ∀ m q, (∀ i, i < m → c i ≤ 3) → pl_col c l m q ≤ 3 := by
    intro m
    induction m with
    | zero => intro q _; exact Nat.zero_le _
    | succ m ih =>
      intro q hq
      show (if _ then c m else pl_col c l m q) ≤ 3
      split
      · exact hq m (by omega)
      · exact ih q (fun i h => hq i (by omega))
  have hb : ∀ f, f ≤ 3 → (may i &&& 1 <<< v).testBit f = ((may i).testBit f && decide (f = v)) := by
    intro f hf
    have key : ∀ a, a < 16 → ∀ v, v < 4 → ∀ f, f ≤ 3 → (a &&& 1 <<< v).testBit f = (a.testBit f && decide (f = v)) := by decide +kernel
    exact key _ hm v hv f hf
  rw [ln_K_bit _ _ _ _ _ _ hv, decide_eq_true_eq, ln_Wk_cut hi (by omega) hc hm, pl_W_pos hl (show i + 1 ≤ L by omega)]
  have hok : ∀ q, pl_ok c l n (va_up may i (may i &&& 1 <<< v)) i q = (pl_ok c l n may i q && decide (pl_col c l n q = v)) := by
    intro q
    unfold pl_ok
    rw [va_up_s, hb _ (hcol n q hc), Bool.and_assoc]
  have hok2 : ∀ j q, j ≠ i → pl_ok c l n (va_up may i (may i &&& 1 <<< v)) j q = pl_ok c l n may j q := by
    intro j q hj
    unfold pl_ok
    rw [va_up_n _ _ hj]
  have hat : ∀ q, pl_at c l n L (va_up may i (may i &&& 1 <<< v)) (i + 1) q = (pl_at c l n L may (i + 1) q && decide (pl_col c l n q = v)) := by
    intro q
    unfold pl_at au_at
    rw [au_w_congr (ok' := pl_ok c l n may) (L - (i + 1)) q (by omega) (fun j q hj => hok2 j q (by omega)), Bool.eq_iff_iff]
    simp only [Bool.and_eq_true, decide_eq_true_eq]
    have e : 0 < au_c (pl_gap l n) (pl_jmp c l n) (pl_ok c l n (va_up may i (may i &&& 1 <<< v))) (i + 1) q ↔ 0 < au_c (pl_gap l n) (pl_jmp c l n) (pl_ok c l n may) (i + 1) q ∧ pl_col c l n q = v := by
      rw [au_c_pos, au_c_pos, hok q, au_c_congr (ok' := pl_ok c l n may) i (q - 1) (fun j q hj => hok2 j q (by omega)), au_c_congr (ok' := pl_ok c l n may) i q (fun j q hj => hok2 j q (by omega)), au_c_congr (ok' := pl_ok c l n may) i (q - 2) (fun j q hj => hok2 j q (by omega)), Bool.and_eq_true, decide_eq_true_eq]
      constructor
      · rintro ⟨⟨a, b⟩, d⟩; exact ⟨⟨a, d⟩, b⟩
      · rintro ⟨⟨a, d⟩, b⟩; exact ⟨⟨a, b⟩, d⟩
    rw [e]
    constructor
    · rintro ⟨⟨a, b⟩, d⟩; exact ⟨⟨a, d⟩, b⟩
    · rintro ⟨⟨a, d⟩, b⟩; exact ⟨⟨a, b⟩, d⟩
  constructor
  · rintro ⟨q, hq⟩
    rw [hat, Bool.and_eq_true, decide_eq_true_eq] at hq
    exact ⟨q, hq⟩
  · rintro ⟨q, h1, h2⟩
    exact ⟨q, by rw [hat, Bool.and_eq_true, decide_eq_true_eq]; exact ⟨h1, h2⟩⟩
/-- the fillings, counted over the last places -/
theorem pl_W_sum (hl : ∀ i, i < n → 1 ≤ l i) : ln_W c l n L may = ln_sum (fun q => (if pl_end l n q = true then 1 else 0) * pl_c c l n may L q) 0 (pl_p l n + 1) := by
  rw [ln_W_pl hl]
  unfold pl_w
  rw [← au_all (N := pl_p l n + 1) (en := pl_end l n) pl_hi (by omega) L 0 (by omega)]
  refine ln_sum_congr _ _ (fun q _ _ => ?_)
  rw [Nat.mul_comm]
  rfl
/-- the chain is short -/
theorem pl_p_S (hl : ∀ i, i < n → 1 ≤ l i) : n ≤ ln_S c l n 0 ∧ pl_p l n ≤ ln_S c l n 0 + n := by
  have key : ∀ m, m ≤ n → m ≤ ln_S c l m 0 ∧ pl_p l m ≤ ln_S c l m 0 + m := by
    intro m
    induction m with
    | zero => intro _; exact ⟨Nat.le_refl _, Nat.le_refl _⟩
    | succ m ih =>
      intro hm
      have h1 := ih (by omega)
      have h2 := hl m (by omega)
      rw [ln_S_snoc, Nat.zero_add]
      have e : pl_p l (m + 1) = pl_p l m + l m + 1 := rfl
      omega
  exact key n (Nat.le_refl _)
end
