/-! PURE: bits of the walks, a step of the class's scan; at rest -/
theorem Bt.and {x y : Nat} {f g : Nat → Bool} (h : Bt x f) (k : Bt y g) : Bt (x &&& y) (fun q => f q && g q) := fun q => by rw [Nat.testBit_and, h q, k q]
theorem Bt.or {x y : Nat} {f g : Nat → Bool} (h : Bt x f) (k : Bt y g) : Bt (x ||| y) (fun q => f q || g q) := fun q => by rw [Nat.testBit_or, h q, k q]
theorem Bt.shl {x : Nat} {f : Nat → Bool} (h : Bt x f) (k : Nat) : Bt (x <<< k) (fun q => decide (k ≤ q) && f (q - k)) := fun q => by rw [Nat.testBit_shiftLeft, h (q - k)]
theorem Bt.shr {x : Nat} {f : Nat → Bool} (h : Bt x f) (k : Nat) : Bt (x >>> k) (fun q => f (q + k)) := fun q => by rw [Nat.testBit_shiftRight, h, Nat.add_comm]
theorem Bt.to {x : Nat} {f g : Nat → Bool} (h : Bt x f) (k : ∀ q, f q = g q) : Bt x g := fun q => (h q).trans (k q)
theorem Bt.one (v : Nat) : Bt (1 <<< v) (fun q => decide (q = v)) := fun q => by
  show (1 <<< v).testBit q = decide (q = v)
  rw [Nat.testBit_shiftLeft]
  by_cases h : q = v
  · subst h; simp
  · by_cases h2 : v ≤ q
    · have h3 : q - v ≠ 0 := by omega
      rw [decide_eq_true h2, decide_eq_false h, Bool.true_and, ← Bool.not_eq_true, Nat.testBit_one_eq_true_iff_self_eq_zero]
      exact h3
    · rw [decide_eq_false (show ¬ q ≥ v from h2), decide_eq_false h]; rfl
section
variable {c l : Nat → Nat} {n L : Nat} {may : Nat → Nat}
/-- one cell further -/
theorem pl_fwd {x g j p i : Nat} (hx : Bt x (fun q => decide (0 < pl_c c l n may i q))) (hg : Bt g (pl_gap l n)) (hj : Bt j (pl_jmp c l n)) (hp : Bt p (pl_ok c l n may i)) : Bt ((((x <<< 1) ||| (x &&& g)) ||| ((x &&& j) <<< 2)) &&& p) (fun q => decide (0 < pl_c c l n may (i + 1) q)) := by
  refine ((((hx.shl 1).or (hx.and hg)).or ((hx.and hj).shl 2)).and hp).to (fun q => ?_)
  rw [Bool.eq_iff_iff]
  simp only [Bool.and_eq_true, Bool.or_eq_true, decide_eq_true_eq]
  show _ ↔ 0 < au_c _ _ _ (i + 1) q
  rw [au_c_pos]
  constructor
  · rintro ⟨(⟨h1, h2⟩ | ⟨h1, h2⟩) | ⟨h1, h2, h3⟩, hok⟩
    · exact ⟨hok, Or.inl ⟨h1, h2⟩⟩
    · exact ⟨hok, Or.inr (Or.inl ⟨h2, h1⟩)⟩
    · exact ⟨hok, Or.inr (Or.inr ⟨h1, h3, h2⟩)⟩
  · rintro ⟨hok, ⟨h1, h2⟩ | ⟨h1, h2⟩ | ⟨h1, h2, h3⟩⟩
    · exact ⟨Or.inl (Or.inl ⟨h1, h2⟩), hok⟩
    · exact ⟨Or.inl (Or.inr ⟨h2, h1⟩), hok⟩
    · exact ⟨Or.inr ⟨h1, h3, h2⟩, hok⟩
theorem pl_fst : Bt 1 (fun q => decide (0 < pl_c c l n may 0 q)) := (Bt.one 0).to (fun q => by
  rw [Bool.eq_iff_iff, decide_eq_true_eq, decide_eq_true_eq]
  show q = 0 ↔ 0 < (if q = 0 then 1 else 0)
  by_cases h : q = 0
  · rw [if_pos h]; exact ⟨fun _ => by decide, fun _ => h⟩
  · rw [if_neg h]; exact ⟨fun g => absurd g h, fun g => absurd g (by decide)⟩)
theorem pl_last {x e : Nat} (hx : Bt x (fun q => decide (0 < pl_c c l n may L q))) (he : Bt e (pl_end l n)) : Bt (x &&& e) (pl_at c l n L may L) := (hx.and he).to (fun q => (au_at_end (gap := pl_gap l n) (jmp := pl_jmp c l n) (en := pl_end l n) (ok := pl_ok c l n may) (L := L) (q := q)).symm)
/-- one cell back -/
theorem pl_bwd {y g j r i : Nat} (hi : i < L) (hy : Bt y (pl_at c l n L may (i + 1))) (hg : Bt g (pl_gap l n)) (hj : Bt j (pl_jmp c l n)) (hr : Bt r (fun q => decide (0 < pl_c c l n may i q))) : Bt ((((y >>> 1) ||| (y &&& g)) ||| ((y >>> 2) &&& j)) &&& r) (pl_at c l n L may i) := by
  refine ((((hy.shr 1).or (hy.and hg)).or ((hy.shr 2).and hj)).and hr).to (fun q => ?_)
  refine Eq.trans ?_ (au_at_back (gap := pl_gap l n) (jmp := pl_jmp c l n) (en := pl_end l n) (ok := pl_ok c l n may) (L := L) (q := q) hi).symm
  rw [Bool.and_comm]
  congr 1
  show ((pl_at c l n L may (i + 1) (q + 1) || (pl_at c l n L may (i + 1) q && pl_gap l n q)) || (pl_at c l n L may (i + 1) (q + 2) && pl_jmp c l n q)) = ((pl_at c l n L may (i + 1) (q + 1) || (pl_gap l n q && pl_at c l n L may (i + 1) q)) || (pl_jmp c l n q && pl_at c l n L may (i + 1) (q + 2)))
  rw [Bool.and_comm (pl_at c l n L may (i + 1) q), Bool.and_comm (pl_at c l n L may (i + 1) (q + 2))]
theorem pl_at_ok {i q : Nat} (h : pl_at c l n L may (i + 1) q = true) : pl_ok c l n may i q = true := (au_c_pos.mp (of_decide_eq_true h).1).1
theorem pl_at_le {i q : Nat} (h : pl_at c l n L may i q = true) : q ≤ pl_p l n := by
  rcases Nat.lt_or_ge (pl_p l n) q with g | g
  · have h2 := (of_decide_eq_true h).1
    rw [au_c_hi (gap := pl_gap l n) (jmp := pl_jmp c l n) (pl_hi (c := c) (may := may)) (by omega) (i := i) (show pl_p l n + 1 ≤ q by omega)] at h2
    omega
  · exact g
theorem pl_c_le {i q : Nat} (h : 0 < pl_c c l n may i q) : q ≤ pl_p l n := by
  rcases Nat.lt_or_ge (pl_p l n) q with g | g
  · have h2 : 0 < au_c (pl_gap l n) (pl_jmp c l n) (pl_ok c l n may) i q := h
    rw [au_c_hi (gap := pl_gap l n) (jmp := pl_jmp c l n) (pl_hi (c := c) (may := may)) (by omega) (i := i) (show pl_p l n + 1 ≤ q by omega)] at h2
    omega
  · exact g
theorem pl_c_lt {x i : Nat} (hx : Bt x (fun q => decide (0 < pl_c c l n may i q))) (hp : pl_p l n ≤ 20) : x < 2 ^ 21 := Bt_lt hx (fun q hq => decide_eq_false (fun h => by have := pl_c_le h; omega))
theorem pl_at_lt {x i : Nat} (hx : Bt x (pl_at c l n L may i)) (hp : pl_p l n ≤ 20) : x < 2 ^ 21 := Bt_lt hx (fun q hq => by
  rw [← Bool.not_eq_true]
  intro h
  have := pl_at_le h
  omega)
/-- the places of a set -/
def pl_of (c l : Nat → Nat) (n s q : Nat) : Bool := decide (q ≤ pl_p l n) && s.testBit (pl_col c l n q)
theorem pl_of_ne {y w p : Nat} (hp : Bt p (pl_of c l n (1 <<< w))) : ¬ y &&& p = 0 ↔ ∃ q, y.testBit q = true ∧ q ≤ pl_p l n ∧ pl_col c l n q = w := by
  have hb : Bt (y &&& p) (fun q => y.testBit q && pl_of c l n (1 <<< w) q) := fun q => by rw [Nat.testBit_and, hp q]
  show y &&& p ≠ 0 ↔ _
  rw [Bt_ne hb]
  constructor
  · rintro ⟨q, h⟩
    rw [Bool.and_eq_true] at h
    have h2 := h.2
    unfold pl_of at h2
    rw [Bool.and_eq_true, decide_eq_true_eq, Bt.one w, decide_eq_true_eq] at h2
    exact ⟨q, h.1, h2.1, h2.2⟩
  · rintro ⟨q, h1, h2, h3⟩
    refine ⟨q, ?_⟩
    rw [Bool.and_eq_true]
    refine ⟨h1, ?_⟩
    unfold pl_of
    rw [Bool.and_eq_true, decide_eq_true_eq, Bt.one w, decide_eq_true_eq]
    exact ⟨h2, h3⟩
/-- what the class keeps of a cell is what is kept -/
theorem pl_kept (hl : ∀ i, i < n → 1 ≤ l i) (hc : ∀ i, i < n → c i ≤ 3) {i k y : Nat} (hi : i < L) (hm : may i < 16) (hk : k < 16) (hy : Bt y (pl_at c l n L may (i + 1))) (hb : ∀ w, w < 4 → (k.testBit w = true ↔ ∃ q, y.testBit q = true ∧ q ≤ pl_p l n ∧ pl_col c l n q = w)) : k = ln_K c l n L may i := by
  refine ln_bits4 hk (ln_K_lt c l n L may i) (fun v hv => ?_)
  rw [Bool.eq_iff_iff, hb v hv, pl_K_bit hl hc hi hv hm]
  constructor
  · rintro ⟨q, h1, h2, h3⟩
    exact ⟨q, by rw [← hy q]; exact h1, h3⟩
  · rintro ⟨q, h1, h3⟩
    exact ⟨q, by rw [hy q]; exact h1, pl_at_le h1, h3⟩
/-- a step's own sets leave the same places over -/
theorem pl_at_cut (hl : ∀ i, i < n → 1 ≤ l i) (hc : ∀ i, i < n → c i ≤ 3) (hm : ∀ i, i < L → may i < 16) {may' : Nat → Nat} (h' : ∀ i, i < L → may' i = may i &&& ln_K c l n L may i) : ∀ i, i ≤ L → ∀ q, pl_at c l n L may' i q = pl_at c l n L may i q := by
  have hcol : ∀ m q, (∀ i, i < m → c i ≤ 3) → pl_col c l m q ≤ 3 := by
    intro m
    induction m with
    | zero => intro q _; exact Nat.zero_le _
    | succ m ih =>
      intro q hq
      show (if _ then c m else pl_col c l m q) ≤ 3
      split
      · exact hq m (by omega)
      · exact ih q (fun i h => hq i (by omega))
  have hsub : ∀ i q, i < L → pl_ok c l n may' i q = true → pl_ok c l n may i q = true := by
    intro i q hi h
    unfold pl_ok at h ⊢
    rw [Bool.and_eq_true] at h ⊢
    refine ⟨h.1, ?_⟩
    have h2 := h.2
    rw [h' i hi, Nat.testBit_and, Bool.and_eq_true] at h2
    exact h2.1
  have hin : ∀ i q, i < L → pl_at c l n L may (i + 1) q = true → pl_ok c l n may' i q = true := by
    intro i q hi h
    have h2 := pl_at_ok h
    unfold pl_ok at h2 ⊢
    rw [Bool.and_eq_true] at h2 ⊢
    refine ⟨h2.1, ?_⟩
    rw [h' i hi, Nat.testBit_and, Bool.and_eq_true]
    exact ⟨h2.2, (pl_K_bit hl hc hi (by have := hcol n q hc; omega) (hm i hi)).mpr ⟨q, h, rfl⟩⟩
  -- fewer ways
  have c1 : ∀ i, i ≤ L → ∀ q, 0 < pl_c c l n may' i q → 0 < pl_c c l n may i q := by
    intro i
    induction i with
    | zero => intro _ q h; exact h
    | succ i ih =>
      intro hi q h
      have h2 := au_c_pos.mp (show 0 < au_c _ _ _ (i + 1) q from h)
      refine (au_c_pos.mpr ⟨hsub i q (by omega) h2.1, ?_⟩ : 0 < au_c _ _ _ (i + 1) q)
      rcases h2.2 with ⟨a, b⟩ | ⟨a, b⟩ | ⟨a, b, d⟩
      · exact Or.inl ⟨a, ih (by omega) _ b⟩
      · exact Or.inr (Or.inl ⟨a, ih (by omega) _ b⟩)
      · exact Or.inr (Or.inr ⟨a, b, ih (by omega) _ d⟩)
  have w1 : ∀ d, d ≤ L → ∀ q, 0 < pl_w c l n L may' d q → 0 < pl_w c l n L may d q := by
    intro d
    induction d with
    | zero => intro _ q h; exact h
    | succ d ih =>
      intro hd q h
      have h2 := au_w_pos.mp (show 0 < au_w _ _ _ _ L (d + 1) q from h)
      refine (au_w_pos.mpr ?_ : 0 < au_w _ _ _ _ L (d + 1) q)
      rcases h2 with ⟨a, b⟩ | ⟨a, b, e⟩ | ⟨a, b, e⟩
      · exact Or.inl ⟨hsub _ _ (by omega) a, ih (by omega) _ b⟩
      · exact Or.inr (Or.inl ⟨a, hsub _ _ (by omega) b, ih (by omega) _ e⟩)
      · exact Or.inr (Or.inr ⟨a, hsub _ _ (by omega) b, ih (by omega) _ e⟩)
  -- but none is lost that is left over
  have c2 : ∀ i, i ≤ L → ∀ q, pl_at c l n L may i q = true → 0 < pl_c c l n may' i q := by
    intro i
    induction i with
    | zero => intro _ q h; exact (of_decide_eq_true h).1
    | succ i ih =>
      intro hi q h
      obtain ⟨h1, h2⟩ := of_decide_eq_true h
      obtain ⟨h3, h4⟩ := au_c_pos.mp h1
      have hk : ∀ q0, 0 < au_c (pl_gap l n) (pl_jmp c l n) (pl_ok c l n may) i q0 → 0 < au_w (pl_gap l n) (pl_jmp c l n) (pl_end l n) (pl_ok c l n may) L (L - i) q0 → pl_at c l n L may i q0 = true := fun q0 a b => decide_eq_true ⟨a, b⟩
      have hd : L - i = (L - (i + 1)) + 1 := by omega
      have hL : L - (L - (i + 1) + 1) = i := by omega
      refine (au_c_pos.mpr ⟨hin i q (by omega) h, ?_⟩ : 0 < au_c _ _ _ (i + 1) q)
      rcases h4 with ⟨a, b⟩ | ⟨a, b⟩ | ⟨a, b, d⟩
      · refine Or.inl ⟨a, ih (by omega) _ (hk _ b ?_)⟩
        rw [hd, au_w_pos, hL]
        exact Or.inl ⟨by rw [show q - 1 + 1 = q by omega]; exact h3, by rw [show q - 1 + 1 = q by omega]; exact h2⟩
      · refine Or.inr (Or.inl ⟨a, ih (by omega) _ (hk _ b ?_)⟩)
        rw [hd, au_w_pos, hL]
        exact Or.inr (Or.inl ⟨a, h3, h2⟩)
      · refine Or.inr (Or.inr ⟨a, b, ih (by omega) _ (hk _ d ?_)⟩)
        rw [hd, au_w_pos, hL]
        exact Or.inr (Or.inr ⟨b, by rw [show q - 2 + 2 = q by omega]; exact h3, by rw [show q - 2 + 2 = q by omega]; exact h2⟩)
  have w2 : ∀ d, d ≤ L → ∀ q, pl_at c l n L may (L - d) q = true → 0 < pl_w c l n L may' d q := by
    intro d
    induction d with
    | zero =>
      intro _ q h
      have h2 := (of_decide_eq_true h).2
      rw [show L - (L - 0) = 0 by omega] at h2
      exact h2
    | succ d ih =>
      intro hd q h
      have hL : L - (d + 1) + 1 = L - d := by omega
      have hb := au_at_back (gap := pl_gap l n) (jmp := pl_jmp c l n) (en := pl_end l n) (ok := pl_ok c l n may) (L := L) (i := L - (d + 1)) (q := q) (by omega)
      rw [show au_at (pl_gap l n) (pl_jmp c l n) (pl_end l n) (pl_ok c l n may) L (L - (d + 1)) q = true from h] at hb
      have hb := hb.symm
      rw [hL] at hb
      simp only [Bool.and_eq_true, Bool.or_eq_true] at hb
      have hin2 : ∀ q0, pl_at c l n L may (L - d) q0 = true → pl_ok c l n may' (L - (d + 1)) q0 = true := fun q0 g => hin _ q0 (by omega) (by rw [hL]; exact g)
      refine (au_w_pos.mpr ?_ : 0 < au_w _ _ _ _ L (d + 1) q)
      rcases hb.2 with (a | ⟨a, b⟩) | ⟨a, b⟩
      · exact Or.inl ⟨hin2 _ a, ih (by omega) _ a⟩
      · exact Or.inr (Or.inl ⟨a, hin2 _ b, ih (by omega) _ b⟩)
      · exact Or.inr (Or.inr ⟨a, hin2 _ b, ih (by omega) _ b⟩)
  intro i hi q
  rw [Bool.eq_iff_iff]
  constructor
  · intro h
    obtain ⟨h1, h2⟩ := of_decide_eq_true h
    exact decide_eq_true ⟨c1 i hi q h1, w1 (L - i) (by omega) q h2⟩
  · intro h
    exact decide_eq_true ⟨c2 i hi q h, w2 (L - i) (by omega) q (by rw [show L - (L - i) = i by omega]; exact h)⟩
/-- so a second step takes nothing -/
theorem ln_again (hl : ∀ i, i < n → 1 ≤ l i) (hc : ∀ i, i < n → c i ≤ 3) (hm : ∀ i, i < L → may i < 16) {may' : Nat → Nat} (h' : ∀ i, i < L → may' i = may i &&& ln_K c l n L may i) : (0 < ln_W c l n L may' ↔ 0 < ln_W c l n L may) ∧ ∀ i, i < L → ln_K c l n L may' i = ln_K c l n L may i := by
  have h := pl_at_cut hl hc hm h'
  refine ⟨?_, fun i hi => ?_⟩
  · rw [pl_W_pos hl (Nat.le_refl L), pl_W_pos hl (Nat.le_refl L)]
    constructor
    · rintro ⟨q, g⟩; exact ⟨q, by rw [← h L (Nat.le_refl L)]; exact g⟩
    · rintro ⟨q, g⟩; exact ⟨q, by rw [h L (Nat.le_refl L)]; exact g⟩
  · refine ln_bits4 (ln_K_lt c l n L may' i) (ln_K_lt c l n L may i) (fun v hv => ?_)
    have hlt : may' i < 16 := by rw [h' i hi]; exact Nat.lt_of_le_of_lt Nat.and_le_left (hm i hi)
    rw [Bool.eq_iff_iff, pl_K_bit hl hc hi hv hlt, pl_K_bit hl hc hi hv (hm i hi)]
    constructor
    · rintro ⟨q, g1, g2⟩; exact ⟨q, by rw [← h (i + 1) hi]; exact g1, g2⟩
    · rintro ⟨q, g1, g2⟩; exact ⟨q, by rw [h (i + 1) hi]; exact g1, g2⟩
end
