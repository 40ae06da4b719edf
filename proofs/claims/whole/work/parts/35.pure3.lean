/-! PURE: a step of a line, a round, settling; by the model's arrays (wide 1, high 2, runMany 5, runColour 6, runLength 7) -/
def ln_K (c l : Nat → Nat) (n L : Nat) (may : Nat → Nat) (k : Nat) : Nat := (if 0 < ln_Wk c l n L may k 0 then 1 else 0) + (if 0 < ln_Wk c l n L may k 1 then 2 else 0) + (if 0 < ln_Wk c l n L may k 2 then 4 else 0) + (if 0 < ln_Wk c l n L may k 3 then 8 else 0)
theorem ln_K_lt (c l : Nat → Nat) (n L : Nat) (may : Nat → Nat) (k : Nat) : ln_K c l n L may k < 16 := by
  unfold ln_K
  split <;> split <;> split <;> split <;> omega
theorem ln_bits4 {a b : Nat} (ha : a < 16) (hb : b < 16) (h : ∀ v, v < 4 → a.testBit v = b.testBit v) : a = b := by
  have key : ∀ a, a < 16 → ∀ b, b < 16 → ((a.testBit 0 = b.testBit 0 ∧ a.testBit 1 = b.testBit 1 ∧ a.testBit 2 = b.testBit 2 ∧ a.testBit 3 = b.testBit 3) → a = b) := by decide +kernel
  exact key a ha b hb ⟨h 0 (by decide), h 1 (by decide), h 2 (by decide), h 3 (by decide)⟩
theorem ln_K_bit (c l : Nat → Nat) (n L : Nat) (may : Nat → Nat) (k : Nat) {v : Nat} (hv : v < 4) : (ln_K c l n L may k).testBit v = decide (0 < ln_Wk c l n L may k v) := by
  unfold ln_K
  have key : ∀ x0 x1 x2 x3 : Bool, ∀ v, v < 4 → ((if x0 = true then 1 else 0) + (if x1 = true then 2 else 0) + (if x2 = true then 4 else 0) + (if x3 = true then 8 else 0)).testBit v = (if v = 0 then x0 else if v = 1 then x1 else if v = 2 then x2 else x3) := by decide +kernel
  have h := key (decide (0 < ln_Wk c l n L may k 0)) (decide (0 < ln_Wk c l n L may k 1)) (decide (0 < ln_Wk c l n L may k 2)) (decide (0 < ln_Wk c l n L may k 3)) v hv
  simp only [decide_eq_true_eq] at h
  rw [h]
  rcases (show v = 0 ∨ v = 1 ∨ v = 2 ∨ v = 3 by omega) with rfl | rfl | rfl | rfl <;> rfl
theorem ln_cnt_K {c l : Nat → Nat} {n L : Nat} {may : Nat → Nat} {many : Nat} {got : Nat → Nat} (h : ln_cnt c l n L may many got (fun _ => 0)) : many = ln_W c l n L may ∧ ∀ k, k < L → got k = ln_K c l n L may k := by
  refine ⟨h.1, fun k hk => ln_bits4 (h.2 k hk).1 (ln_K_lt _ _ _ _ _ _) (fun v hv => ?_)⟩
  obtain ⟨t, t1, t2⟩ := (h.2 k hk).2 v
  rw [ln_K_bit _ _ _ _ _ _ hv]
  have ht : t = ln_Wk c l n L may k v := t1
  rw [← ht]
  cases hb : (got k).testBit v
  · rw [hb] at t2
    exact (decide_eq_false (fun g => by have := t2.mpr g; cases this)).symm
  · exact (decide_eq_true (t2.mp hb)).symm
/-- W and K see the sets of the line's own cells alone -/
theorem ln_fits_congr {may may' : Nat → Nat} {L : Nat} (h : ∀ k, k < L → may k = may' k) (f : Nat → Nat) : ln_fits may L f = ln_fits may' L f := by
  unfold ln_fits
  congr 1
  apply propext
  exact ⟨fun g k hk => by rw [← h k hk]; exact g k hk, fun g k hk => by rw [h k hk]; exact g k hk⟩
theorem ln_P_may {c l : Nat → Nat} {n L : Nat} {may may' : Nat → Nat} (h : ∀ k, k < L → may k = may' k) : ln_P c l n L may = ln_P c l n L may' := by
  funext pl
  unfold ln_P
  rw [ln_fits_congr h]
theorem ln_W_may {c l : Nat → Nat} {n L : Nat} {may may' : Nat → Nat} (h : ∀ k, k < L → may k = may' k) : ln_W c l n L may = ln_W c l n L may' := by
  unfold ln_W
  rw [ln_P_may h]
theorem ln_Wk_may {c l : Nat → Nat} {n L : Nat} {may may' : Nat → Nat} (h : ∀ k, k < L → may k = may' k) (k v : Nat) : ln_Wk c l n L may k v = ln_Wk c l n L may' k v := by
  unfold ln_Wk
  have : ln_Pk c l n L may k v = ln_Pk c l n L may' k v := by
    funext pl
    unfold ln_Pk
    rw [ln_P_may h]
  rw [this]
theorem ln_K_may {c l : Nat → Nat} {n L : Nat} {may may' : Nat → Nat} (h : ∀ k, k < L → may k = may' k) (k : Nat) : ln_K c l n L may k = ln_K c l n L may' k := by
  unfold ln_K
  rw [ln_Wk_may h, ln_Wk_may h, ln_Wk_may h, ln_Wk_may h]
/-- how many of 0 .. 3 a set has -/
def ln_pop (a : Nat) : Nat := (a >>> 0 &&& 1) + (a >>> 1 &&& 1) + (a >>> 2 &&& 1) + (a >>> 3 &&& 1)
/-- a without b -/
def ln_df (a b : Nat) : Nat := a &&& (15 ^^^ b)
theorem ln_df_i {a b : Nat} (ha : a < 16) (hb : b < 16) : nI a &&& (nI b ^^^ (-1)) = nI (ln_df a b) := by
  have key : ∀ a, a < 16 → ∀ b, b < 16 → nI a &&& (nI b ^^^ (-1)) = nI (ln_df a b) := by decide +kernel
  exact key a ha b hb
theorem ln_df_lt {a b : Nat} (ha : a < 16) (hb : b < 16) : ln_df a b < 16 := by
  have key : ∀ a, a < 16 → ∀ b, b < 16 → ln_df a b < 16 := by decide +kernel
  exact key a ha b hb
theorem ln_pop_df {a b : Nat} (ha : a < 16) (hb : b < 16) : ln_pop (a &&& b) + ln_pop (ln_df a b) = ln_pop a := by
  have key : ∀ a, a < 16 → ∀ b, b < 16 → ln_pop (a &&& b) + ln_pop (ln_df a b) = ln_pop a := by decide +kernel
  exact key a ha b hb
theorem ln_pop_le {a : Nat} (ha : a < 16) : ln_pop a ≤ 4 := by
  have key : ∀ a, a < 16 → ln_pop a ≤ 4 := by decide +kernel
  exact key a ha
def pz_c (A : md_A) (p ln : Nat) : Nat → Nat := fun i => A 6 (10 * (20 * p + ln) + i)
def pz_l (A : md_A) (p ln : Nat) : Nat → Nat := fun i => A 7 (10 * (20 * p + ln) + i)
def pz_n (A : md_A) (p ln : Nat) : Nat := A 5 (20 * p + ln)
def pz_L (A : md_A) (p ln : Nat) : Nat := if ln < A 2 p then A 1 p else A 2 p
def pz_cell (A : md_A) (p ln : Nat) : Nat → Nat := ln_cell (A 1 p) (A 2 p) ln
def pz_W (A : md_A) (p ln : Nat) (S : Nat → Nat) : Nat := ln_W (pz_c A p ln) (pz_l A p ln) (pz_n A p ln) (pz_L A p ln) (fun j => S (pz_cell A p ln j))
def pz_K (A : md_A) (p ln : Nat) (S : Nat → Nat) (k : Nat) : Nat := ln_K (pz_c A p ln) (pz_l A p ln) (pz_n A p ln) (pz_L A p ln) (fun j => S (pz_cell A p ln j)) k
/-- k cells of a line by their new sets -/
def pz_F (f0 : Nat → Nat) (o : Nat) (cell new : Nat → Nat) : Nat → (Nat → Nat)
  | 0 => f0
  | k + 1 => va_up (pz_F f0 o cell new k) (o + cell k) (new k)
def pz_new (A : md_A) (p ln : Nat) (S : Nat → Nat) (k : Nat) : Nat := S (pz_cell A p ln k) &&& pz_K A p ln S k
def pz_stp (A : md_A) (p ln : Nat) (S : Nat → Nat) : Nat → Nat := pz_F S 0 (pz_cell A p ln) (pz_new A p ln S) (pz_L A p ln)
def pz_gn (A : md_A) (p ln : Nat) (S : Nat → Nat) : Nat → Nat
  | 0 => 0
  | k + 1 => pz_gn A p ln S k + ln_pop (ln_df (S (pz_cell A p ln k)) (pz_K A p ln S k))
def pz_gone (A : md_A) (p ln : Nat) (S : Nat → Nat) : Nat := pz_gn A p ln S (pz_L A p ln)
theorem pz_F_off (f0 : Nat → Nat) (o : Nat) (cell new : Nat → Nat) : ∀ (k x : Nat), pz_F f0 o cell new k (o + x) = pz_F (fun x => f0 (o + x)) 0 cell new k x := by
  intro k
  induction k with
  | zero => intro x; rfl
  | succ k ih =>
    intro x
    show va_up _ _ _ _ = va_up _ _ _ _
    unfold va_up
    by_cases h : x = cell k
    · rw [if_pos (by omega), if_pos (by omega)]
    · rw [if_neg (by omega), if_neg (by omega)]
      exact ih x
theorem pz_F_lt (f0 : Nat → Nat) (o : Nat) (cell new : Nat → Nat) : ∀ (k j : Nat), j < o → pz_F f0 o cell new k j = f0 j := by
  intro k
  induction k with
  | zero => intro x _; rfl
  | succ k ih =>
    intro x hx
    show va_up _ _ _ _ = _
    unfold va_up
    rw [if_neg (by omega)]
    exact ih x hx
theorem pz_F_no (f0 : Nat → Nat) (o : Nat) (cell new : Nat → Nat) : ∀ (k j : Nat), (∀ i, i < k → j ≠ o + cell i) → pz_F f0 o cell new k j = f0 j := by
  intro k
  induction k with
  | zero => intro x _; rfl
  | succ k ih =>
    intro x hx
    show va_up _ _ _ _ = _
    unfold va_up
    rw [if_neg (hx k (by omega))]
    exact ih x (fun i hi => hx i (by omega))
theorem pz_F_in (f0 : Nat → Nat) (o : Nat) (cell new : Nat → Nat) : ∀ (k : Nat), (∀ i j, i < k → j < k → cell i = cell j → i = j) → ∀ i, i < k → pz_F f0 o cell new k (o + cell i) = new i := by
  intro k
  induction k with
  | zero => intro _ i hi; omega
  | succ k ih =>
    intro hinj i hi
    show va_up _ _ _ _ = _
    unfold va_up
    by_cases h : i = k
    · subst h; rw [if_pos rfl]
    · have hne : cell i ≠ cell k := fun g => h (hinj i k hi (by omega) g)
      rw [if_neg (by omega)]
      exact ih (fun a b ha hb => hinj a b (by omega) (by omega)) i (by omega)
theorem ln_cell_inj {w h ln i j : Nat} (hi : i < if ln < h then w else h) (hj : j < if ln < h then w else h) (hw : ln < h ∨ 0 < w) (hl : ln < w + h) (e : ln_cell w h ln i = ln_cell w h ln j) : i = j := by
  unfold ln_cell at e
  by_cases g : ln < h
  · rw [if_pos g, if_pos g] at e
    omega
  · rw [if_neg g, if_neg g] at e
    have hw0 : 0 < w := by omega
    have e2 : i * w = j * w := by omega
    exact Nat.eq_of_mul_eq_mul_right hw0 e2
/-- a round: the first k lines; none if one of them is broken -/
def pz_rd (A : md_A) (p : Nat) : Nat → (Nat → Nat) → Option ((Nat → Nat) × Nat)
  | 0, S => some (S, 0)
  | k + 1, S => match pz_rd A p k S with
    | none => none
    | some (S1, g) => if pz_W A p k S1 = 0 then none else some (pz_stp A p k S1, g + pz_gone A p k S1)
/-- settling, f rounds at most -/
def pz_st (A : md_A) (p : Nat) : Nat → (Nat → Nat) → Option (Nat × (Nat → Nat))
  | 0, _ => none
  | f + 1, S => match pz_rd A p (A 1 p + A 2 p) S with
    | none => none
    | some (S1, g) => if g = 0 then some (0, S1) else match pz_st A p f S1 with
      | none => none
      | some (r, S2) => some (r + 1, S2)
