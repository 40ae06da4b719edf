/-! PURE: places see the runs there are; one run more -/
section
variable {c l c' l' : Nat → Nat}
theorem pl_p_cg : ∀ n, (∀ i, i < n → l i = l' i) → pl_p l n = pl_p l' n
  | 0, _ => rfl
  | n + 1, h => by
    show pl_p l n + l n + 1 = pl_p l' n + l' n + 1
    rw [pl_p_cg n (fun i hi => h i (by omega)), h n (by omega)]
theorem pl_gap_cg (q : Nat) : ∀ n, (∀ i, i < n → l i = l' i) → pl_gap l n q = pl_gap l' n q
  | 0, _ => rfl
  | n + 1, h => by
    show (pl_gap l n q || decide (q = pl_p l (n + 1))) = (pl_gap l' n q || decide (q = pl_p l' (n + 1)))
    rw [pl_gap_cg q n (fun i hi => h i (by omega)), pl_p_cg (n + 1) h]
theorem pl_jmp_cg (q : Nat) : ∀ n, (∀ i, i < n → c i = c' i ∧ l i = l' i) → pl_jmp c l n q = pl_jmp c' l' n q
  | 0, _ => rfl
  | n + 1, h => by
    show (pl_jmp c l n q || decide (0 < n ∧ c n ≠ c (n - 1) ∧ q + 1 = pl_p l n)) = (pl_jmp c' l' n q || decide (0 < n ∧ c' n ≠ c' (n - 1) ∧ q + 1 = pl_p l' n))
    rw [pl_jmp_cg q n (fun i hi => h i (by omega)), pl_p_cg n (fun i hi => (h i (by omega)).2), (h n (by omega)).1, (h (n - 1) (by omega)).1]
theorem pl_end_cg (q n : Nat) (h : ∀ i, i < n → l i = l' i) : pl_end l n q = pl_end l' n q := by
  unfold pl_end
  rw [pl_p_cg n h]
theorem pl_col_cg (q : Nat) : ∀ n, (∀ i, i < n → c i = c' i ∧ l i = l' i) → pl_col c l n q = pl_col c' l' n q
  | 0, _ => rfl
  | n + 1, h => by
    show (if pl_p l n < q ∧ q < pl_p l (n + 1) then c n else pl_col c l n q) = (if pl_p l' n < q ∧ q < pl_p l' (n + 1) then c' n else pl_col c' l' n q)
    rw [pl_col_cg q n (fun i hi => h i (by omega)), pl_p_cg n (fun i hi => (h i (by omega)).2), pl_p_cg (n + 1) (fun i hi => (h i hi).2), (h n (by omega)).1]
theorem ln_sp_cg {r : Nat} (h1 : c r = c' r) (h2 : 0 < r → c (r - 1) = c' (r - 1)) : ln_sp c r = ln_sp c' r := by
  unfold ln_sp
  by_cases h : r = 0
  · rw [if_pos h, if_pos h]
  · rw [if_neg h, if_neg h, h1, h2 (by omega)]
theorem ln_S_cg : ∀ n, (∀ i, i < n → c i = c' i ∧ l i = l' i) → ln_S c l n 0 = ln_S c' l' n 0
  | 0, _ => rfl
  | n + 1, h => by
    rw [ln_S_snoc, ln_S_snoc, Nat.zero_add, ln_S_cg n (fun i hi => h i (by omega)), (h n (by omega)).2, ln_sp_cg (h n (by omega)).1 (fun _ => (h (n - 1) (by omega)).1)]
theorem pl_of_cg (s q n : Nat) (h : ∀ i, i < n → c i = c' i ∧ l i = l' i) : pl_of c l n s q = pl_of c' l' n s q := by
  unfold pl_of
  rw [pl_p_cg n (fun i hi => (h i hi).2), pl_col_cg q n h]
variable {n k m : Nat}
theorem va_cg (f : Nat → Nat) (v : Nat) : ∀ i, i < n → f i = va_up f n v i := fun i hi => (va_up_n _ _ (by omega)).symm
theorem pl_p_app : pl_p (va_up l n m) (n + 1) = pl_p l n + m + 1 := by
  show pl_p (va_up l n m) n + va_up l n m n + 1 = _
  rw [va_up_s, ← pl_p_cg n (va_cg l m)]
theorem ln_S_app : ln_S (va_up c n k) (va_up l n m) (n + 1) 0 = ln_S c l n 0 + (if n = 0 then 0 else if k = c (n - 1) then 1 else 0) + m := by
  rw [ln_S_snoc, Nat.zero_add, va_up_s, ← ln_S_cg n (fun i hi => ⟨va_cg c k i hi, va_cg l m i hi⟩)]
  congr 2
  unfold ln_sp
  by_cases h : n = 0
  · rw [if_pos h, if_pos h]
  · rw [if_neg h, if_neg h, va_up_s, va_up_n _ _ (by omega)]
theorem Bt.three (x : Nat) : Bt (3 <<< x) (fun q => decide (q = x ∨ q = x + 1)) := fun q => by
  show (3 <<< x).testBit q = decide (q = x ∨ q = x + 1)
  rw [Nat.testBit_shiftLeft]
  by_cases h : x ≤ q
  · obtain ⟨d, rfl⟩ : ∃ d, q = x + d := ⟨q - x, by omega⟩
    rw [decide_eq_true (show x + d ≥ x by omega), Bool.true_and, show x + d - x = d by omega]
    match d with
    | 0 => simp
    | 1 => simp; decide
    | d + 2 =>
      rw [decide_eq_false (by omega)]
      exact Nat.testBit_lt_two_pow (Nat.lt_of_lt_of_le (show 3 < 2 ^ 2 by decide) (Nat.pow_le_pow_right (by decide) (by omega)))
  · rw [decide_eq_false (show ¬ q ≥ x by omega), decide_eq_false (by omega)]; rfl
theorem Lb.app {g j e : Nat} {P P' : Nat → Nat} {j' : Nat} (h : Lb c l n g j e P) (hj' : (0 < n ∧ c (n - 1) ≠ k ∧ j' = j ||| 1 <<< (pl_p l n - 1)) ∨ (¬ (0 < n ∧ c (n - 1) ≠ k) ∧ j' = j)) (hP : ∀ s, s < 16 → Bt (P' s) (fun q => (pl_of c l n s q || (decide (pl_p l n < q ∧ q ≤ pl_p l n + m) && s.testBit k)) || (decide (q = pl_p l n + m + 1) && s.testBit 0))) : Lb (va_up c n k) (va_up l n m) (n + 1) (g ||| 1 <<< (pl_p l n + m + 1)) j' (3 <<< (pl_p l n + m)) P' := by
  obtain ⟨hg, hj, he, hp⟩ := h
  have hcg : ∀ i, i < n → c i = va_up c n k i ∧ l i = va_up l n m i := fun i hi => ⟨va_cg c k i hi, va_cg l m i hi⟩
  refine ⟨(hg.or (Bt.one _)).to (fun q => ?_), ?_, (Bt.three _).to (fun q => ?_), fun s hs => (hP s hs).to (fun q => ?_)⟩
  · show (pl_gap l n q || decide (q = pl_p l n + m + 1)) = (pl_gap (va_up l n m) n q || decide (q = pl_p (va_up l n m) (n + 1)))
    rw [pl_p_app, pl_gap_cg q n (fun i hi => (hcg i hi).2)]
  · have hq : ∀ q, pl_jmp (va_up c n k) (va_up l n m) (n + 1) q = (pl_jmp c l n q || decide (0 < n ∧ k ≠ c (n - 1) ∧ q + 1 = pl_p l n)) := by
      intro q
      show (pl_jmp (va_up c n k) (va_up l n m) n q || decide (0 < n ∧ va_up c n k n ≠ va_up c n k (n - 1) ∧ q + 1 = pl_p (va_up l n m) n)) = _
      rw [← pl_jmp_cg q n hcg, ← pl_p_cg n (fun i hi => (hcg i hi).2), va_up_s]
      by_cases h0 : 0 < n
      · rw [va_up_n _ _ (show n - 1 ≠ n by omega)]
      · rw [decide_eq_false (fun g => h0 g.1), decide_eq_false (fun g => h0 g.1)]
    rcases hj' with ⟨h0, hne, rfl⟩ | ⟨hno, rfl⟩
    · refine (hj.or (Bt.one _)).to (fun q => ?_)
      rw [hq]
      congr 1
      have h1 : 1 ≤ pl_p l n := by have := pl_p_lt (l := l) h0; omega
      rw [decide_eq_decide]
      exact ⟨fun g => ⟨h0, fun e => hne e.symm, by omega⟩, fun g => by omega⟩
    · refine hj.to (fun q => ?_)
      rw [hq, decide_eq_false (fun g => hno ⟨g.1, fun e => g.2.1 e.symm⟩), Bool.or_false]
  · unfold pl_end
    rw [pl_p_app, decide_eq_decide]
    omega
  · unfold pl_of
    rw [pl_p_app]
    have hcol : pl_col (va_up c n k) (va_up l n m) (n + 1) q = if pl_p l n < q ∧ q < pl_p l n + m + 1 then k else pl_col c l n q := by
      show (if pl_p (va_up l n m) n < q ∧ q < pl_p (va_up l n m) (n + 1) then va_up c n k n else pl_col (va_up c n k) (va_up l n m) n q) = _
      rw [pl_p_app, va_up_s, ← pl_p_cg n (fun i hi => (hcg i hi).2), ← pl_col_cg q n hcg]
    rw [hcol]
    by_cases h1 : q ≤ pl_p l n
    · rw [if_neg (by omega), decide_eq_true h1, decide_eq_true (show q ≤ pl_p l n + m + 1 by omega), decide_eq_false (show ¬ (pl_p l n < q ∧ q ≤ pl_p l n + m) by omega), decide_eq_false (show ¬ q = pl_p l n + m + 1 by omega)]
      simp
    · by_cases h2 : q ≤ pl_p l n + m
      · rw [if_pos (by omega), decide_eq_false h1, decide_eq_true (show q ≤ pl_p l n + m + 1 by omega), decide_eq_true (show pl_p l n < q ∧ q ≤ pl_p l n + m by omega), decide_eq_false (show ¬ q = pl_p l n + m + 1 by omega)]
        simp
      · rw [if_neg (by omega), decide_eq_false h1, decide_eq_false (show ¬ (pl_p l n < q ∧ q ≤ pl_p l n + m) by omega)]
        by_cases h3 : q = pl_p l n + m + 1
        · have h0 : pl_col c l n q = 0 := by
            have hg2 : ∀ r, pl_p l r < q → r ≤ n → pl_col c l r q = 0 := by
              intro r
              induction r with
              | zero => intro _ _; rfl
              | succ r ih =>
                intro h4 h5
                show (if pl_p l r < q ∧ q < pl_p l (r + 1) then c r else pl_col c l r q) = 0
                rw [if_neg (by omega)]
                have h6 : pl_p l (r + 1) = pl_p l r + l r + 1 := rfl
                exact ih (by omega) (by omega)
            exact hg2 n (by omega) (Nat.le_refl n)
          rw [h0, decide_eq_true h3, decide_eq_true (show q ≤ pl_p l n + m + 1 by omega)]
          simp
        · rw [decide_eq_false h3, decide_eq_false (show ¬ q ≤ pl_p l n + m + 1 by omega)]
          simp
theorem Lb.zero {P : Nat → Nat} (hP : ∀ s, s < 16 → Bt (P s) (fun q => decide (q = 0) && s.testBit 0)) : Lb c l 0 1 0 1 P := by
  refine ⟨(Bt.one 0).to (fun q => rfl), fun q => Nat.zero_testBit q, (Bt.one 0).to (fun q => ?_), fun s hs => (hP s hs).to (fun q => ?_)⟩
  · unfold pl_end
    rw [decide_eq_decide]
    omega
  · unfold pl_of
    show _ = (decide (q ≤ 0) && s.testBit 0)
    congr 1
    rw [decide_eq_decide]
    omega
theorem Lr.app {le : Nat} (h : Lr c l n le) (hk : 1 ≤ k ∧ k ≤ 3) (hm : 1 ≤ m) (hS : ln_S (va_up c n k) (va_up l n m) (n + 1) 0 ≤ le) : Lr (va_up c n k) (va_up l n m) (n + 1) le := by
  refine ⟨fun i hi => ?_, hS, h.2.2⟩
  by_cases hin : i = n
  · subst hin
    rw [va_up_s, va_up_s]
    exact ⟨hk.1, hk.2, hm⟩
  · rw [va_up_n _ _ hin, va_up_n _ _ hin]
    exact h.1 i (by omega)
end
