/-! PURE: runs backwards need the same cells -/
theorem ln_sum_rev (f : Nat → Nat) : ∀ n, ln_sum (fun k => f (n - 1 - k)) 0 n = ln_sum f 0 n := by
  have head : ∀ (g : Nat → Nat) m, ln_sum g 0 (m + 1) = g 0 + ln_sum (fun k => g (k + 1)) 0 m := by
    intro g m
    induction m with
    | zero =>
      rw [ln_sum_snoc]
      show 0 + g 0 = g 0 + 0
      omega
    | succ m ih => rw [ln_sum_snoc, ih, ln_sum_snoc (fun k => g (k + 1))]; simp only [Nat.zero_add]; omega
  intro n
  induction n with
  | zero => rfl
  | succ n ih =>
    rw [head, ln_sum_snoc f, Nat.zero_add, ← ih]
    have h1 : (fun k => f (n + 1 - 1 - (k + 1))) = (fun k => f (n - 1 - k)) := funext fun k => by rw [show n + 1 - 1 - (k + 1) = n - 1 - k by omega]
    show f (n + 1 - 1 - 0) + ln_sum (fun k => f (n + 1 - 1 - (k + 1))) 0 n = _
    rw [h1, show n + 1 - 1 - 0 = n by omega, Nat.add_comm]
theorem ln_S_sum (c l : Nat → Nat) : ∀ n, ln_S c l n 0 = ln_sum l 0 n + ln_sum (fun i => if c (i + 1) = c i then 1 else 0) 0 (n - 1)
  | 0 => rfl
  | 1 => by
    rw [ln_S_snoc, ln_sum_snoc]
    show 0 + ln_sp c (0 + 0) + l (0 + 0) = 0 + l (0 + 0) + 0
    unfold ln_sp
    simp
  | n + 2 => by
    rw [ln_S_snoc, ln_S_sum c l (n + 1), ln_sum_snoc l (n + 1), show n + 2 - 1 = n + 1 by omega, ln_sum_snoc (fun i => if c (i + 1) = c i then 1 else 0), show n + 1 - 1 = n by omega, Nat.zero_add, Nat.zero_add]
    have h : ln_sp c (n + 1) = if c (n + 1) = c n then 1 else 0 := by
      unfold ln_sp
      rw [if_neg (by omega), Nat.add_sub_cancel]
    rw [h]
    omega
theorem ln_S_rev (c l : Nat → Nat) (n : Nat) : ln_S (fun k => c (n - 1 - k)) (fun k => l (n - 1 - k)) n 0 = ln_S c l n 0 := by
  rw [ln_S_sum, ln_S_sum, ln_sum_rev l n]
  congr 1
  rw [← ln_sum_rev (fun i => if c (i + 1) = c i then 1 else 0) (n - 1)]
  refine ln_sum_congr _ _ (fun x _ hx => ?_)
  have e1 : n - 1 - (x + 1) = n - 1 - 1 - x := by omega
  have e2 : n - 1 - x = n - 1 - 1 - x + 1 := by omega
  rw [e1, e2]
  by_cases h : c (n - 1 - 1 - x) = c (n - 1 - 1 - x + 1)
  · rw [if_pos h, if_pos h.symm]
  · rw [if_neg h, if_neg (fun g => h g.symm)]
