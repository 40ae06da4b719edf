/-! PURE: what the pictures of the state see of the arrays; sums of sets -/
section
variable {A A' : md_A} {p ln : Nat} {S : Nat → Nat}
theorem pz_same_c (h : ∀ k, k < 10 → A' k = A k) (p ln : Nat) : pz_c A' p ln = pz_c A p ln := by unfold pz_c; rw [h 6 (by decide)]
theorem pz_same_l (h : ∀ k, k < 10 → A' k = A k) (p ln : Nat) : pz_l A' p ln = pz_l A p ln := by unfold pz_l; rw [h 7 (by decide)]
theorem pz_same_n (h : ∀ k, k < 10 → A' k = A k) (p ln : Nat) : pz_n A' p ln = pz_n A p ln := by unfold pz_n; rw [h 5 (by decide)]
theorem pz_same_L (h : ∀ k, k < 10 → A' k = A k) (p ln : Nat) : pz_L A' p ln = pz_L A p ln := by unfold pz_L; rw [h 1 (by decide), h 2 (by decide)]
theorem pz_same_cell (h : ∀ k, k < 10 → A' k = A k) (p ln : Nat) : pz_cell A' p ln = pz_cell A p ln := by unfold pz_cell; rw [h 1 (by decide), h 2 (by decide)]
theorem pz_same_W (h : ∀ k, k < 10 → A' k = A k) (p ln : Nat) (S : Nat → Nat) : pz_W A' p ln S = pz_W A p ln S := by unfold pz_W; rw [pz_same_c h, pz_same_l h, pz_same_n h, pz_same_L h, pz_same_cell h]
theorem pz_same_K (h : ∀ k, k < 10 → A' k = A k) (p ln : Nat) (S : Nat → Nat) : pz_K A' p ln S = pz_K A p ln S := by funext k; unfold pz_K; rw [pz_same_c h, pz_same_l h, pz_same_n h, pz_same_L h, pz_same_cell h]
theorem pz_same_new (h : ∀ k, k < 10 → A' k = A k) (p ln : Nat) (S : Nat → Nat) : pz_new A' p ln S = pz_new A p ln S := by funext k; unfold pz_new; rw [pz_same_K h, pz_same_cell h]
theorem pz_same_stp (h : ∀ k, k < 10 → A' k = A k) (p ln : Nat) (S : Nat → Nat) : pz_stp A' p ln S = pz_stp A p ln S := by unfold pz_stp; rw [pz_same_new h, pz_same_cell h, pz_same_L h]
theorem pz_same_gn (h : ∀ k, k < 10 → A' k = A k) (p ln : Nat) (S : Nat → Nat) : ∀ k, pz_gn A' p ln S k = pz_gn A p ln S k := by
  intro k
  induction k with
  | zero => rfl
  | succ k ih => show _ + _ = _ + _; rw [ih, pz_same_K h, pz_same_cell h]
theorem pz_same_gone (h : ∀ k, k < 10 → A' k = A k) (p ln : Nat) (S : Nat → Nat) : pz_gone A' p ln S = pz_gone A p ln S := by unfold pz_gone; rw [pz_same_gn h, pz_same_L h]
theorem Pz.same (h : ∀ k, k < 10 → A' k = A k) (hz : Pz A p) : Pz A' p := by
  obtain ⟨h1, h2, h3, h4, h5⟩ := hz
  refine ⟨h1, by rw [h 1 (by decide)]; exact h2, by rw [h 2 (by decide)]; exact h3, by rw [h 3 (by decide)]; exact h4, fun ln hl => ?_⟩
  rw [h 1 (by decide), h 2 (by decide)] at hl
  rw [pz_same_c h, pz_same_l h, pz_same_n h, pz_same_L h, h 3 (by decide)]
  exact h5 ln hl
theorem Ps.same (h : ∀ k, k < 10 → A' k = A k) (hz : Ps A p S) : Ps A' p S := by
  unfold Ps
  rw [h 1 (by decide), h 2 (by decide)]
  exact hz
end
theorem pz_cell_inj {A : md_A} {p ln : Nat} (h : Pz A p) (hl : ln < A 1 p + A 2 p) : ∀ i j, i < pz_L A p ln → j < pz_L A p ln → pz_cell A p ln i = pz_cell A p ln j → i = j := fun _ _ hi hj e => ln_cell_inj hi hj (Or.inr h.2.1.1) hl e
/-- what a step leaves to a cell of the line, and to others -/
theorem pz_stp_in {A : md_A} {p ln : Nat} {S : Nat → Nat} (h : Pz A p) (hl : ln < A 1 p + A 2 p) {k : Nat} (hk : k < pz_L A p ln) : pz_stp A p ln S (pz_cell A p ln k) = S (pz_cell A p ln k) &&& pz_K A p ln S k := by
  have := pz_F_in S 0 (pz_cell A p ln) (pz_new A p ln S) (pz_L A p ln) (pz_cell_inj h hl) k hk
  rw [Nat.zero_add] at this
  exact this
theorem pz_stp_out {A : md_A} {p ln : Nat} {S : Nat → Nat} {x : Nat} (hx : ∀ k, k < pz_L A p ln → x ≠ pz_cell A p ln k) : pz_stp A p ln S x = S x := pz_F_no S 0 _ _ _ x (fun i hi => by rw [Nat.zero_add]; exact hx i hi)
theorem Ps.stp {A : md_A} {p ln : Nat} {S : Nat → Nat} (h : Pz A p) (hl : ln < A 1 p + A 2 p) (hs : Ps A p S) : Ps A p (pz_stp A p ln S) := by
  intro x hx
  by_cases g : ∃ k, k < pz_L A p ln ∧ x = pz_cell A p ln k
  · obtain ⟨k, hk, rfl⟩ := g
    rw [pz_stp_in h hl hk]
    exact Nat.lt_of_le_of_lt Nat.and_le_left (hs _ hx)
  · rw [pz_stp_out (fun k hk e => g ⟨k, hk, e⟩)]
    exact hs x hx
def pz_tot (A : md_A) (p : Nat) (S : Nat → Nat) : Nat := ln_sum (fun x => ln_pop (S x)) 0 (A 1 p * A 2 p)
theorem ln_sum_up {g : Nat → Nat} {F : Nat → Nat} {c v : Nat} : ∀ m lo, lo ≤ c → c < lo + m → ln_sum (fun x => g (va_up F c v x)) lo m + g (F c) = ln_sum (fun x => g (F x)) lo m + g v := by
  intro m
  induction m with
  | zero => intro lo h1 h2; omega
  | succ m ih =>
    intro lo h1 h2
    show g (va_up F c v lo) + ln_sum _ (lo + 1) m + g (F c) = g (F lo) + ln_sum _ (lo + 1) m + g v
    by_cases h : c = lo
    · subst h
      have e1 : va_up F c v c = v := by simp [va_up]
      have e2 : ln_sum (fun x => g (va_up F c v x)) (c + 1) m = ln_sum (fun x => g (F x)) (c + 1) m := ln_sum_congr _ _ (fun x a b => by
        have : va_up F c v x = F x := by unfold va_up; rw [if_neg (by omega)]
        rw [this])
      rw [e1, e2]
      omega
    · have e1 : va_up F c v lo = F lo := by unfold va_up; rw [if_neg (by omega)]
      have e2 := ih (lo + 1) (by omega) (by omega)
      rw [e1]
      omega
theorem pz_tot_stp {A : md_A} {p ln : Nat} {S : Nat → Nat} (h : Pz A p) (hl : ln < A 1 p + A 2 p) (hs : Ps A p S) : pz_tot A p (pz_stp A p ln S) + pz_gone A p ln S = pz_tot A p S := by
  have key : ∀ k, k ≤ pz_L A p ln → pz_tot A p (pz_F S 0 (pz_cell A p ln) (pz_new A p ln S) k) + pz_gn A p ln S k = pz_tot A p S := by
    intro k
    induction k with
    | zero => intro _; rfl
    | succ k ih =>
      intro hk
      have h1 := ih (by omega)
      have hc := pz_cell_lt h hl (show k < pz_L A p ln by omega)
      have h2 : pz_F S 0 (pz_cell A p ln) (pz_new A p ln S) k (0 + pz_cell A p ln k) = S (pz_cell A p ln k) := by
        rw [Nat.zero_add]
        refine pz_F_no S 0 _ _ _ _ (fun i hi e => ?_)
        rw [Nat.zero_add] at e
        have := pz_cell_inj h hl k i (by omega) (by omega) e
        omega
      have h3 := ln_sum_up (g := ln_pop) (F := pz_F S 0 (pz_cell A p ln) (pz_new A p ln S) k) (c := 0 + pz_cell A p ln k) (v := pz_new A p ln S k) (A 1 p * A 2 p) 0 (by omega) (by omega)
      rw [h2] at h3
      have h4 := ln_pop_df (hs _ hc) (ln_K_lt (pz_c A p ln) (pz_l A p ln) (pz_n A p ln) (pz_L A p ln) (fun j => S (pz_cell A p ln j)) k)
      show ln_sum (fun x => ln_pop (va_up _ _ _ x)) 0 (A 1 p * A 2 p) + (pz_gn A p ln S k + ln_pop (ln_df (S (pz_cell A p ln k)) (pz_K A p ln S k))) = _
      unfold pz_tot at h1
      have h5 : ln_pop (pz_new A p ln S k) + ln_pop (ln_df (S (pz_cell A p ln k)) (pz_K A p ln S k)) = ln_pop (S (pz_cell A p ln k)) := h4
      unfold pz_tot
      omega
  exact key _ (Nat.le_refl _)
theorem pz_tot_le {A : md_A} {p : Nat} {S : Nat → Nat} (h : Pz A p) (hs : Ps A p S) : pz_tot A p S ≤ 400 := by
  have key : ∀ m lo, lo + m ≤ A 1 p * A 2 p → ln_sum (fun x => ln_pop (S x)) lo m ≤ 4 * m := by
    intro m
    induction m with
    | zero => intro lo _; exact Nat.zero_le _
    | succ m ih =>
      intro lo hl
      show ln_pop (S lo) + ln_sum _ (lo + 1) m ≤ _
      have := ih (lo + 1) (by omega)
      have := ln_pop_le (hs lo (by omega))
      omega
  have := key (A 1 p * A 2 p) 0 (by omega)
  have := pz_size h
  unfold pz_tot
  omega
theorem pz_rd_none {A : md_A} {p : Nat} {S : Nat → Nat} {k : Nat} (h : pz_rd A p k S = none) : ∀ d, pz_rd A p (k + d) S = none := by
  intro d
  induction d with
  | zero => exact h
  | succ d ih =>
    show (match pz_rd A p (k + d) S with | none => none | some (S1, g) => _) = none
    rw [ih]
theorem pz_rd_s {A : md_A} {p k g : Nat} {S S1 : Nat → Nat} (h : pz_rd A p k S = some (S1, g)) : pz_rd A p (k + 1) S = if pz_W A p k S1 = 0 then none else some (pz_stp A p k S1, g + pz_gone A p k S1) := by
  show (match pz_rd A p k S with | none => none | some (S1, g) => _) = _
  rw [h]
theorem pz_rd_inv {A : md_A} {p : Nat} {S : Nat → Nat} (h : Pz A p) (hs : Ps A p S) : ∀ k, k ≤ A 1 p + A 2 p → ∀ S1 g, pz_rd A p k S = some (S1, g) → Ps A p S1 ∧ pz_tot A p S1 + g = pz_tot A p S ∧ ∀ x, A 1 p * A 2 p ≤ x → S1 x = S x := by
  intro k
  induction k with
  | zero => intro _ S1 g e; cases e; exact ⟨hs, rfl, fun _ _ => rfl⟩
  | succ k ih =>
    intro hk S1 g e
    cases e0 : pz_rd A p k S with
    | none => rw [pz_rd_none e0 1] at e; cases e
    | some z =>
      obtain ⟨S0, g0⟩ := z
      rw [pz_rd_s e0] at e
      obtain ⟨i1, i2, i3⟩ := ih (by omega) S0 g0 e0
      split at e
      · cases e
      · cases e
        have hl : k < A 1 p + A 2 p := by omega
        refine ⟨i1.stp h hl, by have := pz_tot_stp h hl i1; omega, fun x hx => ?_⟩
        rw [pz_stp_out (fun j hj e => by have := pz_cell_lt h hl hj; omega)]
        exact i3 x hx
