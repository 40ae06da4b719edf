/-! PURE: grades: sets S, n probes, k taken in this pass, e: 0 goes on, 1 too many probes, 2 broken -/
abbrev gr_Q : Type := (Nat → Nat) × Nat × Nat × Nat
def gr_p1 (A : md_A) (p c v : Nat) (q : gr_Q) : gr_Q := match q with
  | (S, n, k, e) => if e ≠ 0 ∨ S c &&& (S c - 1) = 0 ∨ (S c).testBit v = false then (S, n, k, e) else if n = 400 then (S, n, k, 1) else match pz_st A p 401 (va_up S c (1 <<< v)) with
    | some _ => (S, n + 1, k, 0)
    | none => match pz_st A p 401 (va_up S c (ln_df (S c) (1 <<< v))) with
      | none => (S, n + 1, k + 1, 2)
      | some (_, S1) => (S1, n + 1, k + 1, 0)
def gr_v (A : md_A) (p c : Nat) : Nat → gr_Q → gr_Q
  | 0, q => q
  | n + 1, q => gr_p1 A p c n (gr_v A p c n q)
def gr_c (A : md_A) (p : Nat) : Nat → gr_Q → gr_Q
  | 0, q => q
  | n + 1, q => gr_v A p n 4 (gr_c A p n q)
def gr_run (A : md_A) (p : Nat) : Nat → (Nat → Nat) → Nat → Nat × Nat
  | 0, _, n => (0, n)
  | f + 1, S, n => match gr_c A p (A 1 p * A 2 p) (S, n, 0, 0) with
    | (S1, n1, k, e) => if e = 1 then (4, n1) else if e = 2 then (0, n1) else if k = 0 then (if pz_oc S1 (A 1 p * A 2 p) = none then 2 else 3, n1) else gr_run A p f S1 n1
def gr_all (A : md_A) (p : Nat) : Nat × Nat := match pz_st A p 401 (fun _ => 1 <<< (A 3 p + 1) - 1) with
  | none => (0, 0)
  | some (_, S1) => if pz_oc S1 (A 1 p * A 2 p) = none then (1, 0) else gr_run A p 402 S1 0
theorem gr_p1_stuck {A : md_A} {p c v : Nat} {q : gr_Q} (h : q.2.2.2 ≠ 0) : gr_p1 A p c v q = q := by
  obtain ⟨S, n, k, e⟩ := q
  unfold gr_p1
  dsimp only
  rw [if_pos (Or.inl h)]
theorem gr_v_stuck {A : md_A} {p c : Nat} {q : gr_Q} : ∀ v, q.2.2.2 ≠ 0 → gr_v A p c v q = q := by
  intro v
  induction v with
  | zero => intro _; rfl
  | succ v ih => intro h; show gr_p1 A p c v (gr_v A p c v q) = q; rw [ih h, gr_p1_stuck h]
theorem gr_v_on {A : md_A} {p c : Nat} {q : gr_Q} {a : Nat} : ∀ d, (gr_v A p c a q).2.2.2 ≠ 0 → gr_v A p c (a + d) q = gr_v A p c a q := by
  intro d
  induction d with
  | zero => intro _; rfl
  | succ d ih => intro h; show gr_p1 A p c (a + d) (gr_v A p c (a + d) q) = _; rw [ih h, gr_p1_stuck h]
theorem gr_c_on {A : md_A} {p : Nat} {q : gr_Q} {a : Nat} : ∀ d, (gr_c A p a q).2.2.2 ≠ 0 → gr_c A p (a + d) q = gr_c A p a q := by
  intro d
  induction d with
  | zero => intro _; rfl
  | succ d ih => intro h; show gr_v A p (a + d) 4 (gr_c A p (a + d) q) = _; rw [ih h, gr_v_stuck 4 h]
theorem gr_p1_skip {A : md_A} {p c v n k : Nat} {S : Nat → Nat} (h : S c &&& (S c - 1) = 0 ∨ (S c).testBit v = false) : gr_p1 A p c v (S, n, k, 0) = (S, n, k, 0) := by
  unfold gr_p1
  dsimp only
  rw [if_pos (Or.inr h)]
theorem gr_p1_much {A : md_A} {p c v k : Nat} {S : Nat → Nat} (h : ¬ (S c &&& (S c - 1) = 0)) (h2 : (S c).testBit v = true) : gr_p1 A p c v (S, 400, k, 0) = (S, 400, k, 1) := by
  unfold gr_p1
  dsimp only
  rw [if_neg (by rintro (g | g | g); exact g rfl; exact h g; rw [h2] at g; cases g), if_pos rfl]
theorem gr_p1_fine {A : md_A} {p c v n k : Nat} {S : Nat → Nat} {z : Nat × (Nat → Nat)} (h : ¬ (S c &&& (S c - 1) = 0)) (h2 : (S c).testBit v = true) (hn : n ≠ 400) (e : pz_st A p 401 (va_up S c (1 <<< v)) = some z) : gr_p1 A p c v (S, n, k, 0) = (S, n + 1, k, 0) := by
  unfold gr_p1
  dsimp only
  rw [if_neg (by rintro (g | g | g); exact g rfl; exact h g; rw [h2] at g; cases g), if_neg hn, e]
theorem gr_p1_brk {A : md_A} {p c v n k : Nat} {S : Nat → Nat} (h : ¬ (S c &&& (S c - 1) = 0)) (h2 : (S c).testBit v = true) (hn : n ≠ 400) (e : pz_st A p 401 (va_up S c (1 <<< v)) = none) (e2 : pz_st A p 401 (va_up S c (ln_df (S c) (1 <<< v))) = none) : gr_p1 A p c v (S, n, k, 0) = (S, n + 1, k + 1, 2) := by
  unfold gr_p1
  dsimp only
  rw [if_neg (by rintro (g | g | g); exact g rfl; exact h g; rw [h2] at g; cases g), if_neg hn, e]
  dsimp only
  rw [e2]
theorem gr_p1_took {A : md_A} {p c v n k r : Nat} {S S1 : Nat → Nat} (h : ¬ (S c &&& (S c - 1) = 0)) (h2 : (S c).testBit v = true) (hn : n ≠ 400) (e : pz_st A p 401 (va_up S c (1 <<< v)) = none) (e2 : pz_st A p 401 (va_up S c (ln_df (S c) (1 <<< v))) = some (r, S1)) : gr_p1 A p c v (S, n, k, 0) = (S1, n + 1, k + 1, 0) := by
  unfold gr_p1
  dsimp only
  rw [if_neg (by rintro (g | g | g); exact g rfl; exact h g; rw [h2] at g; cases g), if_neg hn, e]
  dsimp only
  rw [e2]
theorem gr_df {a v : Nat} (ha : a < 16) (hv : v ≤ 3) (h : ¬ (a &&& (a - 1) = 0)) : 1 ≤ ln_df a (1 <<< v) ∧ ln_df a (1 <<< v) < 16 := by
  have key : ∀ a, a < 16 → ∀ v, v ≤ 3 → ¬ (a &&& (a - 1) = 0) → 1 ≤ ln_df a (1 <<< v) ∧ ln_df a (1 <<< v) < 16 := by decide +kernel
  exact key a ha v hv h
/-- a set with one colour fewer is as a set must be -/
theorem gr_less {A : md_A} {p c v : Nat} {S : Nat → Nat} (hs : Ps A p S) (hn : Pn A p S) (hc : c < A 1 p * A 2 p) (hv : v ≤ 3) (h : ¬ (S c &&& (S c - 1) = 0)) : Ps A p (va_up S c (ln_df (S c) (1 <<< v))) ∧ Pn A p (va_up S c (ln_df (S c) (1 <<< v))) := by
  have g := gr_df (hs c hc) hv h
  refine ⟨fun x hx => ?_, fun x hx => ?_⟩
  · unfold va_up
    split
    · exact g.2
    · exact hs x hx
  · unfold va_up
    split
    · exact g.1
    · exact hn x hx
/-- the model's cells in a grading -/
def Gr (I I1 : md_I) (A A1 : md_A) (p : Nat) (S : Nat → Nat) (n : Nat) : Prop := (∀ j, j ≠ 1 → j ≠ 5 → j ≠ 6 → I1 j = I j) ∧ I1 5 = n ∧ n ≤ 400 ∧ I1 6 = 0 ∧ (∀ k, k < 10 ∨ 15 < k → A1 k = A k) ∧ pz_on A p (fun x => A1 10 (0 + x)) S ∧ Ps A p S ∧ Pn A p S
def Gx (I I1 : md_I) (A A1 : md_A) (n k e : Nat) (v : Option Value) : Prop := (∀ j, j ≠ 1 → j ≠ 5 → j ≠ 6 → I1 j = I j) ∧ I1 5 = n ∧ n ≤ 400 ∧ (∀ k, k < 10 ∨ 15 < k → A1 k = A k) ∧ ((e = 1 ∧ I1 6 = 1 ∧ v = some (.int (nI k))) ∨ (e = 2 ∧ I1 6 = 0 ∧ v = some (.int (-1))))
theorem Gr.lt {I I1 : md_I} {A A1 : md_A} {p n : Nat} {S : Nat → Nat} (h : Gr I I1 A A1 p S n) : ∀ k, k < 10 → A1 k = A k := fun k hk => h.2.2.2.2.1 k (Or.inl hk)
def D_grade (I : md_I) (A : md_A) (x z : Int32) (I2 : md_I) (A2 : md_A) : Prop := (∃ p, p < I 0 ∧ x = nI p ∧ z = nI (gr_all A p).1 ∧ I2 = va_up I 5 (gr_all A p).2 ∧ A2 = A) ∨ (¬ (∃ p, p < I 0 ∧ x = nI p) ∧ z = -1 ∧ I2 = I ∧ A2 = A)
