/-! PURE: the search, a state and its steps: h levels (sets S d, cell C d, next X d), f pictures P, t tries -/
abbrev sr_T : Type := Nat × (Nat → Nat → Nat) × (Nat → Nat) × (Nat → Nat) × Nat × (Nat → Nat → Nat) × Nat
/-- the next of a set from x on; 4 if there is none -/
def sr_nx (s x : Nat) : Nat := if x ≤ 0 ∧ s.testBit 0 = true then 0 else if x ≤ 1 ∧ s.testBit 1 = true then 1 else if x ≤ 2 ∧ s.testBit 2 = true then 2 else if x ≤ 3 ∧ s.testBit 3 = true then 3 else 4
/-- settled sets: broken, a picture (no cell), or the cell to be tried -/
def sr_op (A : md_A) (p : Nat) (S : Nat → Nat) : Option (Option Nat × (Nat → Nat)) := match pz_st A p 401 S with
  | none => none
  | some (_, S1) => match pz_oc S1 (A 1 p * A 2 p) with
    | none => some (none, S1)
    | some (b, _) => some (some b, S1)
def sr_push (A : md_A) (p : Nat) (S : Nat → Nat) (q : sr_T) : sr_T := match q with
  | (h, LS, C, X, f, P, t) => match sr_op A p S with
    | none => (h, LS, C, X, f, P, t)
    | some (none, S1) => (h, LS, C, X, f + 1, va_up P f (fun k => pz_log (S1 k)), t)
    | some (some b, S1) => (h + 1, va_up LS h S1, va_up C h b, va_up X h 0, f, P, t)
def sr_child (LS : Nat → Nat → Nat) (C : Nat → Nat) (h v : Nat) : Nat → Nat := va_up (LS (h - 1)) (C (h - 1)) (1 <<< v)
def sr_run (A : md_A) (p tries limit : Nat) : Nat → sr_T → Bool × sr_T
  | 0, q => (false, q)
  | n + 1, (h, LS, C, X, f, P, t) => if h = 0 ∨ limit ≤ f then (false, (h, LS, C, X, f, P, t)) else if sr_nx (LS (h - 1) (C (h - 1))) (X (h - 1)) = 4 then sr_run A p tries limit n (h - 1, LS, C, X, f, P, t) else if t = tries then (true, (h, LS, C, X, f, P, t)) else sr_run A p tries limit n (sr_push A p (sr_child LS C h (sr_nx (LS (h - 1) (C (h - 1))) (X (h - 1)))) (h, LS, C, va_up X (h - 1) (sr_nx (LS (h - 1) (C (h - 1))) (X (h - 1)) + 1), f, P, t + 1))
def sr_0 (A : md_A) (p : Nat) (S : Nat → Nat) : sr_T := sr_push A p S (0, fun _ _ => 0, fun _ => 0, fun _ => 0, 0, fun _ _ => 0, 0)
theorem sr_nx_le (s x : Nat) : sr_nx s x ≤ 4 := by
  unfold sr_nx
  (repeat' split) <;> omega
theorem sr_nx_bit {s x : Nat} (h : sr_nx s x ≠ 4) : s.testBit (sr_nx s x) = true ∧ x ≤ sr_nx s x := by
  unfold sr_nx at h ⊢
  split
  · next g => exact ⟨g.2, g.1⟩
  · split
    · next g => exact ⟨g.2, g.1⟩
    · split
      · next g => exact ⟨g.2, g.1⟩
      · split
        · next g => exact ⟨g.2, g.1⟩
        · simp_all
theorem sr_op_on {A : md_A} {p : Nat} {S S' : Nat → Nat} (hz : Pz A p) (h : pz_on A p S S') : (sr_op A p S = none ∧ sr_op A p S' = none) ∨ ∃ o S1 S1', sr_op A p S = some (o, S1) ∧ sr_op A p S' = some (o, S1') ∧ pz_on A p S1 S1' := by
  unfold sr_op
  rcases pz_on_st hz 401 S S' h with ⟨e1, e2⟩ | ⟨r, S1, S1', e1, e2, e3⟩
  · rw [e1, e2]; exact Or.inl ⟨rfl, rfl⟩
  · rw [e1, e2]
    dsimp only
    rw [pz_oc_congr (S := S1) (S' := S1') _ (fun x hx => e3 x hx)]
    cases pz_oc S1' (A 1 p * A 2 p) with
    | none => exact Or.inr ⟨none, S1, S1', rfl, rfl, e3⟩
    | some z => obtain ⟨b, n⟩ := z; exact Or.inr ⟨some b, S1, S1', rfl, rfl, e3⟩
/-- how many cells are open -/
def pz_no (A : md_A) (p : Nat) (S : Nat → Nat) : Nat := ln_sum (fun x => if 2 ≤ ln_pop (S x) then 1 else 0) 0 (A 1 p * A 2 p)
theorem ln_sum_lt {f g : Nat → Nat} {c : Nat} : ∀ m lo, (∀ x, lo ≤ x → x < lo + m → f x ≤ g x) → lo ≤ c → c < lo + m → f c < g c → ln_sum f lo m < ln_sum g lo m := by
  intro m
  induction m with
  | zero => intro lo _ h1 h2; omega
  | succ m ih =>
    intro lo h h1 h2 h3
    show f lo + _ < g lo + _
    have hl := h lo (Nat.le_refl _) (by omega)
    by_cases hc : c = lo
    · subst hc
      have : ∀ m lo', (∀ x, lo' ≤ x → x < lo' + m → f x ≤ g x) → ln_sum f lo' m ≤ ln_sum g lo' m := by
        intro m
        induction m with
        | zero => intro _ _; exact Nat.le_refl _
        | succ m ih2 =>
          intro lo' h'
          show f lo' + _ ≤ g lo' + _
          have a := h' lo' (Nat.le_refl _) (by omega)
          have b := ih2 (lo' + 1) (fun x y z => h' x (by omega) (by omega))
          omega
      have := this m (c + 1) (fun x y z => h x (by omega) (by omega))
      omega
    · have := ih (lo + 1) (fun x a b => h x (by omega) (by omega)) (by omega) (by omega) h3
      omega
theorem ln_pop_sub {a b : Nat} (ha : a < 16) (hb : b < 16) (h : a &&& b = b) : ln_pop b ≤ ln_pop a := by
  have key : ∀ a, a < 16 → ∀ b, b < 16 → (a &&& b = b → ln_pop b ≤ ln_pop a) := by decide +kernel
  exact key a ha b hb h
theorem ln_pop_one {v : Nat} (h : v ≤ 3) : ln_pop (1 <<< v) = 1 := by
  rcases (show v = 0 ∨ v = 1 ∨ v = 2 ∨ v = 3 by omega) with rfl | rfl | rfl | rfl <;> decide
theorem ln_one_sub {a v : Nat} (ha : a < 16) (h : a.testBit v = true) (hv : v ≤ 3) : a &&& 1 <<< v = 1 <<< v := by
  have key : ∀ a, a < 16 → ∀ v, v ≤ 3 → (a.testBit v = true → a &&& 1 <<< v = 1 <<< v) := by decide +kernel
  exact key a ha v hv h
theorem ln_one16 {v : Nat} (h : v ≤ 3) : 1 ≤ 1 <<< v ∧ 1 <<< v < 16 := by
  rcases (show v = 0 ∨ v = 1 ∨ v = 2 ∨ v = 3 by omega) with rfl | rfl | rfl | rfl <;> decide
/-- a try's sets, settled, have fewer open cells -/
theorem pz_no_lt {A : md_A} {p c v : Nat} {S S1 : Nat → Nat} (hs : Ps A p S) (hs1 : Ps A p S1) (hc : c < A 1 p * A 2 p) (hp : 2 ≤ ln_pop (S c)) (hv : v ≤ 3) (hb : (S c).testBit v = true) (hsub : pz_sub A p S1 (va_up S c (1 <<< v))) : pz_no A p S1 < pz_no A p S := by
  have hall : ∀ x, x < A 1 p * A 2 p → ln_pop (S1 x) ≤ ln_pop (va_up S c (1 <<< v) x) := fun x hx => ln_pop_sub (by
    unfold va_up
    split
    · exact (ln_one16 hv).2
    · exact hs x hx) (hs1 x hx) (hsub x hx)
  unfold pz_no
  refine ln_sum_lt _ _ (fun x _ hx => ?_) (Nat.zero_le c) (by omega) ?_
  · have h1 := hall x (by omega)
    by_cases hxc : x = c
    · subst hxc
      rw [if_pos hp]
      split <;> omega
    · have e : va_up S c (1 <<< v) x = S x := by unfold va_up; rw [if_neg hxc]
      rw [e] at h1
      split <;> split <;> omega
  · have h1 := hall c hc
    have e : va_up S c (1 <<< v) c = 1 <<< v := by simp [va_up]
    rw [e, ln_pop_one hv] at h1
    rw [if_pos hp, if_neg (by omega)]
    decide
theorem pz_no_le {A : md_A} {p : Nat} {S : Nat → Nat} : pz_no A p S ≤ A 1 p * A 2 p := ln_sum_le1 (fun x => by split <;> omega) _ _
/-- what holds of a search's levels -/
def sr_ok (A : md_A) (p : Nat) (q : sr_T) : Prop := ∀ d, d < q.1 → Ps A p (q.2.1 d) ∧ Pn A p (q.2.1 d) ∧ q.2.2.1 d < A 1 p * A 2 p ∧ 2 ≤ ln_pop (q.2.1 d (q.2.2.1 d)) ∧ pz_no A p (q.2.1 d) + d ≤ A 1 p * A 2 p
theorem pz_no_pos {A : md_A} {p c : Nat} {S : Nat → Nat} (hc : c < A 1 p * A 2 p) (hp : 2 ≤ ln_pop (S c)) : 0 < pz_no A p S := by
  have h := ln_sum_lt (f := fun _ => 0) (g := fun x => if 2 ≤ ln_pop (S x) then 1 else 0) (c := c) (A 1 p * A 2 p) 0 (fun x _ _ => Nat.zero_le _) (Nat.zero_le _) (by omega) (by rw [if_pos hp]; decide)
  exact Nat.lt_of_le_of_lt (Nat.zero_le _) h
theorem sr_ok_h {A : md_A} {p : Nat} {q : sr_T} (h : sr_ok A p q) : q.1 ≤ A 1 p * A 2 p := by
  by_cases h0 : q.1 = 0
  · omega
  · obtain ⟨-, -, h3, h4, h5⟩ := h (q.1 - 1) (by omega)
    have := pz_no_pos h3 h4
    omega
theorem sr_op_inv {A : md_A} {p : Nat} {S S1 : Nat → Nat} {o : Option Nat} (hz : Pz A p) (hs : Ps A p S) (hn : Pn A p S) (h : sr_op A p S = some (o, S1)) : Ps A p S1 ∧ Pn A p S1 ∧ pz_sub A p S1 S ∧ ∀ b, o = some b → b < A 1 p * A 2 p ∧ 2 ≤ ln_pop (S1 b) := by
  unfold sr_op at h
  cases e : pz_st A p 401 S with
  | none => rw [e] at h; cases h
  | some z =>
    obtain ⟨r, S2⟩ := z
    rw [e] at h
    dsimp only at h
    have i1 := pz_st_inv hz 401 S hs r S2 e
    have i2 := pz_st_more hz 401 S hs hn r S2 e
    cases e1 : pz_oc S2 (A 1 p * A 2 p) with
    | none => rw [e1] at h; cases h; exact ⟨i1.1, i2.1, i2.2, fun b hb => by cases hb⟩
    | some z2 =>
      obtain ⟨b2, n2⟩ := z2
      rw [e1] at h
      cases h
      have := pz_oc_lt _ _ _ e1
      exact ⟨i1.1, i2.1, i2.2, fun b hb => by cases hb; exact ⟨this.1, by omega⟩⟩
/-- the child's sets are as sets must be -/
theorem sr_child_ok {A : md_A} {p : Nat} {S : Nat → Nat} {c v : Nat} (hs : Ps A p S) (hn : Pn A p S) (hv : v ≤ 3) : Ps A p (va_up S c (1 <<< v)) ∧ Pn A p (va_up S c (1 <<< v)) := by
  refine ⟨fun x hx => ?_, fun x hx => ?_⟩
  · unfold va_up
    split
    · exact (ln_one16 hv).2
    · exact hs x hx
  · unfold va_up
    split
    · exact (ln_one16 hv).1
    · exact hn x hx
