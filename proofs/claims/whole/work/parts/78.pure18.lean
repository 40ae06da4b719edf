/-! PURE: runs read by stretches: after i cells the class has the runs that are over, and st cells of one that isn't -/
section
variable {g : Nat → Nat} {le i st n : Nat} {c l : Nat → Nat}
theorem mk_la (g : Nat → Nat) (i : Nat) : (mk_s g (i + 1)).2.1 = g i := by
  show (mk_1 (g i) (mk_s g i)).2.1 = g i
  obtain ⟨n, la, c, l⟩ := mk_s g i
  unfold mk_1
  dsimp only
  by_cases h : g i = 0
  · rw [if_pos h]; exact h.symm
  · rw [if_neg h]
    split <;> rfl
/-- the runs after i + 1 cells: all of them are over but one of st cells -/
def Rm (g : Nat → Nat) (i st n : Nat) (c l : Nat → Nat) : Prop := (g i = 0 ∧ mk_s g (i + 1) = (n, 0, c, l)) ∨ (g i ≠ 0 ∧ ∃ c' l', mk_s g (i + 1) = (n + 1, g i, c', l') ∧ (∀ j, j < n → c j = c' j ∧ l j = l' j) ∧ c' n = g i ∧ l' n = st)
def Rd (g : Nat → Nat) (le i st n : Nat) (c l : Nat → Nat) : Prop := (st = 0 ∧ (∃ la, mk_s g i = (n, la, c, l)) ∧ (0 < i → i < le → g i ≠ g (i - 1))) ∨ (0 < st ∧ 0 < i ∧ i < le ∧ g i = g (i - 1) ∧ Rm g (i - 1) st n c l)
theorem Rd.mid (h : Rd g le i st n c l) (hi : i < le) : Rm g i (st + 1) n c l := by
  rcases h with ⟨rfl, ⟨la, e⟩, hne⟩ | ⟨h0, h1, -, he, h2⟩
  · by_cases hz : g i = 0
    · exact Or.inl ⟨hz, mk_s_0 e hz⟩
    · have hla : ¬ g i = la := by
        intro h
        cases i with
        | zero =>
          have : la = 0 := (congrArg (fun x : mk_T => x.2.1) e).symm
          exact hz (h.trans this)
        | succ i =>
          have h3 := mk_la g i
          rw [e] at h3
          exact hne (by omega) hi (h.trans h3)
      refine Or.inr ⟨hz, _, _, mk_s_n e hz hla, fun j hj => ⟨(va_up_n _ _ (by omega)).symm, (va_up_n _ _ (by omega)).symm⟩, va_up_s _ _ _, va_up_s _ _ _⟩
  · obtain ⟨i, rfl⟩ : ∃ k, i = k + 1 := ⟨i - 1, by omega⟩
    rw [Nat.add_sub_cancel] at he h2
    rcases h2 with ⟨hz, e⟩ | ⟨hz, c', l', e, hp, e1, e2⟩
    · exact Or.inl ⟨by rw [he]; exact hz, mk_s_0 e (by rw [he]; exact hz)⟩
    · have e3 := mk_s_m e (by rw [he]; exact hz) he
      rw [Nat.add_sub_cancel, e2] at e3
      exact Or.inr ⟨by rw [he]; exact hz, c', _, e3, fun j hj => ⟨(hp j hj).1, by rw [va_up_n _ _ (by omega)]; exact (hp j hj).2⟩, by rw [he]; exact e1, va_up_s _ _ _⟩
theorem Rm.go (h : Rm g i st n c l) (hs : 0 < st) (hi : i + 1 < le) (he : g (i + 1) = g i) : Rd g le (i + 1) st n c l := Or.inr ⟨hs, by omega, hi, he, h⟩
theorem Rm.zero (h : Rm g i st n c l) (hz : g i = 0) (hov : i + 1 = le ∨ g (i + 1) ≠ g i) : Rd g le (i + 1) 0 n c l := by
  rcases h with ⟨-, e⟩ | ⟨h, -⟩
  · exact Or.inl ⟨rfl, ⟨0, e⟩, fun _ h1 => by rcases hov with h | h; omega; exact h⟩
  · exact absurd hz h
theorem Rm.over (h : Rm g i st n c l) (hz : g i ≠ 0) (hov : i + 1 = le ∨ g (i + 1) ≠ g i) : ∃ c' l', Rd g le (i + 1) 0 (n + 1) c' l' ∧ mk_s g (i + 1) = (n + 1, g i, c', l') ∧ ∀ j, j < n + 1 → va_up c n (g i) j = c' j ∧ va_up l n st j = l' j := by
  rcases h with ⟨h, -⟩ | ⟨-, c', l', e, hp, e1, e2⟩
  · exact absurd h hz
  · refine ⟨c', l', Or.inl ⟨rfl, ⟨_, e⟩, fun _ h1 => by rcases hov with h | h; omega; exact h⟩, e, fun j hj => ?_⟩
    by_cases h : j = n
    · subst h
      rw [va_up_s, va_up_s]
      exact ⟨e1.symm, e2.symm⟩
    · rw [va_up_n _ _ h, va_up_n _ _ h]
      exact hp j (by omega)
theorem Rd.first : Rd g le 0 0 0 (fun _ => 0) (fun _ => 0) := Or.inl ⟨rfl, ⟨0, rfl⟩, fun h => absurd h (by decide)⟩
theorem Rd.last (h : Rd g le le st n c l) : ∃ la, mk_s g le = (n, la, c, l) := by
  rcases h with ⟨-, h, -⟩ | ⟨-, -, h, -⟩
  · exact h
  · omega
end
