/-! PURE: the runs of a line of a picture: (n, last, colours, lengths) after i cells -/
abbrev mk_T : Type := Nat × Nat × (Nat → Nat) × (Nat → Nat)
def mk_1 (v : Nat) (q : mk_T) : mk_T := match q with
  | (n, last, c, l) => if v = 0 then (n, 0, c, l) else if v ≠ last then (n + 1, v, va_up c n v, va_up l n 1) else (n, v, c, va_up l (n - 1) (l (n - 1) + 1))
def mk_s (g : Nat → Nat) : Nat → mk_T
  | 0 => (0, 0, fun _ => 0, fun _ => 0)
  | i + 1 => mk_1 (g i) (mk_s g i)
theorem mk_s_0 {g : Nat → Nat} {i n last : Nat} {c l : Nat → Nat} (h : mk_s g i = (n, last, c, l)) (hv : g i = 0) : mk_s g (i + 1) = (n, 0, c, l) := by
  show mk_1 (g i) (mk_s g i) = _
  rw [h]; unfold mk_1; dsimp only; rw [if_pos hv]
theorem mk_s_n {g : Nat → Nat} {i n last : Nat} {c l : Nat → Nat} (h : mk_s g i = (n, last, c, l)) (hv : ¬ g i = 0) (h2 : ¬ g i = last) : mk_s g (i + 1) = (n + 1, g i, va_up c n (g i), va_up l n 1) := by
  show mk_1 (g i) (mk_s g i) = _
  rw [h]; unfold mk_1; dsimp only; rw [if_neg hv, if_pos h2]
theorem mk_s_m {g : Nat → Nat} {i n last : Nat} {c l : Nat → Nat} (h : mk_s g i = (n, last, c, l)) (hv : ¬ g i = 0) (h2 : g i = last) : mk_s g (i + 1) = (n, g i, c, va_up l (n - 1) (l (n - 1) + 1)) := by
  show mk_1 (g i) (mk_s g i) = _
  rw [h]; unfold mk_1; dsimp only; rw [if_neg hv, if_neg (fun k => k h2)]
theorem mk_sp_up {c : Nat → Nat} {n i v : Nat} (h : i < n) : ln_sp (va_up c n v) i = ln_sp c i := by
  unfold ln_sp
  rw [va_up_n _ _ (by omega), va_up_n _ _ (by omega)]
theorem mk_S_congr {c c' l l' : Nat → Nat} : ∀ n, (∀ i, i < n → c i = c' i ∧ l i = l' i) → ln_S c l n 0 = ln_S c' l' n 0 := by
  intro n
  induction n with
  | zero => intro _; rfl
  | succ n ih =>
    intro h
    rw [ln_S_snoc, ln_S_snoc, ih (fun i hi => h i (by omega)), Nat.zero_add, (h n (by omega)).2]
    have : ln_sp c n = ln_sp c' n := by
      unfold ln_sp
      cases n with
      | zero => rfl
      | succ n => rw [(h (n + 1) (by omega)).1, (h (n + 1 - 1) (by omega)).1]
    rw [this]
/-- what holds of the runs read -/
theorem mk_inv {g : Nat → Nat} {C : Nat} : ∀ (i n last : Nat) (c l : Nat → Nat), (∀ k, k < i → g k ≤ C) → mk_s g i = (n, last, c, l) → n ≤ i ∧ (∀ k, k < n → 1 ≤ c k ∧ c k ≤ C ∧ 1 ≤ l k ∧ l k ≤ i) ∧ ln_S c l n 0 ≤ i ∧ (1 ≤ n → last = 0 → ln_S c l n 0 + 1 ≤ i) ∧ (last ≠ 0 → 1 ≤ n ∧ c (n - 1) = last) := by
  intro i
  induction i with
  | zero =>
    intro n last c l _ h
    cases h
    exact ⟨Nat.le_refl _, fun k hk => absurd hk (Nat.not_lt_zero _), Nat.le_refl _, fun h => absurd h (by decide), fun h => absurd rfl h⟩
  | succ i ih =>
    intro n last c l hg h
    cases e : mk_s g i with
    | mk n0 q =>
      obtain ⟨last0, c0, l0⟩ := q
      obtain ⟨i1, i2, i3, i4, i5⟩ := ih n0 last0 c0 l0 (fun k hk => hg k (by omega)) e
      by_cases hv : g i = 0
      · rw [mk_s_0 e hv] at h
        cases h
        refine ⟨by omega, fun k hk => ?_, by omega, fun h1 _ => by omega, fun h => absurd rfl h⟩
        obtain ⟨j1, j2, j3, j4⟩ := i2 k hk
        exact ⟨j1, j2, j3, by omega⟩
      · by_cases h2 : g i = last0
        · rw [mk_s_m e hv h2] at h
          cases h
          obtain ⟨j1, j2⟩ := i5 (by omega)
          obtain ⟨n, rfl⟩ : ∃ k, n = k + 1 := ⟨n - 1, by omega⟩
          rw [Nat.add_sub_cancel] at j2 ⊢
          have hS : ln_S c (va_up l0 n (l0 n + 1)) (n + 1) 0 = ln_S c l0 (n + 1) 0 + 1 := by
            rw [ln_S_snoc, ln_S_snoc, Nat.zero_add, va_up_s, mk_S_congr (c := c) (c' := c) (l := va_up l0 n (l0 n + 1)) (l' := l0) n (fun k hk => ⟨rfl, va_up_n _ _ (by omega)⟩)]
            omega
          refine ⟨by omega, fun k hk => ?_, by omega, fun _ h => absurd h hv, fun _ => ⟨by omega, by omega⟩⟩
          obtain ⟨k1, k2, k3, k4⟩ := i2 k hk
          by_cases hkn : k = n
          · subst hkn; rw [va_up_s]; exact ⟨k1, k2, by omega, by omega⟩
          · rw [va_up_n _ _ hkn]; exact ⟨k1, k2, k3, by omega⟩
        · rw [mk_s_n e hv h2] at h
          cases h
          have hS : ln_S (va_up c0 n0 (g i)) (va_up l0 n0 1) (n0 + 1) 0 = ln_S c0 l0 n0 0 + ln_sp (va_up c0 n0 (g i)) n0 + 1 := by
            rw [ln_S_snoc, Nat.zero_add, va_up_s, mk_S_congr (c := va_up c0 n0 (g i)) (c' := c0) (l := va_up l0 n0 1) (l' := l0) n0 (fun k hk => ⟨va_up_n _ _ (by omega), va_up_n _ _ (by omega)⟩)]
          have hsp : ln_sp (va_up c0 n0 (g i)) n0 ≤ 1 ∧ (n0 = 0 → ln_sp (va_up c0 n0 (g i)) n0 = 0) ∧ (last0 ≠ 0 → ln_sp (va_up c0 n0 (g i)) n0 = 0) := by
            unfold ln_sp
            refine ⟨by (repeat' split) <;> omega, fun h => by rw [if_pos h], fun h => ?_⟩
            obtain ⟨j1, j2⟩ := i5 h
            rw [if_neg (by omega), va_up_s, va_up_n _ _ (by omega), j2]
            exact if_neg h2
          refine ⟨by omega, fun k hk => ?_, ?_, fun _ h => absurd h hv, fun _ => ⟨by omega, by rw [Nat.add_sub_cancel, va_up_s]⟩⟩
          · by_cases hkn : k = n0
            · subst hkn; rw [va_up_s, va_up_s]; exact ⟨by omega, hg i (by omega), Nat.le_refl _, by omega⟩
            · obtain ⟨k1, k2, k3, k4⟩ := i2 k (by omega)
              rw [va_up_n _ _ hkn, va_up_n _ _ hkn]; exact ⟨k1, k2, k3, by omega⟩
          · rw [hS]
            by_cases h0 : last0 = 0
            · by_cases hn : n0 = 0
              · have := hsp.2.1 hn; omega
              · have := i4 (by omega) h0; omega
            · have := hsp.2.2 h0; omega
/-- the canvas, by line and cell of a puzzle of b rows -/
def mk_g (A : md_A) (b ln i : Nat) : Nat := if ln < b then A 9 (10 * ln + i) else A 9 (10 * i + (ln - b))
def mk_L (a b ln : Nat) : Nat := if ln < b then a else b
def mk_fit (A : md_A) (a b c : Nat) : Prop := ∀ y x, y < b → x < a → A 9 (10 * y + x) ≤ c
def mk_ln (A : md_A) (a b ln : Nat) : mk_T := mk_s (mk_g A b ln) (mk_L a b ln)
/-- p's runs are the runs given: nothing else has changed that counts -/
def D_runs (A A2 : md_A) (p N : Nat) (f : Nat → Nat × (Nat → Nat) × (Nat → Nat)) : Prop := (∀ k, k ≠ 5 → k ≠ 6 → k ≠ 7 → A2 k = A k) ∧ A2 5 = md_cp A 5 (20 * p) (fun ln => (f ln).1) N 5 ∧ (∀ j, j < 200 * p → A2 6 j = A 6 j ∧ A2 7 j = A 7 j) ∧ ∀ ln, ln < N → ∀ i, i < (f ln).1 → A2 6 (10 * (20 * p + ln) + i) = (f ln).2.1 i ∧ A2 7 (10 * (20 * p + ln) + i) = (f ln).2.2 i
def mk_f (A : md_A) (a b : Nat) (ln : Nat) : Nat × (Nat → Nat) × (Nat → Nat) := ((mk_ln A a b ln).1, (mk_ln A a b ln).2.2.1, (mk_ln A a b ln).2.2.2)
def D_make (I : md_I) (A : md_A) (x y w z : Int32) (I2 : md_I) (A2 : md_A) : Prop := (∃ a b c, D_pz I x y w a b c ∧ mk_fit A a b c ∧ z = nI (I 0) ∧ I2 = va_up I 0 (I 0 + 1) ∧ D_runs (D_new I A a b c) A2 (I 0) (a + b) (mk_f A a b)) ∨ (¬ (∃ a b c, D_pz I x y w a b c ∧ mk_fit A a b c) ∧ z = -1 ∧ I2 = I ∧ A2 = A)
/-- one more line's runs -/
theorem D_runs.next {A A1 A2 : md_A} {p N : Nat} {f : Nat → Nat × (Nat → Nat) × (Nat → Nat)} (h : D_runs A A1 p N f) (h1 : ∀ k, k ≠ 6 → k ≠ 7 → A2 k = A1 k) (hN : N < 20) (h2 : ∀ j, j < 10 * (20 * p + N) → A2 6 j = A1 6 j ∧ A2 7 j = A1 7 j) (h3 : ∀ i, i < (f N).1 → A2 6 (10 * (20 * p + N) + i) = (f N).2.1 i ∧ A2 7 (10 * (20 * p + N) + i) = (f N).2.2 i) (hf : ∀ ln, ln < N → (f ln).1 ≤ 10) : D_runs A (md_st A2 5 (20 * p + N) (f N).1) p (N + 1) f := by
  obtain ⟨g1, g2, g3, g4⟩ := h
  refine ⟨fun k k5 k6 k7 => (md_st_k _ k5).trans ((h1 k k6 k7).trans (g1 k k5 k6 k7)), ?_, fun j hj => ?_, fun ln hl i hi => ?_⟩
  · rw [← md_cp_s]
    funext j
    rw [md_st_at, md_st_at, h1 5 (by decide) (by decide), g2]
  · rw [md_st_k _ (by decide), md_st_k _ (by decide)]
    obtain ⟨e1, e2⟩ := h2 j (by omega)
    obtain ⟨e3, e4⟩ := g3 j hj
    exact ⟨e1.trans e3, e2.trans e4⟩
  · rw [md_st_k _ (by decide), md_st_k _ (by decide)]
    by_cases hlN : ln = N
    · subst hlN
      exact h3 i hi
    · have := hf ln (by omega)
      obtain ⟨e1, e2⟩ := h2 (10 * (20 * p + ln) + i) (by omega)
      obtain ⟨e3, e4⟩ := g4 ln (by omega) i hi
      exact ⟨e1.trans e3, e2.trans e4⟩
theorem D_runs.zero {A : md_A} {p : Nat} {f : Nat → Nat × (Nat → Nat) × (Nat → Nat)} : D_runs A A p 0 f := ⟨fun _ _ _ _ => rfl, by rw [md_cp_0], fun _ _ => ⟨rfl, rfl⟩, fun ln h => absurd h (Nat.not_lt_zero _)⟩
