/-! PURE: a line's fillings that fit, counted over its placements -/
def ln_P (c l : Nat → Nat) (n L : Nat) (may : Nat → Nat) (pl : Nat → Nat) : Bool := ln_fits may L (ln_fil c l pl n) && decide (ln_e l pl n ≤ L)
def ln_Pk (c l : Nat → Nat) (n L : Nat) (may : Nat → Nat) (k v : Nat) (pl : Nat → Nat) : Bool := ln_P c l n L may pl && decide (ln_fil c l pl n k = v)
def ln_P0 (l : Nat → Nat) (n L : Nat) (pl : Nat → Nat) : Bool := decide (ln_e l pl n ≤ L)
/-- how many FILLINGS fit -/
def ln_W (c l : Nat → Nat) (n L : Nat) (may : Nat → Nat) : Nat := ln_N c l L (ln_P c l n L may) n 0 (fun _ => 0)
/-- how many have v at cell k -/
def ln_Wk (c l : Nat → Nat) (n L : Nat) (may : Nat → Nat) (k v : Nat) : Nat := ln_N c l L (ln_Pk c l n L may k v) n 0 (fun _ => 0)
theorem ln_fil_congr {c l pl pl' : Nat → Nat} : ∀ (n : Nat), (∀ i, i < n → pl i = pl' i) → ln_fil c l pl n = ln_fil c l pl' n := by
  intro n
  induction n with
  | zero => intro _; rfl
  | succ n ih =>
    intro h
    funext k
    show (if pl n ≤ k ∧ k < pl n + l n then c n else _) = if pl' n ≤ k ∧ k < pl' n + l n then c n else _
    rw [h n (by omega), ih (fun i hi => h i (by omega))]
section
variable {c l : Nat → Nat} {n L : Nat} {may : Nat → Nat}
theorem ln_P_c (pl pl' : Nat → Nat) (h : ∀ i, i < n → pl i = pl' i) : ln_P c l n L may pl = ln_P c l n L may pl' := by
  unfold ln_P
  rw [ln_fil_congr n h, ln_e_congr h]
theorem ln_P_e (pl : Nat → Nat) (h : ln_P c l n L may pl = true) : ln_e l pl n ≤ L := by
  unfold ln_P at h
  simp only [Bool.and_eq_true, decide_eq_true_eq] at h
  exact h.2
theorem ln_Pk_c {k v : Nat} (pl pl' : Nat → Nat) (h : ∀ i, i < n → pl i = pl' i) : ln_Pk c l n L may k v pl = ln_Pk c l n L may k v pl' := by
  unfold ln_Pk
  rw [ln_P_c pl pl' h, ln_fil_congr n h]
theorem ln_Pk_e {k v : Nat} (pl : Nat → Nat) (h : ln_Pk c l n L may k v pl = true) : ln_e l pl n ≤ L := by
  unfold ln_Pk at h
  simp only [Bool.and_eq_true] at h
  exact ln_P_e pl h.1
theorem ln_P0_c (pl pl' : Nat → Nat) (h : ∀ i, i < n → pl i = pl' i) : ln_P0 l n L pl = ln_P0 l n L pl' := by
  unfold ln_P0
  rw [ln_e_congr h]
theorem ln_P0_e (pl : Nat → Nat) (h : ln_P0 l n L pl = true) : ln_e l pl n ≤ L := of_decide_eq_true h
theorem ln_S_split (c l : Nat → Nat) : ∀ (j k r : Nat), ln_S c l (j + k) r = ln_S c l j r + ln_S c l k (r + j) := by
  intro j
  induction j with
  | zero => intro k r; simp [ln_S]
  | succ j ih =>
    intro k r
    rw [show j + 1 + k = (j + k) + 1 by omega]
    show ln_sp c r + l r + ln_S c l (j + k) (r + 1) = ln_sp c r + l r + ln_S c l j (r + 1) + _
    rw [ih k (r + 1), show r + 1 + j = r + (j + 1) by omega]
    omega
theorem ln_S_le {k r : Nat} (h : r + k ≤ n) : ln_S c l k r ≤ ln_S c l n 0 := by
  obtain ⟨d, rfl⟩ := Nat.exists_eq_add_of_le h
  rw [ln_S_split, ln_S_split, Nat.zero_add]
  omega
theorem ln_l_le {i : Nat} (h : i < n) : l i ≤ ln_S c l n 0 := by
  have h1 := ln_S_le (c := c) (l := l) (n := n) (k := 1) (r := i) (by omega)
  have h2 : ln_S c l 1 i = ln_sp c i + l i + 0 := rfl
  omega
/-- a placement that keeps its order: each run behind the ones ahead, the last one within -/
def ln_ok (c l : Nat → Nat) (n L : Nat) (pl : Nat → Nat) : Prop := (∀ i, i < n → ln_fst c l pl i ≤ pl i) ∧ ln_e l pl n ≤ L
theorem ln_ok_end {pl : Nat → Nat} (h : ln_ok c l n L pl) : ∀ (d i : Nat), i + d + 1 = n → pl i + l i ≤ L := by
  intro d
  induction d with
  | zero =>
    intro i hi
    have h2 := h.2
    rw [show n = i + 1 by omega, ln_e, if_neg (by omega)] at h2
    simpa using h2
  | succ d ih =>
    intro i hi
    have h1 := ih (i + 1) (by omega)
    have h2 := h.1 (i + 1) (by omega)
    unfold ln_fst at h2
    rw [ln_e, if_neg (by omega)] at h2
    simp only [Nat.add_sub_cancel] at h2
    omega
theorem ln_ok_in {pl : Nat → Nat} (h : ln_ok c l n L pl) {i : Nat} (hi : i < n) : pl i + l i ≤ L := ln_ok_end h (n - 1 - i) i (by omega)
/-- the placement behind pl, if run r can go one further -/
def ln_q (c l : Nat → Nat) (n r : Nat) (pl : Nat → Nat) : Nat → Nat := ln_lay c l (va_up pl r (pl r + 1)) (r + 1) (n - (r + 1))
theorem ln_q_lt {pl : Nat → Nat} {r i : Nat} (h : i < r) : ln_q c l n r pl i = pl i := by
  unfold ln_q
  rw [ln_lay_lt _ _ _ _ _ _ (by omega)]
  unfold va_up
  rw [if_neg (by omega)]
theorem ln_q_r {pl : Nat → Nat} {r : Nat} : ln_q c l n r pl r = pl r + 1 := by
  unfold ln_q
  rw [ln_lay_lt _ _ _ _ _ _ (by omega)]
  simp [va_up]
theorem ln_q_gt {pl : Nat → Nat} {r i : Nat} (h : r < i) (hi : i < n) : ln_q c l n r pl i = ln_fst c l (ln_q c l n r pl) i := by
  unfold ln_q
  exact ln_lay_in _ _ _ _ _ _ (by omega) (by omega)
theorem ln_q_e {pl : Nat → Nat} {r : Nat} (hr : r < n) : ln_e l (ln_q c l n r pl) n = pl r + 1 + l r + ln_S c l (n - (r + 1)) (r + 1) := by
  have h := ln_lay_e c l (va_up pl r (pl r + 1)) (r + 1) (n - (r + 1))
  rw [show r + 1 + (n - (r + 1)) = n by omega] at h
  unfold ln_q
  rw [h]
  simp [ln_e, va_up]
theorem ln_q_ok {pl : Nat → Nat} {r : Nat} (hr : r < n) (h : ln_ok c l n L pl) (hg : pl r + 1 + l r + ln_S c l (n - (r + 1)) (r + 1) ≤ L) : ln_ok c l n L (ln_q c l n r pl) := by
  refine ⟨fun i hi => ?_, by rw [ln_q_e hr]; exact hg⟩
  rcases Nat.lt_trichotomy i r with h1 | h1 | h1
  · rw [ln_fst_congr (pl' := pl) (fun j hj => ln_q_lt (by omega)), ln_q_lt h1]
    exact h.1 i hi
  · subst h1
    rw [ln_fst_congr (pl' := pl) (fun j hj => ln_q_lt (by omega)), ln_q_r]
    have := h.1 i hi
    omega
  · exact Nat.le_of_eq (ln_q_gt h1 hi).symm
theorem ln_goes {P : (Nat → Nat) → Bool} (hP : ∀ pl pl' : Nat → Nat, (∀ i, i < n → pl i = pl' i) → P pl = P pl') (hE : ∀ pl, P pl = true → ln_e l pl n ≤ L) {r : Nat} (hr : r < n) {pl : Nat → Nat} (hg : pl r + 1 + l r + ln_S c l (n - (r + 1)) (r + 1) ≤ L) (hno : ∀ i, r < i → i < n → L < pl i + 1 + l i + ln_S c l (n - 1 - i) (i + 1)) : ln_Rm c l L P n 0 pl = (if P pl = true then 1 else 0) + ln_Rm c l L P n 0 (ln_q c l n r pl) := by
  have h := ln_next hP hE hr (pl := pl) (q := ln_q c l n r pl) (fun i hi => ln_q_lt hi) ln_q_r (fun i h1 h2 => ln_q_gt h1 h2) (by omega) hno r n 0 (by omega) (by omega)
  rw [← h]
  rfl
theorem ln_stops {P : (Nat → Nat) → Bool} (hE : ∀ pl, P pl = true → ln_e l pl n ≤ L) {pl : Nat → Nat} (hno : ∀ i, i < n → L < pl i + 1 + l i + ln_S c l (n - 1 - i) (i + 1)) : ln_Rm c l L P n 0 pl = (if P pl = true then 1 else 0) := by
  have h := ln_T_none (c := c) hE n 0 pl (by omega) (fun i _ h2 => hno i h2)
  unfold ln_Rm
  rw [h]
  omega
theorem ln_begins {P : (Nat → Nat) → Bool} (hP : ∀ pl pl' : Nat → Nat, (∀ i, i < n → pl i = pl' i) → P pl = P pl') (hE : ∀ pl, P pl = true → ln_e l pl n ≤ L) (pl : Nat → Nat) : ln_Rm c l L P n 0 (ln_lay c l pl 0 n) = ln_N c l L P n 0 (fun _ => 0) := by
  rw [ln_min hP hE n 0 _ (by omega) (fun i _ h2 => ln_lay_in c l pl 0 n i (by omega) (by omega))]
  exact ln_N_congr hP n 0 _ _ (by omega) (fun i hi => by omega)
/-- what is known of what was counted: many for P, and got's bits, ahead of (b = 1) or behind (b = 0) the placement pl -/
def ln_cnt (c l : Nat → Nat) (n L : Nat) (may : Nat → Nat) (many : Nat) (got : Nat → Nat) (rm : ((Nat → Nat) → Bool) → Nat) : Prop :=
  many + rm (ln_P c l n L may) = ln_W c l n L may ∧ ∀ k, k < L → got k < 16 ∧ ∀ v, ∃ t, t + rm (ln_Pk c l n L may k v) = ln_Wk c l n L may k v ∧ ((got k).testBit v = true ↔ 0 < t)
end
theorem ln_bit16 {a v : Nat} (ha : a < 16) (hv : v ≤ 3) : a ||| 1 <<< v < 16 := by
  have h : 1 <<< v < 2 ^ 4 := by
    rcases (show v = 0 ∨ v = 1 ∨ v = 2 ∨ v = 3 by omega) with rfl | rfl | rfl | rfl <;> decide
  exact Nat.or_lt_two_pow (n := 4) ha h
theorem ln_bit_or (a v w : Nat) : (a ||| 1 <<< v).testBit w = (a.testBit w || decide (v = w)) := by
  rw [Nat.testBit_or, Nat.one_shiftLeft, Nat.testBit_two_pow]
/-- the placement at hand is counted -/
theorem ln_cnt_one {c l : Nat → Nat} {n L : Nat} {may : Nat → Nat} {many : Nat} {got : Nat → Nat} {pl : Nat → Nat} {rm : ((Nat → Nat) → Bool) → Nat} (h : ln_cnt c l n L may many got (fun P => (if P pl = true then 1 else 0) + rm P)) (hc : ∀ i, i < n → c i ≤ 3) (he : ln_e l pl n ≤ L) :
    (ln_fits may L (ln_fil c l pl n) = true → ln_cnt c l n L may (many + 1) (fun k => got k ||| 1 <<< ln_fil c l pl n k) rm) ∧ (ln_fits may L (ln_fil c l pl n) = false → ln_cnt c l n L may many got rm) := by
  obtain ⟨h1, h2⟩ := h
  constructor
  · intro hf
    have hP : ln_P c l n L may pl = true := by unfold ln_P; simp [hf, he]
    refine ⟨by simp only [hP, if_true] at h1; omega, fun k hk => ⟨ln_bit16 (h2 k hk).1 (ln_fil_le (pl := pl) (l := l) hc n k (Nat.le_refl _)), fun v => ?_⟩⟩
    obtain ⟨t, t1, t2⟩ := (h2 k hk).2 v
    rw [ln_bit_or]
    by_cases hv : ln_fil c l pl n k = v
    · have hK : ln_Pk c l n L may k v pl = true := by unfold ln_Pk; simp [hP, hv]
      simp only [hK, if_true] at t1
      exact ⟨t + 1, by omega, by simp [hv]⟩
    · have hK : ln_Pk c l n L may k v pl = false := by unfold ln_Pk; simp [hv]
      simp only [hK] at t1
      exact ⟨t, by simpa using t1, by simp [hv, t2]⟩
  · intro hf
    have hP : ln_P c l n L may pl = false := by unfold ln_P; simp [hf]
    refine ⟨by simp only [hP] at h1; simpa using h1, fun k hk => ⟨(h2 k hk).1, fun v => ?_⟩⟩
    obtain ⟨t, t1, t2⟩ := (h2 k hk).2 v
    have hK : ln_Pk c l n L may k v pl = false := by unfold ln_Pk; simp [hP]
    simp only [hK] at t1
    exact ⟨t, by simpa using t1, t2⟩
