/-! PURE: lines at rest; a round that steps only lines that wait -/
section
variable {A : md_A} {p ln : Nat} {S S' : Nat → Nat}
/-- line ln is at rest: it isn't broken, and a step takes nothing -/
def Rst (A : md_A) (p : Nat) (S : Nat → Nat) (ln : Nat) : Prop := 0 < pz_W A p ln S ∧ ∀ k, k < pz_L A p ln → ln_df (S (pz_cell A p ln k)) (pz_K A p ln S k) = 0
theorem gn_pz : ∀ k, pz_gn A p ln S k = gn_f (fun k => ln_df (S (pz_cell A p ln k)) (pz_K A p ln S k)) k
  | 0 => rfl
  | k + 1 => by
    show pz_gn A p ln S k + _ = gn_f _ k + _
    rw [gn_pz k]
theorem pop_0 {a : Nat} (ha : a < 16) : ln_pop a = 0 ↔ a = 0 := by
  have key : ∀ a, a < 16 → (ln_pop a = 0 ↔ a = 0) := by decide +kernel
  exact key a ha
theorem gn_0 {D : Nat → Nat} : ∀ m, (∀ k, k < m → D k < 16) → (gn_f D m = 0 ↔ ∀ k, k < m → D k = 0)
  | 0, _ => ⟨fun _ k hk => absurd hk (Nat.not_lt_zero _), fun _ => rfl⟩
  | m + 1, h => by
    have ih := gn_0 (D := D) m (fun k hk => h k (by omega))
    show gn_f D m + ln_pop (D m) = 0 ↔ _
    constructor
    · intro g k hk
      by_cases hkm : k = m
      · subst hkm
        exact (pop_0 (h k (by omega))).mp (by omega)
      · exact ih.mp (by omega) k (by omega)
    · intro g
      have h1 := ih.mpr (fun k hk => g k (by omega))
      have h2 := (pop_0 (h m (by omega))).mpr (g m (by omega))
      omega
theorem pz_K_lt (k : Nat) : pz_K A p ln S k < 16 := ln_K_lt _ _ _ _ _ _
theorem df_and {a b : Nat} (ha : a < 16) (hb : b < 16) : ln_df (a &&& b) b = 0 := by
  have key : ∀ a, a < 16 → ∀ b, b < 16 → ln_df (a &&& b) b = 0 := by decide +kernel
  exact key a ha b hb
theorem Rst.gone (hz : Pz A p) (hl : ln < A 1 p + A 2 p) (hs : Ps A p S) : Rst A p S ln ↔ 0 < pz_W A p ln S ∧ pz_gone A p ln S = 0 := by
  unfold Rst pz_gone
  rw [gn_pz, gn_0 _ (fun k hk => ln_df_lt (hs _ (pz_cell_lt hz hl hk)) (pz_K_lt k))]
theorem Rst.stp (hz : Pz A p) (hl : ln < A 1 p + A 2 p) (hs : Ps A p S) (h : Rst A p S ln) (x : Nat) : pz_stp A p ln S x = S x := by
  by_cases hx : ∃ k, k < pz_L A p ln ∧ x = pz_cell A p ln k
  · obtain ⟨k, hk, rfl⟩ := hx
    rw [pz_stp_in hz hl hk]
    exact df_0 (hs _ (pz_cell_lt hz hl hk)) (pz_K_lt k) (h.2 k hk)
  · exact pz_stp_out (fun k hk e => hx ⟨k, hk, e⟩)
/-- behind its own step a line is at rest -/
theorem Rst.own (hz : Pz A p) (hl : ln < A 1 p + A 2 p) (hs : Ps A p S) (h : 0 < pz_W A p ln S) : Rst A p (pz_stp A p ln S) ln := by
  obtain ⟨-, -, hr⟩ := hz.2.2.2.2 ln hl
  have hc3 := hz.2.2.2.1.2
  have ha := ln_again (c := pz_c A p ln) (l := pz_l A p ln) (n := pz_n A p ln) (L := pz_L A p ln) (may := fun j => S (pz_cell A p ln j)) (may' := fun j => pz_stp A p ln S (pz_cell A p ln j)) (fun i hi => (hr i hi).2.2) (fun i hi => by have := (hr i hi).2.1; omega) (fun i hi => hs _ (pz_cell_lt hz hl hi)) (fun i hi => pz_stp_in hz hl hi)
  refine ⟨ha.1.mpr h, fun k hk => ?_⟩
  have e : pz_K A p ln (pz_stp A p ln S) k = pz_K A p ln S k := ha.2 k hk
  rw [e, pz_stp_in hz hl hk]
  exact df_and (hs _ (pz_cell_lt hz hl hk)) (pz_K_lt k)
/-- a line sees its own cells alone -/
theorem Rst.same (h : ∀ k, k < pz_L A p ln → S (pz_cell A p ln k) = S' (pz_cell A p ln k)) (hr : Rst A p S ln) : Rst A p S' ln := by
  have e1 : pz_W A p ln S' = pz_W A p ln S := (ln_W_may h).symm
  have e2 : ∀ k, pz_K A p ln S' k = pz_K A p ln S k := fun k => (ln_K_may h k).symm
  refine ⟨by rw [e1]; exact hr.1, fun k hk => ?_⟩
  rw [e2, ← h k hk]
  exact hr.2 k hk
theorem Rst.on (hz : Pz A p) (hl : ln < A 1 p + A 2 p) (h : pz_on A p S S') (hr : Rst A p S ln) : Rst A p S' ln := hr.same (fun k hk => h _ (pz_cell_lt hz hl hk))
/-- the line ahead of which the lines that cross ln begin -/
def pz_cr (A : md_A) (p ln : Nat) : Nat := if ln < A 2 p then A 2 p else 0
theorem ln_cross {w h a b i k : Nat} (ha : a < w + h) (hb : b < w + h) (hi : i < if a < h then w else h) (hk : k < if b < h then w else h) (hne : a ≠ b) (e : ln_cell w h a i = ln_cell w h b k) : a = (if b < h then h else 0) + k := by
  unfold ln_cell at e
  have key : ∀ x y u v : Nat, u < w → v < w → x * w + u = y * w + v → x = y ∧ u = v := by
    intro x y u v hu hv e
    have h1 : (x * w + u) / w = x := by rw [Nat.mul_comm, Nat.mul_add_div (by omega), Nat.div_eq_of_lt hu, Nat.add_zero]
    have h2 : (y * w + v) / w = y := by rw [Nat.mul_comm, Nat.mul_add_div (by omega), Nat.div_eq_of_lt hv, Nat.add_zero]
    have hxy : x = y := by rw [← h1, ← h2, e]
    subst hxy
    exact ⟨rfl, by omega⟩
  by_cases h1 : a < h
  · rw [if_pos h1] at e hi
    by_cases h2 : b < h
    · rw [if_pos h2] at e hk
      exact absurd (key a b i k hi hk e).1 hne
    · rw [if_neg h2] at e hk
      rw [if_neg h2]
      have := key a k i (b - h) hi (by omega) (by omega)
      omega
  · rw [if_neg h1] at e hi
    by_cases h2 : b < h
    · rw [if_pos h2] at e hk
      rw [if_pos h2]
      have := key i b (a - h) k (by omega) hk (by omega)
      omega
    · rw [if_neg h2] at e hk
      have := key i k (a - h) (b - h) (by omega) (by omega) (by omega)
      omega
/-- another line stays at rest if its crossing cell loses nothing -/
theorem Rst.other (hz : Pz A p) {a : Nat} (ha : a < A 1 p + A 2 p) (hl : ln < A 1 p + A 2 p) (hs : Ps A p S) (hne : a ≠ ln) (hr : Rst A p S a) (hno : ∀ k, k < pz_L A p ln → a = pz_cr A p ln + k → ln_df (S (pz_cell A p ln k)) (pz_K A p ln S k) = 0) : Rst A p (pz_stp A p ln S) a := by
  refine hr.same (fun i hi => ?_)
  by_cases hx : ∃ k, k < pz_L A p ln ∧ pz_cell A p a i = pz_cell A p ln k
  · obtain ⟨k, hk, e⟩ := hx
    have h1 := ln_cross ha hl hi hk hne e
    rw [e, pz_stp_in hz hl hk]
    exact (df_0 (hs _ (pz_cell_lt hz hl hk)) (pz_K_lt k) (hno k hk h1)).symm
  · exact (pz_stp_out (fun k hk e => hx ⟨k, hk, e⟩)).symm
theorem pz_tot_on (h : pz_on A p S S') : pz_tot A p S = pz_tot A p S' := ln_sum_congr _ _ (fun x _ hx => by rw [h x (by omega)])
theorem pz_on.rfl' : pz_on A p S S := fun _ _ => rfl
theorem pz_on.trans {S'' : Nat → Nat} (h : pz_on A p S S') (k : pz_on A p S' S'') : pz_on A p S S'' := fun x hx => (h x hx).trans (k x hx)
/-- all at rest: a round takes nothing -/
theorem pz_rd_rest (hz : Pz A p) (hs : Ps A p S) (hr : ∀ k, k < A 1 p + A 2 p → Rst A p S k) : ∀ k, k ≤ A 1 p + A 2 p → ∃ S1, pz_rd A p k S = some (S1, 0) ∧ pz_on A p S S1 := by
  intro k
  induction k with
  | zero => intro _; exact ⟨S, rfl, pz_on.rfl'⟩
  | succ k ih =>
    intro hk
    obtain ⟨S1, e, ho⟩ := ih (by omega)
    have hs1 := pz_on_ps ho hs
    have hr1 := (hr k (by omega)).on hz (by omega) ho
    have hg := (Rst.gone hz (by omega) hs1).mp hr1
    refine ⟨pz_stp A p k S1, ?_, ho.trans (fun x _ => (hr1.stp hz (by omega) hs1 x).symm)⟩
    rw [pz_rd_s e, if_neg (by omega), hg.2]
theorem pz_st_rest (hz : Pz A p) (hs : Ps A p S) (hr : ∀ k, k < A 1 p + A 2 p → Rst A p S k) (f : Nat) : ∃ S1, pz_st A p (f + 1) S = some (0, S1) ∧ pz_on A p S S1 := by
  obtain ⟨S1, e, ho⟩ := pz_rd_rest hz hs hr _ (Nat.le_refl _)
  refine ⟨S1, ?_, ho⟩
  rw [pz_st_s, e]
  rfl
/-- what is said of settling S0, by what is left to settle: r rounds took something ahead of S -/
def Rem (A : md_A) (p : Nat) (S0 : Nat → Nat) (r f : Nat) (S : Nat → Nat) : Prop := (pz_st A p f S = none → pz_st A p 401 S0 = none) ∧ ∀ r1 S1, pz_st A p f S = some (r1, S1) → ∃ S2, pz_st A p 401 S0 = some (r + r1, S2) ∧ pz_on A p S1 S2
theorem Rem.first (S0 : Nat → Nat) : Rem A p S0 0 401 S0 := ⟨id, fun r1 S1 h => ⟨S1, by rw [Nat.zero_add]; exact h, pz_on.rfl'⟩⟩
theorem Rem.next {S0 S1 S1' : Nat → Nat} {r f g : Nat} (hz : Pz A p) (h : Rem A p S0 r (f + 1) S) (e : pz_rd A p (A 1 p + A 2 p) S = some (S1, g)) (hg : g ≠ 0) (ho : pz_on A p S1' S1) : Rem A p S0 (r + 1) f S1' := by
  have hst : pz_st A p (f + 1) S = match pz_st A p f S1 with
      | none => none
      | some (r, S2) => some (r + 1, S2) := by
    rw [pz_st_s, e]
    show (if g = 0 then _ else _) = _
    rw [if_neg hg]
    rfl
  rcases pz_on_st hz f S1' S1 ho with ⟨h1, h2⟩ | ⟨q, X, Y, h1, h2, h3⟩
  · refine ⟨fun _ => h.1 ?_, fun r1 S2 e2 => ?_⟩
    · rw [hst, h2]
    · rw [h1] at e2; cases e2
  · refine ⟨fun e2 => ?_, fun r1 S2 e2 => ?_⟩
    · rw [h1] at e2; cases e2
    · rw [h1] at e2
      cases e2
      obtain ⟨S3, h4, h5⟩ := h.2 (q + 1) Y (by rw [hst, h2])
      exact ⟨S3, by rw [show r + 1 + q = r + (q + 1) by omega]; exact h4, h3.trans h5⟩
theorem pz_F_id {f0 : Nat → Nat} {cl new : Nat → Nat} : ∀ m, (∀ k, k < m → new k = f0 (cl k)) → pz_F f0 0 cl new m = f0
  | 0, _ => rfl
  | m + 1, h => by
    show va_up (pz_F f0 0 cl new m) (0 + cl m) (new m) = f0
    rw [pz_F_id m (fun k hk => h k (by omega)), Nat.zero_add]
    exact va_up_id (h m (by omega)).symm
end
