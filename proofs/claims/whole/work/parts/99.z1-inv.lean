/-! WHAT STAYS TRUE OVER A CALL -/
def iv1 (n0 : Nat) (A : md_A) : Prop := n0 ≤ 30 ∧ (∀ p, p < n0 → Pz A p ∧ A 4 p ≤ 1 ∧ ∀ x, x < A 1 p * A 2 p → 1 ≤ A 8 (100 * p + x) ∧ A 8 (100 * p + x) < 1 <<< (A 3 p + 1)) ∧ (∀ p, n0 ≤ p → p < 30 → A 4 p = 0 ∧ ∀ ln, ln < 20 → A 5 (20 * p + ln) = 0)
def ivg (t n0 : Nat) (A : md_A) (g : Nat) : Prop := A 19 g < n0 ∧ A 21 g ≤ A 22 g ∧ A 22 g ≤ 200 ∧ A 23 g ≤ t ∧ A 4 (A 19 g) = 1 ∧ (∀ x, x < A 1 (A 19 g) * A 2 (A 19 g) → A 20 (100 * g + x) ≤ A 3 (A 19 g) + 1) ∧ ∀ i, i < A 22 g → A 24 (200 * g + i) < A 1 (A 19 g) * A 2 (A 19 g) ∧ A 25 (200 * g + i) ≤ A 3 (A 19 g) + 1 ∧ A 26 (200 * g + i) ≤ A 3 (A 19 g) + 1
def iv3 (t n0 n7 : Nat) (A : md_A) : Prop := n7 ≤ 20 ∧ (∀ g, g < n7 → ivg t n0 A g) ∧ (∀ g, n7 ≤ g → g < 20 → A 21 g = 0 ∧ A 22 g = 0 ∧ A 23 g = 0)
def iv4 (I : md_I) : Prop := I 2 ≤ 5 ∧ I 3 ≤ 200 ∧ I 4 ≤ 100 ∧ I 5 ≤ 400 ∧ I 8 ≤ 64
theorem Inv.to {t : Nat} {I : md_I} {A : md_A} (h : Inv t I A) : iv1 (I 0) A ∧ (∀ x, x < 100 → A 9 x ≤ 3) ∧ iv3 t (I 0) (I 7) A ∧ iv4 I ∧ t ≤ 512 := by
  obtain ⟨a1, a2, a3, a4, a5, a6, a7, a8, a9, a10, a11, a12, a13⟩ := h
  exact ⟨⟨a1, a2, a3⟩, a4, ⟨a5, a6, a7⟩, ⟨a8, a9, a10, a11, a12⟩, a13⟩
theorem Inv.of {t : Nat} {I : md_I} {A : md_A} (h1 : iv1 (I 0) A) (h2 : ∀ x, x < 100 → A 9 x ≤ 3) (h3 : iv3 t (I 0) (I 7) A) (h4 : iv4 I) (h5 : t ≤ 512) : Inv t I A := by
  obtain ⟨a1, a2, a3⟩ := h1
  obtain ⟨a5, a6, a7⟩ := h3
  obtain ⟨a8, a9, a10, a11, a12⟩ := h4
  exact ⟨a1, a2, a3, h2, a5, a6, a7, a8, a9, a10, a11, a12, h5⟩
theorem pz_cgq {A A2 : md_A} {p : Nat} (h : Pz A p) (h1 : A2 1 p = A 1 p) (h2 : A2 2 p = A 2 p) (h3 : A2 3 p = A 3 p) (h5 : ∀ ln, ln < A 1 p + A 2 p → pz_n A2 p ln = pz_n A p ln ∧ ∀ i, i < pz_n A p ln → pz_c A p ln i = pz_c A2 p ln i ∧ pz_l A p ln i = pz_l A2 p ln i) : Pz A2 p := by
  obtain ⟨z1, z2, z3, z4, z5⟩ := h
  refine ⟨z1, by rw [h1]; exact z2, by rw [h2]; exact z3, by rw [h3]; exact z4, fun ln hl => ?_⟩
  rw [h1, h2] at hl
  obtain ⟨y1, y2, y3⟩ := z5 ln hl
  obtain ⟨en, hcg⟩ := h5 ln hl
  have eL : pz_L A2 p ln = pz_L A p ln := by unfold pz_L; rw [h1, h2]
  rw [en, eL]
  refine ⟨y1, ?_, fun i hi => ?_⟩
  · rw [← mk_S_congr _ hcg]; exact y2
  · rw [← (hcg i hi).1, ← (hcg i hi).2, h3]; exact y3 i hi
theorem iv1.same {n0 : Nat} {A A2 : md_A} (h : iv1 n0 A) (hk : ∀ k, 1 ≤ k → k ≤ 8 → A2 k = A k) : iv1 n0 A2 := by
  obtain ⟨a1, a2, a3⟩ := h
  refine ⟨a1, fun p hp => ?_, fun p h1 h2 => ?_⟩
  · obtain ⟨b1, b2, b3⟩ := a2 p hp
    obtain ⟨e1, e2, e3, e4, e5⟩ := peq_of (p := p) (fun k h1 h2 => hk k h1 (by omega))
    exact ⟨pz_cgq b1 e1 e2 e3 e5, by rw [e4]; exact b2, by rw [e1, e2, e3, hk 8 (by omega) (by omega)]; exact b3⟩
  · rw [hk 4 (by omega) (by omega), hk 5 (by omega) (by omega)]; exact a3 p h1 h2
theorem ivg.cg {t t2 n0 n2 : Nat} {A A2 : md_A} {g : Nat} (h : ivg t n0 A g) (ht : t ≤ t2) (hn : n0 ≤ n2) (hc : GEq A A2 g) (h3 : A2 3 (A 19 g) = A 3 (A 19 g)) (h4 : A2 4 (A 19 g) = A 4 (A 19 g)) : ivg t2 n2 A2 g := by
  obtain ⟨e1, e2, e3, e4, e5, e6, e7, e8⟩ := hc
  obtain ⟨b1, b2, b3, b4, b5, b6, b7⟩ := h
  unfold ivg
  rw [e1, e2, e3, e4, e5, e6, h3, h4]
  exact ⟨by omega, b2, b3, by omega, b5, fun x hx => by rw [e7 x hx]; exact b6 x hx, fun i hi => by rw [(e8 i hi).1, (e8 i hi).2.1, (e8 i hi).2.2]; exact b7 i hi⟩
theorem iv3.same {t t2 n0 n7 : Nat} {A A2 : md_A} (h : iv3 t n0 n7 A) (ht : t ≤ t2) (hk : ∀ k, (1 ≤ k ∧ k ≤ 4) ∨ 19 ≤ k ∧ k ≤ 26 → A2 k = A k) : iv3 t2 n0 n7 A2 := by
  obtain ⟨a1, a2, a3⟩ := h
  refine ⟨a1, fun g hg => ?_, fun g h1 h2 => ?_⟩
  · refine (a2 g hg).cg ht (Nat.le_refl _) ⟨by rw [hk 19 (by omega)], by rw [hk 21 (by omega)], by rw [hk 22 (by omega)], by rw [hk 23 (by omega)], by rw [hk 1 (by omega)], by rw [hk 2 (by omega)], fun i hi => by rw [hk 20 (by omega)], fun i hi => ⟨by rw [hk 24 (by omega)], by rw [hk 25 (by omega)], by rw [hk 26 (by omega)]⟩⟩ (by rw [hk 3 (by omega)]) (by rw [hk 4 (by omega)])
  · rw [hk 21 (by omega), hk 22 (by omega), hk 23 (by omega)]; exact a3 g h1 h2
theorem Inv.more {t : Nat} {I : md_I} {A : md_A} (h : Inv t I A) (ht : t < 512) : Inv (t + 1) I A := by
  obtain ⟨h1, h2, h3, h4, h5⟩ := h.to
  exact Inv.of h1 h2 (h3.same (by omega) (fun _ _ => rfl)) h4 (by omega)
theorem Inv.per {t : Nat} {I I2 : md_I} {A A2 : md_A} (h : Inv t I A) (hp : Per I I2 A A2) : Inv t I2 A2 := by
  obtain ⟨h1, h2, h3, h4, h5⟩ := h.to
  obtain ⟨hi, ha⟩ := hp
  refine Inv.of ?_ ?_ ?_ ?_ h5
  · rw [hi 0 (by decide) (by decide)]; exact h1.same (fun k _ _ => ha k (by omega))
  · rw [ha 9 (by omega)]; exact h2
  · rw [hi 0 (by decide) (by decide), hi 7 (by decide) (by decide)]; exact h3.same (Nat.le_refl _) (fun k _ => ha k (by omega))
  · unfold iv4; rw [hi 2 (by decide) (by decide), hi 3 (by decide) (by decide), hi 4 (by decide) (by decide), hi 5 (by decide) (by decide), hi 8 (by decide) (by decide)]; exact h4
/-- a desk -/
theorem Inv.desk {t : Nat} {I : md_I} {A A2 : md_A} {p : Nat} (h : Inv t I A) (ht : t < 512) (hp : p < I 0) (hk : ∀ k, k ≠ 8 → A2 k = A k) (hx : ∀ x, x < A 1 p * A 2 p → 1 ≤ A2 8 (100 * p + x) ∧ A2 8 (100 * p + x) < 1 <<< (A 3 p + 1)) (ho : ∀ j, j < 100 * p ∨ 100 * p + A 1 p * A 2 p ≤ j → A2 8 j = A 8 j) : Inv (t + 1) I A2 := by
  obtain ⟨⟨a1, a2, a3⟩, h2, h3, h4, h5⟩ := h.to
  refine Inv.of ⟨a1, fun q hq => ?_, fun q k1 k2 => ?_⟩ (by rw [hk 9 (by decide)]; exact h2) (h3.same (by omega) (fun k hk2 => hk k (by omega))) h4 (by omega)
  · obtain ⟨b1, b2, b3⟩ := a2 q hq
    obtain ⟨e1, e2, e3, e4, e5⟩ := peq_of (p := q) (fun k h1 h2 => hk k (by omega))
    refine ⟨pz_cgq b1 e1 e2 e3 e5, by rw [e4]; exact b2, ?_⟩
    rw [e1, e2, e3]
    by_cases e : q = p
    · rw [e]; exact hx
    · intro x hx2
      have := pz_size b1
      have := pz_size (a2 p hp).1
      rw [ho (100 * q + x) (by omega)]
      exact b3 x hx2
  · rw [hk 4 (by decide), hk 5 (by decide)]; exact a3 q k1 k2
theorem iv_b1 {v k n : Nat} (hv : v < 1 <<< (n + 1)) (hb : v.testBit k = true) : 1 ≤ 1 <<< k ∧ 1 <<< k < 1 <<< (n + 1) := by
  have hkn : k ≤ n := by
    rcases Nat.lt_or_ge n k with h | h
    · rw [Nat.testBit_lt_two_pow (Nat.lt_of_lt_of_le hv (by rw [Nat.one_shiftLeft]; exact Nat.pow_le_pow_right (by decide) h))] at hb
      cases hb
    · exact h
  rw [Nat.one_shiftLeft, Nat.one_shiftLeft]
  exact ⟨Nat.two_pow_pos k, Nat.pow_lt_pow_right (by decide) (by omega)⟩
theorem iv_b2 {v k n : Nat} (hv : v < 1 <<< (n + 1)) : ln_df v (1 <<< k) < 1 <<< (n + 1) := Nat.lt_of_le_of_lt Nat.and_le_left hv
theorem iv_b3 {n : Nat} (hn : n ≤ 3) : 1 ≤ 1 <<< (n + 1) - 1 ∧ 1 <<< (n + 1) - 1 < 1 <<< (n + 1) := by
  rcases (show n = 0 ∨ n = 1 ∨ n = 2 ∨ n = 3 by omega) with rfl | rfl | rfl | rfl <;> decide
section
variable {t : Nat} {I I2 : md_I} {A A2 : md_A} {x y w u z : Int32}
theorem iv_choose (h : Inv t I A) (ht : t < 512) (hD : D_choose I A x y w z I2 A2) : Inv (t + 1) I2 A2 := by
  obtain ⟨rfl, ⟨p, c, k, ⟨c1, c2, c3, c4⟩, k1, k2, k3, rfl, rfl⟩ | ⟨-, rfl, rfl⟩⟩ := hD
  · have hb := (h.2.1 p c1)
    refine h.desk ht c1 (fun k hk => md_st_k _ hk) (fun x hx => ?_) (fun j hj => md_st_n _ (by omega))
    by_cases e : x = c
    · rw [e, md_st_s]; exact iv_b1 (hb.2.2 c c3).2 k3
    · rw [md_st_n _ (by omega)]; exact hb.2.2 x hx
  · exact h.more ht
theorem iv_bar (h : Inv t I A) (ht : t < 512) (hD : D_bar I A x y w z I2 A2) : Inv (t + 1) I2 A2 := by
  obtain ⟨rfl, ⟨p, c, k, ⟨c1, c2, c3, c4⟩, k1, k2, k3, k4, rfl, rfl⟩ | ⟨-, rfl, rfl⟩⟩ := hD
  · have hb := (h.2.1 p c1)
    refine h.desk ht c1 (fun k hk => md_st_k _ hk) (fun x hx => ?_) (fun j hj => md_st_n _ (by omega))
    by_cases e : x = c
    · rw [e, md_st_s]; exact ⟨(gr_df (h.ps c1 c c3) k1 k4).1, iv_b2 (hb.2.2 c c3).2⟩
    · rw [md_st_n _ (by omega)]; exact hb.2.2 x hx
  · exact h.more ht
theorem iv_cp {p : Nat} {S' : Nat → Nat} (h : Inv t I A) (ht : t < 512) (hp : p < I 0) (h1 : Pn A p S') (h2 : pz_sub A p S' (fun x => A 8 (100 * p + x))) : Inv (t + 1) I (md_cp A 8 (100 * p) S' (A 1 p * A 2 p)) := by
  refine h.desk ht hp (fun k hk => md_cp_k _ hk) (fun x hx => ?_) (fun j hj => md_cp_out _ hj)
  rw [md_cp_in _ hx]
  exact ⟨h1 x hx, Nat.lt_of_le_of_lt (by rw [← h2 x hx]; exact Nat.and_le_left) ((h.2.1 p hp).2.2 x hx).2⟩
theorem Inv.pn (h : Inv t I A) {p : Nat} (hp : p < I 0) : Pn A p (fun x => A 8 (100 * p + x)) := fun x hx => ((h.2.1 p hp).2.2 x hx).1
theorem iv_step (h : Inv t I A) (ht : t < 512) (hD : D_step I A x y z I2 A2) : Inv (t + 1) I2 A2 := by
  obtain ⟨rfl, ⟨p, ln, ⟨c1, c2, c3, c4⟩, ⟨-, -, rfl⟩ | ⟨h0, -, rfl⟩⟩ | ⟨-, -, rfl⟩⟩ := hD
  · exact h.more ht
  · exact iv_cp h ht c1 (Pn.stp (h.2.1 p c1).1 c3 (h.ps c1) (h.pn c1) h0) (pz_sub_stp (h.2.1 p c1).1 c3)
  · exact h.more ht
theorem iv_settle (h : Inv t I A) (ht : t < 512) (hD : D_settle I A x z I2 A2) : Inv (t + 1) I2 A2 := by
  obtain ⟨rfl, ⟨p, c1, c2, ⟨-, -, rfl⟩ | ⟨r, S', e, -, rfl⟩⟩ | ⟨-, -, rfl⟩⟩ := hD
  · exact h.more ht
  · obtain ⟨m1, m2⟩ := pz_st_more (h.2.1 p c1).1 _ _ (h.ps c1) (h.pn c1) _ _ e
    exact iv_cp h ht c1 m1 m2
  · exact h.more ht
theorem iv_fresh (h : Inv t I A) (ht : t < 512) (hD : D_fresh I A x z I2 A2) : Inv (t + 1) I2 A2 := by
  obtain ⟨rfl, ⟨p, c1, c2, -, rfl⟩ | ⟨-, -, rfl⟩⟩ := hD
  · refine h.desk ht c1 (fun k hk => md_fill_k _ hk) (fun x hx => ?_) (fun j hj => ?_)
    · rw [md_fill_at, if_pos (by omega)]; exact iv_b3 (h.2.1 p c1).1.2.2.2.1.2
    · rw [md_fill_at, if_neg (by omega)]
  · exact h.more ht
theorem iv_paint (h : Inv t I A) (ht : t < 512) (hD : D_paint I A x y w z I2 A2) : Inv (t + 1) I2 A2 := by
  obtain ⟨rfl, ⟨i, j, k, c1, c2, c3, c4, c5, c6, -, rfl⟩ | ⟨-, -, rfl⟩⟩ := hD
  · obtain ⟨h1, h2, h3, h4, h5⟩ := h.to
    refine Inv.of (h1.same (fun k _ _ => md_st_k _ (by omega))) (fun x hx => ?_) (h3.same (by omega) (fun k hk => md_st_k _ (by omega))) h4 (by omega)
    rw [md_st_at]
    split
    · exact c5
    · exact h2 x hx
  · exact h.more ht
theorem iv_grade (h : Inv t I A) (ht : t < 512) (h400 : ∀ p, (gr_all A p).2 ≤ 400) (hD : D_grade I A x z I2 A2) : Inv (t + 1) I2 A2 := by
  obtain ⟨p, c1, c2, -, rfl, rfl⟩ | ⟨-, -, rfl, rfl⟩ := hD
  · obtain ⟨h1, h2, h3, ⟨f1, f2, f3, f4, f5⟩, h5⟩ := h.to
    exact Inv.of h1 h2 (h3.same (by omega) (fun _ _ => rfl)) ⟨f1, f2, f3, h400 p, f5⟩ (by omega)
  · exact h.more ht
theorem iv_search (h : Inv t I A) (ht : t < 512) (hD : D_search I A x y w z I2 A2) : Inv (t + 1) I2 A2 := by
  obtain ⟨p, tr, li, b, h0, LS, C, X, f, P, t0, ⟨c1, c2, c3, c4⟩, -, e1, e2, -, rfl, hk, -⟩ | ⟨-, -, rfl, rfl⟩ := hD
  · obtain ⟨h1, h2, h3, ⟨f1, f2, f3, f4, f5⟩, h5⟩ := h.to
    exact Inv.of (h1.same (fun k _ _ => hk k (by omega))) (by rw [hk 9 (by decide)]; exact h2) (h3.same (by omega) (fun k hk2 => hk k (by omega))) ⟨show f ≤ 5 by omega, show t0 ≤ 200 by omega, pz_size (h.2.1 p c1).1, f4, f5⟩ (by omega)
  · exact h.more ht
theorem iv_write (h : Inv t I A) (ht : t < 512) (hD : D_write I A x y z I2 A2) : Inv (t + 1) I2 A2 := by
  obtain ⟨p, ln, ⟨c1, c2, c3, c4⟩, -, rfl, rfl⟩ | ⟨-, -, rfl, rfl⟩ := hD
  · obtain ⟨h1, h2, h3, ⟨f1, f2, f3, f4, f5⟩, h5⟩ := h.to
    have h10 := ((h.2.1 p c1).1.2.2.2.2 ln c3).1
    refine Inv.of (h1.same (fun k _ _ => va_up_n _ _ (by omega))) (by rw [va_up_n _ _ (by decide)]; exact h2) (h3.same (by omega) (fun k hk2 => va_up_n _ _ (by omega))) ⟨f1, f2, f3, f4, ?_⟩ (by omega)
    rw [va_up_s]
    unfold wr_all
    split
    · exact (by decide : 1 ≤ 64)
    · have := wr_le (pz_c A p ln) (pz_l A p ln) (A 27) (pz_n A p ln)
      omega
  · exact h.more ht
theorem iv_run (h : Inv t I A) (ht : t < 512) (hD : D_run I A x y w u z I2 A2) : Inv (t + 1) I2 A2 := by
  obtain ⟨rfl, ⟨p, ln, c, l, ⟨⟨c1, c2, c3, c4⟩, ⟨k1, k2, k3⟩, ⟨l1, l2, l3⟩, h4, hS⟩, -, rfl⟩ | ⟨-, -, rfl⟩⟩ := hD
  · obtain ⟨⟨a1, a2, a3⟩, h2, h3, hh4, h5⟩ := h.to
    have hz := (a2 p c1).1
    have hzl := hz.2.2.2.2 ln c3
    have hb10 := hz.2
    have hL10 : pz_L A p ln ≤ 10 := by unfold pz_L; split <;> omega
    have hlr : Lr (pz_c A p ln) (pz_l A p ln) (pz_n A p ln) (pz_L A p ln) := ⟨fun i hi => ⟨(hzl.2.2 i hi).1, by have := (hzl.2.2 i hi).2.1; omega, (hzl.2.2 i hi).2.2⟩, hzl.2.1, hL10⟩
    have hlr2 := hlr.app (k := c) (m := l) ⟨k1, by omega⟩ l1 hS
    have hn : pz_n A p ln < 10 := by have := hlr2.bd.1; omega
    refine Inv.of ⟨a1, fun q hq => ?_, fun q q1 q2 => ?_⟩ (by rw [runA_k (by decide)]; exact h2) (h3.same (by omega) (fun k hk => runA_k (by omega))) hh4 (by omega)
    · obtain ⟨b1, b2, b3⟩ := a2 q hq
      have e1 : D_runA A p ln c l 1 q = A 1 q := by rw [runA_k (by decide)]
      have e2 : D_runA A p ln c l 2 q = A 2 q := by rw [runA_k (by decide)]
      have e3 : D_runA A p ln c l 3 q = A 3 q := by rw [runA_k (by decide)]
      have e4 : D_runA A p ln c l 4 q = A 4 q := by rw [runA_k (by decide)]
      have hq10 := b1.2
      refine ⟨?_, by rw [e4]; exact b2, ?_⟩
      · by_cases e : q = p
        · subst e
          refine ⟨b1.1, by rw [e1]; exact b1.2.1, by rw [e2]; exact b1.2.2.1, by rw [e3]; exact b1.2.2.2.1, fun ln2 hl2 => ?_⟩
          rw [e1, e2] at hl2
          have eL : pz_L (D_runA A q ln c l) q ln2 = pz_L A q ln2 := by unfold pz_L; rw [e1, e2]
          rw [eL, e3]
          by_cases e' : ln2 = ln
          · subst e'
            obtain ⟨o1, o2⟩ := runA_own (A := A) (p := q) (ln := ln2) (c := c) (l := l)
            rw [o1]
            refine ⟨by omega, by rw [← mk_S_congr _ o2]; exact hS, fun i hi => ?_⟩
            rw [← (o2 i hi).1, ← (o2 i hi).2]
            unfold rn_c rn_l
            by_cases e'' : i = pz_n A q ln2
            · rw [e'', va_up_s, va_up_s]; exact ⟨k1, k2, l1⟩
            · rw [va_up_n _ _ e'', va_up_n _ _ e'']; exact hzl.2.2 i (by omega)
          · obtain ⟨o1, o2⟩ := runA_line (A := A) (p := q) (ln := ln) (c := c) (l := l) (q := q) (k := ln2) (by omega) (by omega) hn (b1.2.2.2.2 ln2 hl2).1 (fun g => e' g.2)
            obtain ⟨y1, y2, y3⟩ := b1.2.2.2.2 ln2 hl2
            rw [o1]
            refine ⟨y1, by rw [← mk_S_congr _ o2]; exact y2, fun i hi => ?_⟩
            rw [← (o2 i hi).1, ← (o2 i hi).2]; exact y3 i hi
        · exact pz_cgq b1 e1 e2 e3 (fun k hk => runA_line (by omega) (by omega) hn (b1.2.2.2.2 k hk).1 (fun g => e g.1))
      · rw [e1, e2, e3]
        intro x hx
        rw [runA_8]
        split
        · next hh =>
          have := pz_size b1
          have := pz_size hz
          have e : q = p := by omega
          rw [e]; exact iv_b3 hz.2.2.2.1.2
        · exact b3 x hx
    · obtain ⟨g1, g2⟩ := a3 q q1 q2
      refine ⟨by rw [runA_k (by decide)]; exact g1, fun ln2 hl2 => ?_⟩
      rw [runA_5, if_neg (by omega)]; exact g2 ln2 hl2
  · exact h.more ht
/-- a new puzzle -/
theorem Inv.newp {a b c : Nat} {f : ru_F} (h : Inv t I A) (ht : t < 512) (h30 : I 0 < 30) (ha : 1 ≤ a ∧ a ≤ 10) (hb : 1 ≤ b ∧ b ≤ 10) (hc : 1 ≤ c ∧ c ≤ 3) (hD : D_runs (D_new I A a b c) A2 (I 0) (a + b) f) (hf : ∀ ln, ln < a + b → (f ln).1 ≤ 10 ∧ ln_S (f ln).2.1 (f ln).2.2 (f ln).1 0 ≤ (if ln < b then a else b) ∧ ∀ i, i < (f ln).1 → 1 ≤ (f ln).2.1 i ∧ (f ln).2.1 i ≤ c ∧ 1 ≤ (f ln).2.2 i) : Inv (t + 1) (va_up I 0 (I 0 + 1)) A2 := by
  obtain ⟨⟨a1, a2, a3⟩, h2, ⟨q1, q2, q3⟩, h4, h5⟩ := h.to
  obtain ⟨d1, d2, d3, d4⟩ := hD
  have hab : a * b ≤ 10 * 10 := Nat.mul_le_mul ha.2 hb.2
  have ek : ∀ k, k ≠ 5 ∧ k ≠ 6 ∧ k ≠ 7 → k ≠ 1 ∧ k ≠ 2 ∧ k ≠ 3 ∧ k ≠ 8 → A2 k = A k := fun k h1 h2 => (d1 k h1.1 h1.2.1 h1.2.2).trans (D_new_k h2)
  have e1 : A2 1 (I 0) = a := by rw [d1 1 (by decide) (by decide) (by decide)]; exact D_new_1
  have e2 : A2 2 (I 0) = b := by rw [d1 2 (by decide) (by decide) (by decide)]; exact D_new_2
  have e3 : A2 3 (I 0) = c := by rw [d1 3 (by decide) (by decide) (by decide)]; exact D_new_3
  have e4 : A2 4 (I 0) = 0 := by rw [ek 4 (by decide) (by decide)]; exact (a3 (I 0) (Nat.le_refl _) h30).1
  have o1 : ∀ p, p ≠ I 0 → A2 1 p = A 1 p := fun p hp => by rw [d1 1 (by decide) (by decide) (by decide)]; exact D_new_1n hp
  have o2 : ∀ p, p ≠ I 0 → A2 2 p = A 2 p := fun p hp => by rw [d1 2 (by decide) (by decide) (by decide)]; exact D_new_2n hp
  have o3 : ∀ p, p ≠ I 0 → A2 3 p = A 3 p := fun p hp => by rw [d1 3 (by decide) (by decide) (by decide)]; exact D_new_3n hp
  have o5 : ∀ j, j < 20 * I 0 ∨ 20 * I 0 + (a + b) ≤ j → A2 5 j = A 5 j := fun j hj => by
    rw [d2, md_cp_out _ hj]
    exact congrFun (D_new_k (by decide)) j
  have n5 : ∀ ln, ln < a + b → A2 5 (20 * I 0 + ln) = (f ln).1 := fun ln hl => by rw [d2, md_cp_in _ hl]
  have o6 : ∀ j, j < 200 * I 0 → A2 6 j = A 6 j ∧ A2 7 j = A 7 j := fun j hj => ⟨(d3 j hj).1.trans (congrFun (D_new_k (by decide)) j), (d3 j hj).2.trans (congrFun (D_new_k (by decide)) j)⟩
  refine Inv.of (I := va_up I 0 (I 0 + 1)) ⟨?_, fun q hq => ?_, fun q g1 g2 => ?_⟩ (by rw [ek 9 (by decide) (by decide)]; exact h2) ⟨q1, fun g hg => ?_, fun g g1 g2 => ?_⟩ h4 (by omega)
  · show I 0 + 1 ≤ 30; omega
  · have hq : q < I 0 + 1 := hq
    by_cases e : q = I 0
    · subst e
      rw [e1, e2, e3, e4]
      refine ⟨⟨h30, by rw [e1]; exact ha, by rw [e2]; exact hb, by rw [e3]; exact hc, fun ln hl => ?_⟩, Nat.zero_le _, fun x hx => ?_⟩
      · rw [e1, e2] at hl
        have eL : pz_L A2 (I 0) ln = if ln < b then a else b := by unfold pz_L; rw [e1, e2]
        have en : pz_n A2 (I 0) ln = (f ln).1 := n5 ln hl
        obtain ⟨y1, y2, y3⟩ := hf ln hl
        have hcg : ∀ i, i < (f ln).1 → pz_c A2 (I 0) ln i = (f ln).2.1 i ∧ pz_l A2 (I 0) ln i = (f ln).2.2 i := fun i hi => d4 ln hl i hi
        rw [en, eL, e3]
        refine ⟨y1, by rw [mk_S_congr _ hcg]; exact y2, fun i hi => ?_⟩
        rw [(hcg i hi).1, (hcg i hi).2]; exact y3 i hi
      · rw [d1 8 (by decide) (by decide) (by decide), D_new_8, if_pos (by omega)]; exact iv_b3 hc.2
    · have hq2 : q < I 0 := by omega
      obtain ⟨b1, b2, b3⟩ := a2 q hq2
      have hq10 := b1.2
      have := pz_size b1
      refine ⟨pz_cgq b1 (o1 q e) (o2 q e) (o3 q e) (fun ln hl => ⟨o5 _ (by omega), fun i hi => ?_⟩), by rw [ek 4 (by decide) (by decide)]; exact b2, fun x hx => ?_⟩
      · have := (b1.2.2.2.2 ln hl).1
        exact ⟨(o6 _ (by omega)).1.symm, (o6 _ (by omega)).2.symm⟩
      · rw [o1 q e, o2 q e] at hx
        rw [o3 q e, d1 8 (by decide) (by decide) (by decide), D_new_8, if_neg (by omega)]; exact b3 x hx
  · have g1 : I 0 + 1 ≤ q := g1
    obtain ⟨k1, k2⟩ := a3 q (by omega) g2
    refine ⟨by rw [ek 4 (by decide) (by decide)]; exact k1, fun ln hl => ?_⟩
    rw [o5 _ (by omega)]; exact k2 ln hl
  · have hgo := q2 g hg
    have hne : A 19 g ≠ I 0 := by have := hgo.1; omega
    exact hgo.cg (by omega) (show I 0 ≤ I 0 + 1 by omega) ⟨by rw [ek 19 (by decide) (by decide)], by rw [ek 21 (by decide) (by decide)], by rw [ek 22 (by decide) (by decide)], by rw [ek 23 (by decide) (by decide)], o1 _ hne, o2 _ hne, fun i hi => by rw [ek 20 (by decide) (by decide)], fun i hi => ⟨by rw [ek 24 (by decide) (by decide)], by rw [ek 25 (by decide) (by decide)], by rw [ek 26 (by decide) (by decide)]⟩⟩ (o3 _ hne) (by rw [ek 4 (by decide) (by decide)])
  · rw [ek 21 (by decide) (by decide), ek 22 (by decide) (by decide), ek 23 (by decide) (by decide)]; exact q3 g g1 g2
theorem iv_puzzle (h : Inv t I A) (ht : t < 512) (hD : D_puzzle I A x y w z I2 A2) : Inv (t + 1) I2 A2 := by
  obtain ⟨a, b, c, ⟨⟨a1, a2, -⟩, ⟨b1, b2, -⟩, ⟨c1, c2, -⟩, h30⟩, -, rfl, rfl⟩ | ⟨-, -, rfl, rfl⟩ := hD
  · have h0 := h.1
    exact h.newp ht (by omega) ⟨a1, a2⟩ ⟨b1, b2⟩ ⟨c1, c2⟩ (D_runs_none h (by omega) (by omega) (fun _ => 0) (fun _ => 0)) (fun ln hl => ⟨Nat.zero_le _, Nat.zero_le _, fun i hi => absurd hi (Nat.not_lt_zero _)⟩)
  · exact h.more ht
theorem iv_make (h : Inv t I A) (ht : t < 512) (hD : D_make I A x y w z I2 A2) : Inv (t + 1) I2 A2 := by
  obtain ⟨a, b, c, ⟨⟨a1, a2, -⟩, ⟨b1, b2, -⟩, ⟨c1, c2, -⟩, h30⟩, hfit, -, rfl, hR⟩ | ⟨-, -, rfl, rfl⟩ := hD
  · have h0 := h.1
    refine h.newp ht (by omega) ⟨a1, a2⟩ ⟨b1, b2⟩ ⟨c1, c2⟩ hR (fun ln hl => ?_)
    obtain ⟨m1, m2, m3, -⟩ := mk_inv (g := mk_g A b ln) (C := c) (mk_L a b ln) _ _ _ _ (fun k hk => mk_fit_g hfit hl hk) rfl
    have hLe : mk_L a b ln ≤ 10 := by unfold mk_L; split <;> omega
    exact ⟨Nat.le_trans m1 hLe, m3, fun i hi => ⟨(m2 i hi).1, (m2 i hi).2.1, (m2 i hi).2.2.1⟩⟩
  · exact h.more ht
theorem iv_turn (h : Inv t I A) (ht : t < 512) (hD : D_turn I A x y z I2 A2) : Inv (t + 1) I2 A2 := by
  obtain ⟨p, how, ⟨p1, p2, p3, p4, h30⟩, -, rfl, hR⟩ | ⟨-, -, rfl, rfl⟩ := hD
  · have h0 := h.1
    have hz := (h.2.1 p p1).1
    have hwb := tn_wb (how := how) hz
    refine h.newp ht (by omega) hwb.1 hwb.2 hz.2.2.2.1 hR (fun ln hl => ?_)
    rw [tn_wh] at hl
    have hat : tn_at A p how ln < A 1 p + A 2 p := tn_src_lt hz.2.1.1 hz.2.2.1.1 hl
    obtain ⟨y1, y2, y3⟩ := hz.2.2.2.2 _ hat
    refine ⟨y1, ?_, fun i hi => ?_⟩
    · rw [← tn_L hz hl]
      show ln_S (tn_c A p how ln) (tn_l A p how ln) (pz_n A p (tn_at A p how ln)) 0 ≤ _
      have := tn_S (pz_c A p (tn_at A p how ln)) (pz_l A p (tn_at A p how ln)) (pz_n A p (tn_at A p how ln)) (tn_rd (A 2 p) how (tn_at A p how ln))
      exact Nat.le_trans (Nat.le_of_eq this) y2
    · have hi : i < pz_n A p (tn_at A p how ln) := hi
      have hix : tn_ix (pz_n A p (tn_at A p how ln)) (tn_rd (A 2 p) how (tn_at A p how ln)) i < pz_n A p (tn_at A p how ln) := by unfold tn_ix; split <;> omega
      exact y3 _ hix
  · exact h.more ht
/-- a game -/
theorem Inv.gm {g : Nat} (h : Inv t I A) (ht : t < 512) (hg : g < I 7) (hA : ∀ k, k < 20 ∨ 26 < k → A2 k = A k) (ho : ∀ q, q < I 7 → q ≠ g → GEq A A2 q) (hn : ∀ q, q ≠ g → A2 21 q = A 21 q ∧ A2 22 q = A 22 q ∧ A2 23 q = A 23 q) (hv : ivg (t + 1) (I 0) A2 g) : Inv (t + 1) I A2 := by
  obtain ⟨h1, h2, ⟨q1, q2, q3⟩, h4, h5⟩ := h.to
  refine Inv.of (h1.same (fun k _ _ => hA k (by omega))) (by rw [hA 9 (by omega)]; exact h2) ⟨q1, fun q hq => ?_, fun q g1 g2 => ?_⟩ h4 (by omega)
  · by_cases e : q = g
    · rw [e]; exact hv
    · exact (q2 q hq).cg (by omega) (Nat.le_refl _) (ho q hq e) (by rw [hA 3 (by omega)]) (by rw [hA 4 (by omega)])
  · obtain ⟨k1, k2, k3⟩ := hn q (by omega)
    rw [k1, k2, k3]; exact q3 q g1 g2
theorem iv_mark (h : Inv t I A) (ht : t < 512) (hD : D_mark I A x y w z I2 A2) : Inv (t + 1) I2 A2 := by
  obtain ⟨rfl, ⟨g, c, k, ⟨g1, g2, g3, g4, g5, g6, g7, g8⟩, -, rfl⟩ | ⟨-, -, rfl⟩⟩ := hD
  · obtain ⟨b1, b2, b3, b4, b5, b6, b7⟩ := h.to.2.2.1.2.1 g g1
    have hz := (h.2.1 _ b1).1
    have hsz := pz_size hz
    have hd : A 21 g < 200 := by omega
    show Inv (t + 1) I2 (mk_A A g c k)
    refine h.gm ht g1 (fun i hi => mk_A_k hi) (fun q hq hne => mk_geq h g1 g3 hd hq hne) (fun q hne => ⟨?_, ?_, ?_⟩) ?_
    · rw [mk_A_at]; repeat rw [if_neg (by omega)]
    · rw [mk_A_at]; repeat rw [if_neg (by omega)]
    · rw [mk_A_at]; repeat rw [if_neg (by omega)]
    · have e1 : mk_A A g c k 1 = A 1 := mk_A_k (by omega)
      have e2 : mk_A A g c k 2 = A 2 := mk_A_k (by omega)
      have e3 : mk_A A g c k 3 = A 3 := mk_A_k (by omega)
      have e4 : mk_A A g c k 4 = A 4 := mk_A_k (by omega)
      have e19 : mk_A A g c k 19 = A 19 := mk_A_k (by omega)
      have e21 : mk_A A g c k 21 g = A 21 g + 1 := by rw [mk_A_at, if_neg (by omega), if_neg (by omega), if_pos ⟨rfl, rfl⟩]
      have e22 : mk_A A g c k 22 g = A 21 g + 1 := by rw [mk_A_at, if_neg (by omega), if_pos ⟨rfl, rfl⟩]
      have e23 : mk_A A g c k 23 g = A 23 g := by rw [mk_A_at, if_neg (by omega), if_neg (by omega), if_neg (by omega), if_neg (by omega), if_neg (by omega), if_neg (by omega)]
      unfold ivg
      rw [e1, e2, e3, e4, e19, e21, e22, e23]
      refine ⟨b1, Nat.le_refl _, by omega, by omega, b5, fun x hx => ?_, fun i hi => ?_⟩
      · rw [mk_A_at]
        by_cases hxc : x = c
        · rw [if_pos ⟨rfl, by omega⟩]; exact g5
        · rw [if_neg (by omega), if_neg (by omega), if_neg (by omega), if_neg (by omega), if_neg (by omega), if_neg (by omega)]; exact b6 x hx
      · rw [mk_A_at, mk_A_at, mk_A_at]
        by_cases hi2 : i = A 21 g
        · subst hi2
          refine ⟨?_, ?_, ?_⟩
          · rw [if_neg (by omega), if_neg (by omega), if_neg (by omega), if_neg (by omega), if_neg (by omega), if_pos ⟨rfl, rfl⟩]; exact g3
          · rw [if_neg (by omega), if_neg (by omega), if_neg (by omega), if_neg (by omega), if_pos ⟨rfl, rfl⟩]; exact b6 c g3
          · rw [if_neg (by omega), if_neg (by omega), if_neg (by omega), if_pos ⟨rfl, rfl⟩]; exact g5
        · obtain ⟨y1, y2, y3⟩ := b7 i (by omega)
          refine ⟨?_, ?_, ?_⟩
          · rw [if_neg (by omega), if_neg (by omega), if_neg (by omega), if_neg (by omega), if_neg (by omega), if_neg (by omega)]; exact y1
          · rw [if_neg (by omega), if_neg (by omega), if_neg (by omega), if_neg (by omega), if_neg (by omega), if_neg (by omega)]; exact y2
          · rw [if_neg (by omega), if_neg (by omega), if_neg (by omega), if_neg (by omega), if_neg (by omega), if_neg (by omega)]; exact y3
  · exact h.more ht
theorem iv_un {g d c v : Nat} (h : Inv t I A) (ht : t < 512) (hg : g < I 7) (hd : d ≤ A 22 g) (hc : c < A 1 (A 19 g) * A 2 (A 19 g)) (hv : v ≤ A 3 (A 19 g) + 1) : Inv (t + 1) I (md_st (md_st A 21 g d) 20 (100 * g + c) v) := by
  obtain ⟨b1, b2, b3, b4, b5, b6, b7⟩ := h.to.2.2.1.2.1 g hg
  have hz := (h.2.1 _ b1).1
  have hsz := pz_size hz
  refine h.gm ht hg (fun i hi => un_A_k hi) (fun q hq hne => un_geq h hg hc hq hne) (fun q hne => ⟨?_, ?_, ?_⟩) ?_
  · rw [un_A_at, if_neg (by omega), if_neg (by omega)]
  · rw [un_A_at, if_neg (by omega), if_neg (by omega)]
  · rw [un_A_at, if_neg (by omega), if_neg (by omega)]
  · have ek : ∀ k, k ≠ 20 ∧ k ≠ 21 → md_st (md_st A 21 g d) 20 (100 * g + c) v k = A k := fun k hk => by rw [md_st_k _ hk.1, md_st_k _ hk.2]
    have e21 : md_st (md_st A 21 g d) 20 (100 * g + c) v 21 g = d := by rw [un_A_at, if_neg (by omega), if_pos ⟨rfl, rfl⟩]
    unfold ivg
    rw [ek 1 (by decide), ek 2 (by decide), ek 3 (by decide), ek 4 (by decide), ek 19 (by decide), e21, ek 22 (by decide), ek 23 (by decide), ek 24 (by decide), ek 25 (by decide), ek 26 (by decide)]
    refine ⟨b1, hd, b3, by omega, b5, fun x hx => ?_, b7⟩
    rw [un_A_at]
    by_cases hxc : x = c
    · rw [if_pos ⟨rfl, by omega⟩]; exact hv
    · rw [if_neg (by omega), if_neg (by omega)]; exact b6 x hx
theorem iv_undo (h : Inv t I A) (ht : t < 512) (hD : D_undo I A x z I2 A2) : Inv (t + 1) I2 A2 := by
  obtain ⟨rfl, ⟨g, g1, g2, g3, -, rfl⟩ | ⟨-, -, rfl⟩⟩ := hD
  · obtain ⟨b1, b2, b3, b4, b5, b6, b7⟩ := h.to.2.2.1.2.1 g g1
    have hy := b7 (A 21 g - 1) (by omega)
    exact iv_un h ht g1 (by omega) hy.1 hy.2.1
  · exact h.more ht
theorem iv_redo (h : Inv t I A) (ht : t < 512) (hD : D_redo I A x z I2 A2) : Inv (t + 1) I2 A2 := by
  obtain ⟨rfl, ⟨g, g1, g2, g3, -, rfl⟩ | ⟨-, -, rfl⟩⟩ := hD
  · obtain ⟨b1, b2, b3, b4, b5, b6, b7⟩ := h.to.2.2.1.2.1 g g1
    have hy := b7 (A 21 g) (by omega)
    exact iv_un h ht g1 (by omega) hy.1 hy.2.2
  · exact h.more ht
theorem iv_h23 {g : Nat} (h : Inv t I A) (ht : t < 512) (hg : g < I 7) : Inv (t + 1) I (md_st A 23 g (A 23 g + 1)) := by
  obtain ⟨b1, b2, b3, b4, b5, b6, b7⟩ := h.to.2.2.1.2.1 g hg
  have ek : ∀ k, k ≠ 23 → md_st A 23 g (A 23 g + 1) k = A k := fun k hk => md_st_k _ hk
  refine h.gm ht hg (fun i hi => ek i (by omega)) (fun q hq hne => ⟨by rw [ek 19 (by decide)], by rw [ek 21 (by decide)], by rw [ek 22 (by decide)], md_st_n _ hne, by rw [ek 1 (by decide)], by rw [ek 2 (by decide)], fun i hi => by rw [ek 20 (by decide)], fun i hi => ⟨by rw [ek 24 (by decide)], by rw [ek 25 (by decide)], by rw [ek 26 (by decide)]⟩⟩) (fun q hne => ⟨by rw [ek 21 (by decide)], by rw [ek 22 (by decide)], md_st_n _ hne⟩) ?_
  unfold ivg
  rw [ek 1 (by decide), ek 2 (by decide), ek 3 (by decide), ek 4 (by decide), ek 19 (by decide), ek 20 (by decide), ek 21 (by decide), ek 22 (by decide), md_st_s, ek 24 (by decide), ek 25 (by decide), ek 26 (by decide)]
  exact ⟨b1, b2, b3, by omega, b5, b6, b7⟩
theorem iv_hint (h : Inv t I A) (ht : t < 512) (hD : D_hint I A x z I2 A2) : Inv (t + 1) I2 A2 := by
  obtain ⟨rfl, ⟨g, g1, g2, ⟨l, -, -, -, -, rfl⟩ | ⟨l, k, -, -, -, -, -, -, -, rfl⟩ | ⟨-, -, rfl⟩⟩ | ⟨-, -, rfl⟩⟩ := hD
  · exact iv_h23 h ht g1
  · exact iv_h23 h ht g1
  · exact h.more ht
  · exact h.more ht
theorem iv_game (h : Inv t I A) (ht : t < 512) (hD : D_game I A x z I2 A2) : Inv (t + 1) I2 A2 := by
  obtain ⟨p, p1, p2, p3, -, rfl, rfl⟩ | ⟨-, -, rfl, rfl⟩ := hD
  · obtain ⟨⟨a1, a2, a3⟩, h2, ⟨q1, q2, q3⟩, h4, h5⟩ := h.to
    have h20 : I 7 < 20 := by omega
    have ek : ∀ k, k ≠ 4 ∧ k ≠ 19 ∧ k ≠ 20 → gm_A I A p k = A k := fun k hk => gm_A_k hk
    have e4 : ∀ q, gm_A I A p 4 q = if q = p then 1 else A 4 q := fun q => by
      rw [gm_A_at, if_neg (by omega)]
      by_cases e : q = p
      · rw [if_pos ⟨rfl, e⟩, if_pos e]
      · rw [if_neg (fun g => e g.2), if_neg (by omega), if_neg e]
    have e19 : gm_A I A p 19 (I 7) = p := by rw [gm_A_at, if_neg (by omega), if_neg (by omega), if_pos ⟨rfl, rfl⟩]
    have o19 : ∀ q, q ≠ I 7 → gm_A I A p 19 q = A 19 q := fun q hq => by rw [gm_A_at, if_neg (by omega), if_neg (by omega), if_neg (fun g => hq g.2)]
    show Inv (t + 1) (va_up I 7 (I 7 + 1)) (gm_A I A p)
    refine Inv.of (I := va_up I 7 (I 7 + 1)) ⟨a1, fun q hq => ?_, fun q k1 k2 => ?_⟩ (by rw [ek 9 (by decide)]; exact h2) ⟨h20, fun g hg => ?_, fun g k1 k2 => ?_⟩ h4 (by omega)
    · obtain ⟨b1, b2, b3⟩ := a2 q hq
      refine ⟨pz_cgq b1 (by rw [ek 1 (by decide)]) (by rw [ek 2 (by decide)]) (by rw [ek 3 (by decide)]) (fun ln hl => ⟨by unfold pz_n; rw [ek 5 (by decide)], fun i hi => ⟨by unfold pz_c; rw [ek 6 (by decide)], by unfold pz_l; rw [ek 7 (by decide)]⟩⟩), ?_, by rw [ek 1 (by decide), ek 2 (by decide), ek 3 (by decide), ek 8 (by decide)]; exact b3⟩
      rw [e4]
      split
      · exact Nat.le_refl _
      · exact b2
    · obtain ⟨c1, c2⟩ := a3 q k1 k2
      have k1 : I 0 ≤ q := k1
      rw [e4, if_neg (by omega), ek 5 (by decide)]; exact ⟨c1, c2⟩
    · have hg : g < I 7 + 1 := hg
      by_cases e : g = I 7
      · subst e
        obtain ⟨z1, z2, z3⟩ := q3 (I 7) (Nat.le_refl _) h20
        have hsz := pz_size (a2 p p1).1
        unfold ivg
        rw [ek 1 (by decide), ek 2 (by decide), ek 3 (by decide), e19, ek 21 (by decide), ek 22 (by decide), ek 23 (by decide), z1, z2, z3, e4, if_pos rfl]
        refine ⟨p1, Nat.le_refl _, Nat.zero_le _, Nat.zero_le _, rfl, fun x hx => ?_, fun i hi => absurd hi (Nat.not_lt_zero _)⟩
        rw [gm_A_at, if_pos ⟨rfl, by omega, by omega⟩]
        exact Nat.zero_le _
      · have hgo := q2 g (by omega)
        have hb5 := hgo.2.2.2.2.1
        have hsz := pz_size (a2 _ hgo.1).1
        refine hgo.cg (by omega) (Nat.le_refl _) ⟨o19 g e, by rw [ek 21 (by decide)], by rw [ek 22 (by decide)], by rw [ek 23 (by decide)], by rw [ek 1 (by decide)], by rw [ek 2 (by decide)], fun i hi => ?_, fun i hi => ⟨by rw [ek 24 (by decide)], by rw [ek 25 (by decide)], by rw [ek 26 (by decide)]⟩⟩ (by rw [ek 3 (by decide)]) ?_
        · rw [gm_A_at, if_neg (by omega), if_neg (by omega), if_neg (by omega)]
        · rw [e4]
          split
          · exact hb5.symm
          · rfl
    · have k1 : I 7 + 1 ≤ g := k1
      rw [ek 21 (by decide), ek 22 (by decide), ek 23 (by decide)]; exact q3 g (by omega) k2
  · exact h.more ht
end
/-- grading ends within 400 probes -/
theorem gr_p1_le {A : md_A} {p c v : Nat} {q : gr_Q} (h : q.2.1 ≤ 400) : (gr_p1 A p c v q).2.1 ≤ 400 := by
  obtain ⟨S, n, k, e⟩ := q
  have h : n ≤ 400 := h
  unfold gr_p1
  dsimp only
  split
  · exact h
  · split
    · exact h
    · split
      · show n + 1 ≤ 400; omega
      · split
        · show n + 1 ≤ 400; omega
        · show n + 1 ≤ 400; omega
theorem gr_v_le {A : md_A} {p c : Nat} : ∀ (v : Nat) (q : gr_Q), q.2.1 ≤ 400 → (gr_v A p c v q).2.1 ≤ 400
  | 0, _, h => h
  | v + 1, q, h => gr_p1_le (gr_v_le v q h)
theorem gr_c_le {A : md_A} {p : Nat} : ∀ (n : Nat) (q : gr_Q), q.2.1 ≤ 400 → (gr_c A p n q).2.1 ≤ 400
  | 0, _, h => h
  | n + 1, q, h => gr_v_le 4 _ (gr_c_le n q h)
theorem gr_run_le {A : md_A} {p : Nat} : ∀ (f : Nat) (S : Nat → Nat) (n : Nat), n ≤ 400 → (gr_run A p f S n).2 ≤ 400
  | 0, _, _, h => h
  | f + 1, S, n, h => by
    have h1 := gr_c_le (A := A) (p := p) (A 1 p * A 2 p) (S, n, 0, 0) h
    rw [gr_run_s]
    generalize gr_c A p (A 1 p * A 2 p) (S, n, 0, 0) = q at h1 ⊢
    obtain ⟨S1, n1, k, e⟩ := q
    have h1 : n1 ≤ 400 := h1
    dsimp only
    split
    · exact h1
    · split
      · exact h1
      · split
        · exact h1
        · exact gr_run_le f S1 n1 h1
theorem gr_all_le (A : md_A) (p : Nat) : (gr_all A p).2 ≤ 400 := by
  unfold gr_all
  split
  · exact Nat.zero_le _
  · split
    · exact Nat.zero_le _
    · exact gr_run_le _ _ _ (Nat.zero_le _)
theorem Inv.start : Inv 0 md_I0 md_A0 := by
  refine Inv.of ⟨Nat.zero_le _, fun p hp => absurd hp (Nat.not_lt_zero _), fun p _ _ => ⟨rfl, fun _ _ => rfl⟩⟩ (fun x _ => Nat.zero_le _) ⟨Nat.zero_le _, fun g hg => absurd hg (Nat.not_lt_zero _), fun g _ _ => ⟨rfl, rfl, rfl⟩⟩ ⟨Nat.zero_le _, Nat.zero_le _, Nat.zero_le _, Nat.zero_le _, Nat.zero_le _⟩ (Nat.zero_le _)
