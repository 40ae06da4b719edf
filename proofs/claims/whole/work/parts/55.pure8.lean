/-! the search in the model's cells -/
theorem sr_nx_hit {s v : Nat} (hv : v < 4) (h : s.testBit v = true) : sr_nx s v = v := by
  unfold sr_nx
  rcases (show v = 0 ∨ v = 1 ∨ v = 2 ∨ v = 3 by omega) with rfl | rfl | rfl | rfl <;> simp [h]
theorem sr_nx_miss {s v : Nat} (hv : v < 4) (h : s.testBit v = false) : sr_nx s v = sr_nx s (v + 1) := by
  unfold sr_nx
  rcases (show v = 0 ∨ v = 1 ∨ v = 2 ∨ v = 3 by omega) with rfl | rfl | rfl | rfl <;> simp [h]
theorem sr_nx_4 {s v : Nat} (hv : 4 ≤ v) : sr_nx s v = 4 := by
  unfold sr_nx
  rw [if_neg (by omega), if_neg (by omega), if_neg (by omega), if_neg (by omega)]
def Sr (I I1 : md_I) (A A1 : md_A) (p h : Nat) (LS : Nat → Nat → Nat) (C X : Nat → Nat) (f : Nat) (P : Nat → Nat → Nat) (t : Nat) : Prop :=
  (∀ j, j ≠ 1 → j ≠ 2 → j ≠ 3 → j ≠ 4 → I1 j = I j) ∧ I1 2 = f ∧ I1 3 = t ∧ I1 4 = A 1 p * A 2 p ∧ (∀ k, k < 10 ∨ 18 < k → A1 k = A k) ∧
  (∀ d, d < h → (∀ x, x < A 1 p * A 2 p → A1 10 (100 * d + x) = LS d x) ∧ A1 17 d = C d ∧ A1 18 d = X d ∧ X d ≤ 4) ∧
  (∀ i, i < f → ∀ k, k < A 1 p * A 2 p → A1 16 (100 * i + k) = P i k) ∧ sr_ok A p (h, LS, C, X, f, P, t)
theorem Sr.lt {I I1 : md_I} {A A1 : md_A} {p h : Nat} {LS : Nat → Nat → Nat} {C X : Nat → Nat} {f : Nat} {P : Nat → Nat → Nat} {t : Nat} (hS : Sr I I1 A A1 p h LS C X f P t) : ∀ k, k < 10 → A1 k = A k := fun k hk => hS.2.2.2.2.1 k (Or.inl hk)
theorem va_up_s {α : Type} (f : Nat → α) (i : Nat) (v : α) : va_up f i v i = v := by simp [va_up]
theorem va_up_n {α : Type} (f : Nat → α) {i j : Nat} (v : α) (h : j ≠ i) : va_up f i v j = f j := by simp [va_up, h]
theorem Sr.push {I I1 I2 : md_I} {A A1 A2 : md_A} {p h : Nat} {LS : Nat → Nat → Nat} {C X : Nat → Nat} {f : Nat} {P : Nat → Nat → Nat} {t : Nat} {S : Nat → Nat} {v : Option Value} (hz : Pz A p) (hS : Sr I I1 A A1 p h LS C X f P t) (hon : pz_on A p (fun x => A1 10 (100 * h + x)) S) (hps : Ps A p S) (hpn : Pn A p S) (hno : ∀ S1, Ps A p S1 → pz_sub A p S1 S → pz_no A p S1 + h ≤ A 1 p * A 2 p) (hfr : (∀ j, j ≠ 1 → j ≠ 2 → I2 j = I1 j) ∧ ∀ k, (k < 10 ∨ 18 < k) → k ≠ 17 ∧ k ≠ 18 → A2 k = A1 k)
    (hq : (pz_st A1 p 401 (fun x => A1 10 (100 * h + x)) = none ∧ v = some (.int (nI 0)) ∧ I2 2 = I1 2 ∧ A2 16 = A1 16 ∧ A2 17 = A1 17 ∧ A2 18 = A1 18 ∧ ∀ j, j < 100 * h → A2 10 j = A1 10 j) ∨ (∃ r S1, pz_st A1 p 401 (fun x => A1 10 (100 * h + x)) = some (r, S1) ∧ pz_oc S1 (A1 1 p * A1 2 p) = none ∧ v = some (.int (nI 0)) ∧ I2 2 = I1 2 + 1 ∧ (∀ k, k < A1 1 p * A1 2 p → A2 16 (100 * I1 2 + k) = pz_log (S1 k)) ∧ (∀ j, j < 100 * I1 2 → A2 16 j = A1 16 j) ∧ A2 17 = A1 17 ∧ A2 18 = A1 18 ∧ Sv A1 A2 (100 * h) S1) ∨ (∃ r S1 b nb, pz_st A1 p 401 (fun x => A1 10 (100 * h + x)) = some (r, S1) ∧ pz_oc S1 (A1 1 p * A1 2 p) = some (b, nb) ∧ v = some (.int (nI 1)) ∧ Sv A1 A2 (100 * h) S1 ∧ I2 2 = I1 2 ∧ A2 16 = A1 16 ∧ (∀ j, A2 17 j = if j = h then b else A1 17 j) ∧ (∀ j, A2 18 j = if j = h then 0 else A1 18 j))) :
    ∃ h' LS' C' X' f' P', sr_push A p S (h, LS, C, X, f, P, t) = (h', LS', C', X', f', P', t) ∧ Sr I I2 A A2 p h' LS' C' X' f' P' t ∧ ((v = some (.int (nI 0)) ∧ h' = h ∧ f' ≤ f + 1) ∨ (v = some (.int (nI 1)) ∧ h' = h + 1 ∧ f' = f)) := by
  have lt := hS.lt
  obtain ⟨s1, s2, s3, s4, s5, s6, s7, s8⟩ := hS
  have hsz := pz_size hz
  rw [pz_same_st lt, lt 1 (by decide), lt 2 (by decide)] at hq
  have f1 : ∀ j, j ≠ 1 → j ≠ 2 → j ≠ 3 → j ≠ 4 → I2 j = I j := fun j h1 h2 h3 h4 => (hfr.1 j h1 h2).trans (s1 j h1 h2 h3 h4)
  have f3 : I2 3 = t := (hfr.1 3 (by decide) (by decide)).trans s3
  have f4 : I2 4 = A 1 p * A 2 p := (hfr.1 4 (by decide) (by decide)).trans s4
  have f5 : ∀ k, k < 10 ∨ 18 < k → A2 k = A k := fun k hk => (hfr.2 k hk (by omega)).trans (s5 k hk)
  have hal := pz_on_st hz 401 _ _ hon
  rcases hq with ⟨e0, rfl, g2, g16, g17, g18, g10⟩ | ⟨r, S1, e0, e1, rfl, g2, g16, g16b, g17, g18, gv⟩ | ⟨r, S1, b, nb, e0, e1, rfl, gv, g2, g16, g17, g18⟩
  · rcases hal with ⟨-, e2⟩ | ⟨r, T1, T2, e2, -, -⟩
    · refine ⟨h, LS, C, X, f, P, by unfold sr_push sr_op; rw [e2], ⟨f1, g2.trans s2, f3, f4, f5, fun d hd => ⟨fun x hx => (g10 _ (by omega)).trans ((s6 d hd).1 x hx), by rw [g17]; exact (s6 d hd).2.1, by rw [g18]; exact (s6 d hd).2.2⟩, fun i hi k hk => by rw [g16]; exact s7 i hi k hk, s8⟩, Or.inl ⟨rfl, rfl, by omega⟩⟩
    · rw [e0] at e2; cases e2
  · rcases hal with ⟨e2, -⟩ | ⟨r', T1, T2, e2, e3, e4⟩
    · rw [e0] at e2; cases e2
    · rw [e0] at e2
      cases e2
      have e5 : pz_oc T2 (A 1 p * A 2 p) = none := by rw [← pz_oc_congr (S := S1) _ (fun x hx => e4 x hx)]; exact e1
      have eq : sr_push A p S (h, LS, C, X, f, P, t) = (h, LS, C, X, f + 1, va_up P f (fun k => pz_log (T2 k)), t) := by unfold sr_push sr_op; rw [e3]; dsimp only; rw [e5]
      refine ⟨h, LS, C, X, f + 1, _, eq, ⟨f1, by omega, f3, f4, f5, fun d hd => ⟨fun x hx => (gv.2 _ (by omega)).trans ((s6 d hd).1 x hx), by rw [g17]; exact (s6 d hd).2.1, by rw [g18]; exact (s6 d hd).2.2⟩, fun i hi k hk => ?_, s8⟩, Or.inl ⟨rfl, rfl, Nat.le_refl _⟩⟩
      by_cases hif : i = f
      · subst hif
        rw [va_up_s, ← s2, g16 k hk, e4 k hk]
      · rw [va_up_n _ _ hif, g16b _ (by omega)]
        exact s7 i (by omega) k hk
  · rcases hal with ⟨e2, -⟩ | ⟨r', T1, T2, e2, e3, e4⟩
    · rw [e0] at e2; cases e2
    · rw [e0] at e2
      cases e2
      have e5 : pz_oc T2 (A 1 p * A 2 p) = some (b, nb) := by rw [← pz_oc_congr (S := S1) _ (fun x hx => e4 x hx)]; exact e1
      have eo : sr_op A p S = some (some b, T2) := by unfold sr_op; rw [e3]; dsimp only; rw [e5]
      have eq : sr_push A p S (h, LS, C, X, f, P, t) = (h + 1, va_up LS h T2, va_up C h b, va_up X h 0, f, P, t) := by unfold sr_push; rw [eo]
      obtain ⟨i1, i2, i3, i4⟩ := sr_op_inv hz hps hpn eo
      refine ⟨h + 1, _, _, _, f, P, eq, ⟨f1, g2.trans s2, f3, f4, f5, fun d hd => ?_, fun i hi k hk => by rw [g16]; exact s7 i hi k hk, fun d hd => ?_⟩, Or.inr ⟨rfl, rfl, rfl⟩⟩
      · by_cases hdh : d = h
        · subst hdh
          rw [va_up_s, va_up_s, va_up_s, g17, g18, if_pos rfl, if_pos rfl]
          exact ⟨fun x hx => (gv.1 x).trans (e4 x hx), rfl, rfl, Nat.zero_le _⟩
        · rw [va_up_n _ _ hdh, va_up_n _ _ hdh, va_up_n _ _ hdh, g17, g18, if_neg hdh, if_neg hdh]
          have hd' : d < h := by omega
          exact ⟨fun x hx => (gv.2 _ (by omega)).trans ((s6 d hd').1 x hx), (s6 d hd').2⟩
      · dsimp only at hd ⊢
        by_cases hdh : d = h
        · subst hdh
          rw [va_up_s, va_up_s]
          exact ⟨i1, i2, (i4 b rfl).1, (i4 b rfl).2, hno T2 i1 i3⟩
        · rw [va_up_n _ _ hdh, va_up_n _ _ hdh]
          exact s8 d (show d < h by omega)
/-- a try: the level's next moves on, a try is counted -/
theorem sr_run_s (A : md_A) (p tries limit n h : Nat) (LS : Nat → Nat → Nat) (C X : Nat → Nat) (f : Nat) (P : Nat → Nat → Nat) (t : Nat) : sr_run A p tries limit (n + 1) (h, LS, C, X, f, P, t) = if h = 0 ∨ limit ≤ f then (false, (h, LS, C, X, f, P, t)) else if sr_nx (LS (h - 1) (C (h - 1))) (X (h - 1)) = 4 then sr_run A p tries limit n (h - 1, LS, C, X, f, P, t) else if t = tries then (true, (h, LS, C, X, f, P, t)) else sr_run A p tries limit n (sr_push A p (sr_child LS C h (sr_nx (LS (h - 1) (C (h - 1))) (X (h - 1)))) (h, LS, C, va_up X (h - 1) (sr_nx (LS (h - 1) (C (h - 1))) (X (h - 1)) + 1), f, P, t + 1)) := rfl
def D_srch (I : md_I) (x y w : Int32) (p tr li : Nat) : Prop := p < I 0 ∧ x = nI p ∧ (tr ≤ 200 ∧ y = nI tr) ∧ (1 ≤ li ∧ li ≤ 5 ∧ w = nI li)
def D_search (I : md_I) (A : md_A) (x y w z : Int32) (I2 : md_I) (A2 : md_A) : Prop := (∃ p tr li b h LS C X f P t, D_srch I x y w p tr li ∧ sr_run A p tr li 402 (sr_0 A p (fun x => A 8 (100 * p + x))) = (b, (h, LS, C, X, f, P, t)) ∧ f ≤ li ∧ t ≤ tr ∧ z = (if b = true then -2 else nI f) ∧ I2 = va_up (va_up (va_up I 2 f) 3 t) 4 (A 1 p * A 2 p) ∧ (∀ k, k ≠ 16 → A2 k = A k) ∧ ∀ i, i < f → ∀ k, k < A 1 p * A 2 p → A2 16 (100 * i + k) = P i k) ∨ (¬ (∃ p tr li, D_srch I x y w p tr li) ∧ z = -1 ∧ I2 = I ∧ A2 = A)
