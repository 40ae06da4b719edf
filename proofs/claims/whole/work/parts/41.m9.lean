/-- the desk, as the model has loaded it -/
theorem md_ld {A : md_A} {p : Nat} : pz_on A p (fun x => md_cp A 10 0 (fun x => A 8 (100 * p + x)) (A 1 p * A 2 p) 10 (0 + x)) (fun x => A 8 (100 * p + x)) := fun x hx => md_cp_in A hx
theorem md_ld_lt {A : md_A} {p : Nat} : ∀ k, k < 10 → md_cp A 10 0 (fun x => A 8 (100 * p + x)) (A 1 p * A 2 p) k = A k := fun k hk => md_cp_k A (by omega)
theorem md_ld_per {I : md_I} {A : md_A} {p : Nat} : Per I I A (md_cp A 10 0 (fun x => A 8 (100 * p + x)) (A 1 p * A 2 p)) := ⟨fun _ _ _ => rfl, fun k hk => md_cp_k A (by omega)⟩
theorem md_cp_congr {A A' : md_A} {o n : Nat} {g g' : Nat → Nat} (hA : A' 8 = A 8) (h : ∀ x, x < n → g x = g' x) : md_cp A' 8 o g n 8 = md_cp A 8 o g' n 8 := by
  funext j
  unfold md_cp va_up
  rw [if_pos rfl, if_pos rfl, hA]
  by_cases hj : o ≤ j ∧ j < o + n
  · show (if o ≤ j ∧ j < o + n then g (j - o) else _) = if o ≤ j ∧ j < o + n then g' (j - o) else _
    rw [if_pos hj, if_pos hj, h _ (by omega)]
  · show (if o ≤ j ∧ j < o + n then g (j - o) else _) = if o ≤ j ∧ j < o + n then g' (j - o) else _
    rw [if_neg hj, if_neg hj]
theorem Per.cp {I I' : md_I} {A A' : md_A} {o n : Nat} {g g' : Nat → Nat} (h : Per I I' A A') (hg : ∀ x, x < n → g x = g' x) : Per I I' (md_cp A 8 o g' n) (md_cp A' 8 o g n) := ⟨h.1, fun k hk => by
  by_cases h8 : k = 8
  · subst h8; exact md_cp_congr (h.2 8 (by omega)) hg
  · rw [md_cp_k _ h8, md_cp_k _ h8]; exact h.2 k hk⟩

set_option maxHeartbeats 4000000 in
set_option maxRecDepth 100000 in
theorem c_X9_ways {T : q_T} {m : Nat} {G0 G : q_G} {I : md_I} {A : md_A} {sz t : Nat} (hM : Mod T m G0 I A G) (hI : Inv t I A) (x y : Int32) : q_C T mX9_ways 3 74 0 0 [.ref m, .int x, .int y] G sz (fun v G' sz' => sz = sz' ∧ ∃ (I' : md_I) (A' : md_A), Mod T m G0 I' A' G' ∧ ((∃ p ln, p < I 0 ∧ x = nI p ∧ ln < A 1 p + A 2 p ∧ y = nI ln ∧ v = some (.int (nI (pz_W A p ln (fun x => A 8 (100 * p + x))))) ∧ Per I I' A A') ∨ (¬ (∃ p ln, p < I 0 ∧ x = nI p ∧ ln < A 1 p + A 2 p ∧ y = nI ln) ∧ v = some (.int (-1)) ∧ Per I I' A A'))) := by
  refine q_C.of (by decide) rfl (by simp [Value.category]) (Nat.le_of_ble_eq_true rfl) ?_
  refine q_aload_n dX9_ways_0 rfl rfl ?_
  refine q_iload_n dX9_ways_1 rfl ?_
  refine q_iload_n dX9_ways_2 rfl ?_
  refine q_iv (As := [_, _]) dX9_ways_3 ml_X9_117 mt_X9_isLine mi_X9_isLine se_X9_isLine hM.1 rfl rfl (Nat.le_of_ble_eq_true rfl) (Nat.le_of_ble_eq_true rfl) (Nat.zero_le _) (Nat.zero_le _) (Nat.le_of_ble_eq_true rfl) (q_C.mono (c_X9_isLine hM hI.1 hI.puz _ _) (fun v G1 sz1 hq => ?_))
  obtain ⟨⟨⟨p, ln, hp, rfl, hln, rfl⟩, rfl⟩ | ⟨hV, rfl⟩, rfl, rfl⟩ := hq
  · have hz := (hI.2.1 p hp).1
    have hp30 := hI.1
    refine q_if_ne (tgt := 11) dX9_ways_6 (by decide) (fun _ => ?_) (fun h => absurd h (by decide))
    refine q_aload_n dX9_ways_11 rfl rfl ?_
    refine q_iload_n dX9_ways_12 rfl ?_
    refine q_iconst (v := nI 0) dX9_ways_13 (by decide) ?_
    refine q_iv (As := [_, _]) dX9_ways_14 ml_X9_156 mt_X9_loads mi_X9_loads se_X9_loads hM.1 rfl rfl (Nat.le_of_ble_eq_true rfl) (Nat.le_of_ble_eq_true rfl) (Nat.zero_le _) (Nat.zero_le _) (Nat.le_of_ble_eq_true rfl) (q_C.mono (c_X9_loads hM (by omega) (hI.puz p hp) (by omega)) (fun v G sz1 hq => ?_))
    obtain ⟨rfl, rfl, hM⟩ := hq
    refine q_aload_n dX9_ways_17 rfl rfl ?_
    refine q_iload_n dX9_ways_18 rfl ?_
    refine q_iload_n dX9_ways_19 rfl ?_
    refine q_iconst (v := nI 0) dX9_ways_20 (by decide) ?_
    refine q_iv (As := [_, _, _]) dX9_ways_21 ml_X9_150 mt_X9_lists mi_X9_lists se_X9_lists hM.1 rfl rfl (Nat.le_of_ble_eq_true rfl) (Nat.le_of_ble_eq_true rfl) (Nat.zero_le _) (Nat.zero_le _) (Nat.le_of_ble_eq_true rfl) (q_C.mono (c_X9_lists' hM (hz.same md_ld_lt) (by rw [md_ld_lt 1 (by decide), md_ld_lt 2 (by decide)]; exact hln) (by decide) (Ps.same md_ld_lt (pz_on_ps md_ld.symm (hI.ps hp)))) (fun v G sz1 hq => ?_))
    rw [pz_same_W md_ld_lt, pz_on_W hz hln md_ld] at hq
    obtain ⟨rfl, A1, rfl, hM, hA1, -⟩ := hq
    exact q_ireturn dX9_ways_24 rfl rfl ⟨rfl, _, A1, hM, Or.inl ⟨p, ln, hp, rfl, hln, rfl, rfl, md_ld_per.trans ⟨fun j h1 _ => by unfold va_up; rw [if_neg h1], fun k hk => hA1 k (by omega)⟩⟩⟩
  · refine q_if_ne (tgt := 11) dX9_ways_6 (by decide) (fun h => absurd h (by decide)) (fun _ => ?_)
    refine q_iconst (v := -1) dX9_ways_9 (by decide) ?_
    exact q_ireturn dX9_ways_10 rfl rfl ⟨rfl, I, A, hM, Or.inr ⟨hV, rfl, Per.rfl'⟩⟩

set_option maxHeartbeats 4000000 in
set_option maxRecDepth 100000 in
theorem c_X9_step {T : q_T} {m : Nat} {G0 G : q_G} {I : md_I} {A : md_A} {sz t : Nat} (hM : Mod T m G0 I A G) (hI : Inv t I A) (x y : Int32) : q_C T mX9_step 4 101 0 0 [.ref m, .int x, .int y] G sz (fun v G' sz' => sz = sz' ∧ ∃ (I' : md_I) (A' : md_A), Mod T m G0 I' A' G' ∧ ((∃ p ln, p < I 0 ∧ x = nI p ∧ ln < A 1 p + A 2 p ∧ y = nI ln ∧ ((pz_W A p ln (fun x => A 8 (100 * p + x)) = 0 ∧ v = some (.int (-2)) ∧ Per I I' A A') ∨ (0 < pz_W A p ln (fun x => A 8 (100 * p + x)) ∧ v = some (.int (nI (pz_gone A p ln (fun x => A 8 (100 * p + x))))) ∧ Per I I' (md_cp A 8 (100 * p) (pz_stp A p ln (fun x => A 8 (100 * p + x))) (A 1 p * A 2 p)) A'))) ∨ (¬ (∃ p ln, p < I 0 ∧ x = nI p ∧ ln < A 1 p + A 2 p ∧ y = nI ln) ∧ v = some (.int (-1)) ∧ Per I I' A A'))) := by
  refine q_C.of (by decide) rfl (by simp [Value.category]) (Nat.le_of_ble_eq_true rfl) ?_
  refine q_aload_n dX9_step_0 rfl rfl ?_
  refine q_iload_n dX9_step_1 rfl ?_
  refine q_iload_n dX9_step_2 rfl ?_
  refine q_iv (As := [_, _]) dX9_step_3 ml_X9_117 mt_X9_isLine mi_X9_isLine se_X9_isLine hM.1 rfl rfl (Nat.le_of_ble_eq_true rfl) (Nat.le_of_ble_eq_true rfl) (Nat.zero_le _) (Nat.zero_le _) (Nat.le_of_ble_eq_true rfl) (q_C.mono (c_X9_isLine hM hI.1 hI.puz _ _) (fun v G1 sz1 hq => ?_))
  obtain ⟨⟨⟨p, ln, hp, rfl, hln, rfl⟩, rfl⟩ | ⟨hV, rfl⟩, rfl, rfl⟩ := hq
  · have hz := (hI.2.1 p hp).1
    have hp30 := hI.1
    refine q_if_ne (tgt := 11) dX9_step_6 (by decide) (fun _ => ?_) (fun h => absurd h (by decide))
    refine q_aload_n dX9_step_11 rfl rfl ?_
    refine q_iload_n dX9_step_12 rfl ?_
    refine q_iconst (v := nI 0) dX9_step_13 (by decide) ?_
    refine q_iv (As := [_, _]) dX9_step_14 ml_X9_156 mt_X9_loads mi_X9_loads se_X9_loads hM.1 rfl rfl (Nat.le_of_ble_eq_true rfl) (Nat.le_of_ble_eq_true rfl) (Nat.zero_le _) (Nat.zero_le _) (Nat.le_of_ble_eq_true rfl) (q_C.mono (c_X9_loads hM (by omega) (hI.puz p hp) (by omega)) (fun v G sz1 hq => ?_))
    obtain ⟨rfl, rfl, hM⟩ := hq
    refine q_aload_n dX9_step_17 rfl rfl ?_
    refine q_iload_n dX9_step_18 rfl ?_
    refine q_iload_n dX9_step_19 rfl ?_
    refine q_iconst (v := nI 0) dX9_step_20 (by decide) ?_
    refine q_iv (As := [_, _, _]) dX9_step_21 ml_X9_153 mt_X9_steps mi_X9_steps se_X9_steps hM.1 rfl rfl (Nat.le_of_ble_eq_true rfl) (Nat.le_of_ble_eq_true rfl) (Nat.zero_le _) (Nat.zero_le _) (Nat.le_of_ble_eq_true rfl) (q_C.mono (c_X9_steps hM (hz.same md_ld_lt) (by rw [md_ld_lt 1 (by decide), md_ld_lt 2 (by decide)]; exact hln) (by decide) (Ps.same md_ld_lt (pz_on_ps md_ld.symm (hI.ps hp)))) (fun v G sz1 hq => ?_))
    rw [pz_same_W md_ld_lt, pz_on_W hz hln md_ld, pz_same_gone md_ld_lt, pz_on_gone hz hln md_ld, pz_same_stp md_ld_lt] at hq
    obtain ⟨rfl, I1, A1, hM, hR, ⟨hw0, rfl, -⟩ | ⟨hw0, rfl, h10, -⟩⟩ := hq
    · refine s_istore_n dX9_step_24 (by decide) rfl ?_
      refine q_iload_n dX9_step_25 rfl ?_
      refine q_iconst (v := -1) dX9_step_26 (by decide) ?_
      refine q_icmp_ne (tgt := 33) dX9_step_27 (by decide) (fun h => absurd rfl h) (fun _ => ?_)
      refine q_bipush (v := -2) dX9_step_30 (by decide) ?_
      exact q_ireturn dX9_step_32 rfl rfl ⟨rfl, I1, A1, hM, Or.inl ⟨p, ln, hp, rfl, hln, rfl, Or.inl ⟨hw0, rfl, md_ld_per.trans hR.per⟩⟩⟩
    · refine s_istore_n dX9_step_24 (by decide) rfl ?_
      refine q_iload_n dX9_step_25 rfl ?_
      refine q_iconst (v := -1) dX9_step_26 (by decide) ?_
      refine q_icmp_ne (tgt := 33) dX9_step_27 (by decide) (fun _ => ?_) (fun h => absurd h (nI_m1 (by have := pz_tot_stp hz hln (hI.ps hp); have := pz_tot_le hz (hI.ps hp); omega)))
      refine q_aload_n dX9_step_33 rfl rfl ?_
      refine q_iload_n dX9_step_34 rfl ?_
      refine q_iconst (v := nI 0) dX9_step_35 (by decide) ?_
      refine q_iv (As := [_, _]) dX9_step_36 ml_X9_160 mt_X9_stores mi_X9_stores se_X9_stores hM.1 rfl rfl (Nat.le_of_ble_eq_true rfl) (Nat.le_of_ble_eq_true rfl) (Nat.zero_le _) (Nat.zero_le _) (Nat.le_of_ble_eq_true rfl) (q_C.mono (c_X9_stores hM (by omega) (by have := hI.puz p hp; rw [hR.lt 1 (by decide), hR.lt 2 (by decide), md_ld_lt 1 (by decide), md_ld_lt 2 (by decide)]; exact this) (by omega)) (fun v G sz1 hq => ?_))
      obtain ⟨rfl, rfl, hM⟩ := hq
      refine q_iload_n dX9_step_39 rfl ?_
      exact q_ireturn dX9_step_40 rfl rfl ⟨rfl, I1, _, hM, Or.inl ⟨p, ln, hp, rfl, hln, rfl, Or.inr ⟨hw0, rfl, by rw [show A1 1 = A 1 from (hR.lt 1 (by decide)).trans (md_ld_lt 1 (by decide)), show A1 2 = A 2 from (hR.lt 2 (by decide)).trans (md_ld_lt 2 (by decide))]; exact (md_ld_per.trans hR.per).cp (fun x hx => (h10 x).trans (pz_on_stp hz hln md_ld x hx))⟩⟩⟩
  · refine q_if_ne (tgt := 11) dX9_step_6 (by decide) (fun h => absurd h (by decide)) (fun _ => ?_)
    refine q_iconst (v := -1) dX9_step_9 (by decide) ?_
    exact q_ireturn dX9_step_10 rfl rfl ⟨rfl, I, A, hM, Or.inr ⟨hV, rfl, Per.rfl'⟩⟩

theorem pz_same_rd {A A' : md_A} (h : ∀ k, k < 10 → A' k = A k) (p : Nat) (S : Nat → Nat) : ∀ k, pz_rd A' p k S = pz_rd A p k S := by
  intro k
  induction k with
  | zero => rfl
  | succ k ih =>
    show (match pz_rd A' p k S with | none => none | some (S1, g) => _) = match pz_rd A p k S with | none => none | some (S1, g) => _
    rw [ih]
    cases pz_rd A p k S with
    | none => rfl
    | some z => obtain ⟨S1, g⟩ := z; dsimp only; rw [pz_same_W h, pz_same_stp h, pz_same_gone h]
theorem pz_same_st {A A' : md_A} (h : ∀ k, k < 10 → A' k = A k) (p : Nat) : ∀ (f : Nat) (S : Nat → Nat), pz_st A' p f S = pz_st A p f S := by
  intro f
  induction f with
  | zero => intro S; rfl
  | succ f ih =>
    intro S
    rw [pz_st_s, pz_st_s, pz_same_rd h, h 1 (by decide), h 2 (by decide)]
    cases pz_rd A p (A 1 p + A 2 p) S with
    | none => rfl
    | some z => obtain ⟨S1, g⟩ := z; dsimp only; rw [ih]

set_option maxHeartbeats 4000000 in
set_option maxRecDepth 100000 in
theorem c_X9_settle {T : q_T} {m : Nat} {G0 G : q_G} {I : md_I} {A : md_A} {sz t : Nat} (hM : Mod T m G0 I A G) (hI : Inv t I A) (x : Int32) : q_C T mX9_settle 5 128 0 0 [.ref m, .int x] G sz (fun v G' sz' => sz = sz' ∧ ∃ (I' : md_I) (A' : md_A), Mod T m G0 I' A' G' ∧ ((∃ p, p < I 0 ∧ x = nI p ∧ ((pz_st A p 401 (fun x => A 8 (100 * p + x)) = none ∧ v = some (.int (-2)) ∧ Per I I' A A') ∨ ∃ r S', pz_st A p 401 (fun x => A 8 (100 * p + x)) = some (r, S') ∧ v = some (.int (nI r)) ∧ Per I I' (md_cp A 8 (100 * p) S' (A 1 p * A 2 p)) A')) ∨ (¬ (∃ p, p < I 0 ∧ x = nI p) ∧ v = some (.int (-1)) ∧ Per I I' A A'))) := by
  refine q_C.of (by decide) rfl (by simp [Value.category]) (Nat.le_of_ble_eq_true rfl) ?_
  refine q_aload_n dX9_settle_0 rfl rfl ?_
  refine q_iload_n dX9_settle_1 rfl ?_
  refine q_iv (As := [_]) dX9_settle_2 ml_X9_100 mt_X9_isPuzzle mi_X9_isPuzzle se_X9_isPuzzle hM.1 rfl rfl (Nat.le_of_ble_eq_true rfl) (Nat.le_of_ble_eq_true rfl) (Nat.zero_le _) (Nat.zero_le _) (Nat.le_of_ble_eq_true rfl) (q_C.mono (c_X9_isPuzzle hM _) (fun v G1 sz1 hq => ?_))
  obtain ⟨⟨⟨p, hp, rfl⟩, rfl⟩ | ⟨hV, rfl⟩, rfl, rfl⟩ := hq
  · have hz := (hI.2.1 p hp).1
    have hp30 := hI.1
    refine q_if_ne (tgt := 10) dX9_settle_5 (by decide) (fun _ => ?_) (fun h => absurd h (by decide))
    refine q_aload_n dX9_settle_10 rfl rfl ?_
    refine q_iload_n dX9_settle_11 rfl ?_
    refine q_iconst (v := nI 0) dX9_settle_12 (by decide) ?_
    refine q_iv (As := [_, _]) dX9_settle_13 ml_X9_156 mt_X9_loads mi_X9_loads se_X9_loads hM.1 rfl rfl (Nat.le_of_ble_eq_true rfl) (Nat.le_of_ble_eq_true rfl) (Nat.zero_le _) (Nat.zero_le _) (Nat.le_of_ble_eq_true rfl) (q_C.mono (c_X9_loads hM (by omega) (hI.puz p hp) (by omega)) (fun v G sz1 hq => ?_))
    obtain ⟨rfl, rfl, hM⟩ := hq
    refine q_aload_n dX9_settle_16 rfl rfl ?_
    refine q_iload_n dX9_settle_17 rfl ?_
    refine q_iconst (v := nI 0) dX9_settle_18 (by decide) ?_
    refine q_iv (As := [_, _]) dX9_settle_19 ml_X9_163 mt_X9_settles mi_X9_settles se_X9_settles hM.1 rfl rfl (Nat.le_of_ble_eq_true rfl) (Nat.le_of_ble_eq_true rfl) (Nat.zero_le _) (Nat.zero_le _) (Nat.le_of_ble_eq_true rfl) (q_C.mono (c_X9_settles hM (hz.same md_ld_lt) (by decide) (Ps.same md_ld_lt (pz_on_ps md_ld.symm (hI.ps hp)))) (fun v G sz1 hq => ?_))
    rw [pz_same_st md_ld_lt] at hq
    obtain ⟨rfl, I1, A1, hM, hR, hq⟩ := hq
    have hal := pz_on_st hz 401 _ _ (md_ld (A := A) (p := p))
    obtain ⟨e0, rfl, -⟩ | ⟨r, S1, e0, rfl, hV1⟩ := hq
    · obtain ⟨-, e1⟩ | ⟨r, S1, S1', e1, -, -⟩ := hal
      · refine s_istore_n dX9_settle_22 (by decide) rfl ?_
        refine q_iload_n dX9_settle_23 rfl ?_
        refine q_iconst (v := -1) dX9_settle_24 (by decide) ?_
        refine q_icmp_ne (tgt := 31) dX9_settle_25 (by decide) (fun h => absurd rfl h) (fun _ => ?_)
        refine q_bipush (v := -2) dX9_settle_28 (by decide) ?_
        exact q_ireturn dX9_settle_30 rfl rfl ⟨rfl, I1, A1, hM, Or.inl ⟨p, hp, rfl, Or.inl ⟨e1, rfl, md_ld_per.trans hR.per⟩⟩⟩
      · rw [e0] at e1; cases e1
    · obtain ⟨e1, -⟩ | ⟨r1, S2, S2', e1, e2, e3⟩ := hal
      · rw [e0] at e1; cases e1
      · rw [e0] at e1
        cases e1
        refine s_istore_n dX9_settle_22 (by decide) rfl ?_
        refine q_iload_n dX9_settle_23 rfl ?_
        refine q_iconst (v := -1) dX9_settle_24 (by decide) ?_
        refine q_icmp_ne (tgt := 31) dX9_settle_25 (by decide) (fun _ => ?_) (fun h => absurd h (nI_m1 (by have := pz_st_inv hz 401 _ (hI.ps hp) _ _ e2; have := pz_tot_le hz (hI.ps hp); omega)))
        refine q_aload_n dX9_settle_31 rfl rfl ?_
        refine q_iload_n dX9_settle_32 rfl ?_
        refine q_iconst (v := nI 0) dX9_settle_33 (by decide) ?_
        refine q_iv (As := [_, _]) dX9_settle_34 ml_X9_160 mt_X9_stores mi_X9_stores se_X9_stores hM.1 rfl rfl (Nat.le_of_ble_eq_true rfl) (Nat.le_of_ble_eq_true rfl) (Nat.zero_le _) (Nat.zero_le _) (Nat.le_of_ble_eq_true rfl) (q_C.mono (c_X9_stores hM (by omega) (by have := hI.puz p hp; rw [hR.lt 1 (by decide), hR.lt 2 (by decide), md_ld_lt 1 (by decide), md_ld_lt 2 (by decide)]; exact this) (by omega)) (fun v G sz1 hq => ?_))
        obtain ⟨rfl, rfl, hM⟩ := hq
        refine q_iload_n dX9_settle_37 rfl ?_
        exact q_ireturn dX9_settle_38 rfl rfl ⟨rfl, I1, _, hM, Or.inl ⟨p, hp, rfl, Or.inr ⟨r, S2', e2, rfl, by rw [show A1 1 = A 1 from (hR.lt 1 (by decide)).trans (md_ld_lt 1 (by decide)), show A1 2 = A 2 from (hR.lt 2 (by decide)).trans (md_ld_lt 2 (by decide))]; exact (md_ld_per.trans hR.per).cp (fun x hx => (hV1.1 x).trans (e3 x hx))⟩⟩⟩
  · refine q_if_ne (tgt := 10) dX9_settle_5 (by decide) (fun h => absurd h (by decide)) (fun _ => ?_)
    refine q_iconst (v := -1) dX9_settle_8 (by decide) ?_
    exact q_ireturn dX9_settle_9 rfl rfl ⟨rfl, I, A, hM, Or.inr ⟨hV, rfl, Per.rfl'⟩⟩
