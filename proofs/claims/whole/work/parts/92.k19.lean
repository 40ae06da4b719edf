/-! THE CLASS: a game at q; marks, befores and afters are kept as value + 1 -/
abbrev gm_ob (q p u d k c : Nat) : List Value := [.int (nI p), .ref u, .ref (q + 1), .int (nI d), .int (nI k), .int (nI c), .ref (q + 2), .ref (q + 3), .ref (q + 4)]
def Gam (T : q_T) (G : q_G) (q p u n d k c : Nat) (M C Bf Af : Nat → Nat) : Prop := G q = some (q_ob 1 (gm_ob q p u d k c)) ∧ G (q + 1) = some (q_ia T n (fun i => nI (M i) - 1)) ∧ G (q + 2) = some (q_ia T 200 (fun i => nI (C i))) ∧ G (q + 3) = some (q_ia T 200 (fun i => nI (Bf i) - 1)) ∧ G (q + 4) = some (q_ia T 200 (fun i => nI (Af i) - 1))
theorem Gam.fr {T : q_T} {G G' : q_G} {q p u n d k c : Nat} {M C Bf Af : Nat → Nat} (h : Gam T G q p u n d k c M C Bf Af) (hF : ∀ b, q ≤ b → b < q + 5 → G' b = G b) : Gam T G' q p u n d k c M C Bf Af := ⟨(hF _ (by omega) (by omega)).trans h.1, (hF _ (by omega) (by omega)).trans h.2.1, (hF _ (by omega) (by omega)).trans h.2.2.1, (hF _ (by omega) (by omega)).trans h.2.2.2.1, (hF _ (by omega) (by omega)).trans h.2.2.2.2⟩
theorem e_eq {a b : Nat} (ha : a < 2 ^ 30) (hb : b < 2 ^ 30) : nI a - 1 = nI b - 1 ↔ a = b := by
  constructor
  · intro h
    have h1 := congrArg Int32.toInt h
    have e1 : (nI a - 1).toInt = (a : Int) - (1 : Nat) := pk_sub_toInt (b := 1) ha (by decide)
    have e2 : (nI b - 1).toInt = (b : Int) - (1 : Nat) := pk_sub_toInt (b := 1) hb (by decide)
    omega
  · intro h; rw [h]
theorem e_m1 {a : Nat} (ha : a < 2 ^ 30) : nI a - 1 = -1 ↔ a = 0 := e_eq (b := 0) ha (by decide)
theorem e_zero : (fun i : Nat => nI ((fun _ => 0) i)) = fun i => nI ((fun _ => 1) i) - 1 := funext fun _ => (by decide : nI 0 = nI 1 - 1)
theorem e_fill {n : Nat} : (fun i : Nat => if i < n then (-1 : Int32) else nI ((fun _ => 0) i)) = fun i => nI ((fun i => if i < n then 0 else 1) i) - 1 := by
  funext i
  show _ = nI (if i < n then 0 else 1) - 1
  split
  · decide
  · show nI 0 = nI 1 - 1; decide

set_option maxHeartbeats 4000000 in
set_option maxRecDepth 100000 in
theorem c_X0_init {T : q_T} {G0 : q_G} {q p u w h c D z : Nat} (hg : G0 q = some (q_ob 1 [.int 0, .null, .null, .int 0, .int 0, .int 0, .null, .null, .null])) (hu : G0 u = some (q_ob 5 (pu_ob u w h c D z))) (hwh : w * h ≤ 100) (huq : u < q) : q_C T mX0_init 1 23 4 700 [.ref q, .int (nI p), .ref u] G0 (q + 1) (fun v G' sz' => sz' = q + 5 ∧ v = none ∧ (∀ b, b < q → G' b = G0 b) ∧ ∃ M C Bf Af : Nat → Nat, (∀ i, i < w * h → M i = 0) ∧ Gam T G' q p u (w * h) 0 0 0 M C Bf Af) := by
  refine q_C.of (by decide) rfl (by simp [Value.category]) (Nat.le_of_ble_eq_true rfl) ?_
  have hF : ∀ b, b < q → G0 b = G0 b := fun _ _ => rfl
  refine q_aload_n dX0_init_0 rfl rfl ?_
  refine q_oi dX0_init_1 ml_X0_3 oi_i oi_c (Nat.le_of_ble_eq_true rfl) (Nat.le_of_ble_eq_true rfl) (Nat.le_of_ble_eq_true rfl) ?_
  refine q_aload_n dX0_init_4 rfl rfl ?_
  refine q_iload_n dX0_init_5 rfl ?_
  refine w_put (fs2 := [.int (nI p), .null, .null, .int 0, .int 0, .int 0, .null, .null, .null]) dX0_init_6 fl_X0_9 fp_X0_9 hg (Nat.le_of_ble_eq_true rfl) rfl rfl rfl (fun G hg hN => ?_)
  have hu := (hN _ (by omega)).trans hu
  have hF : ∀ b, b < q → G b = G0 b := fun b hb => (hN b (by omega)).trans (hF b hb)
  refine q_aload_n dX0_init_9 rfl rfl ?_
  refine q_aload_n dX0_init_10 rfl rfl ?_
  refine w_put (fs2 := [.int (nI p), .ref u, .null, .int 0, .int 0, .int 0, .null, .null, .null]) dX0_init_11 fl_X0_15 fp_X0_15 hg (Nat.le_of_ble_eq_true rfl) rfl rfl rfl (fun G hg hN => ?_)
  have hu := (hN _ (by omega)).trans hu
  have hF : ∀ b, b < q → G b = G0 b := fun b hb => (hN b (by omega)).trans (hF b hb)
  refine q_aload_n dX0_init_14 rfl rfl ?_
  refine q_aload_n dX0_init_15 rfl rfl ?_
  refine q_get dX0_init_16 fl_X0_19 hu rfl ?_
  refine w_newI (N := w * h) dX0_init_19 rfl (by omega) (by omega) (by omega) (fun G hM hN => ?_)
  have hM : G (q + 1) = some (q_ia T (w * h) (fun i => nI ((fun _ => 0) i))) := hM
  have hg := (hN _ (by omega)).trans hg
  have hu := (hN _ (by omega)).trans hu
  have hF : ∀ b, b < q → G b = G0 b := fun b hb => (hN b (by omega)).trans (hF b hb)
  refine w_put (fs2 := [.int (nI p), .ref u, .ref (q + 1), .int 0, .int 0, .int 0, .null, .null, .null]) dX0_init_21 fl_X0_24 fp_X0_24 hg (Nat.le_of_ble_eq_true rfl) rfl rfl rfl (fun G hg hN => ?_)
  have hu := (hN _ (by omega)).trans hu
  have hM := (hN _ (by omega)).trans hM
  have hF : ∀ b, b < q → G b = G0 b := fun b hb => (hN b (by omega)).trans (hF b hb)
  refine q_aload_n dX0_init_24 rfl rfl ?_
  refine q_get dX0_init_25 fl_X0_24 hg rfl ?_
  refine q_iconst (v := -1) dX0_init_28 (by decide) ?_
  refine q_is (As := [_, _]) dX0_init_29 ml_X0_28 mt_J7_fill_53178 ms_J7_fill_53178 rfl (Nat.le_of_ble_eq_true rfl) (Nat.le_of_ble_eq_true rfl) (Nat.zero_le _) (Nat.zero_le _) (Nat.le_of_ble_eq_true rfl) (q_C.mono (c_fill (by omega) hM) (fun v G sz1 hq => ?_))
  obtain ⟨rfl, rfl, hM, hN⟩ := hq
  rw [e_fill] at hM
  have hg := (hN _ (by omega)).trans hg
  have hu := (hN _ (by omega)).trans hu
  have hF : ∀ b, b < q → G b = G0 b := fun b hb => (hN b (by omega)).trans (hF b hb)
  refine q_aload_n dX0_init_32 rfl rfl ?_
  refine q_sipush (v := nI 200) dX0_init_33 (by decide) ?_
  refine w_newI (N := 200) dX0_init_36 rfl (by omega) (by omega) (by omega) (fun G hC hN => ?_)
  have hC : G (q + 2) = some (q_ia T (200) (fun i => nI ((fun _ => 0) i))) := hC
  have hg := (hN _ (by omega)).trans hg
  have hu := (hN _ (by omega)).trans hu
  have hM := (hN _ (by omega)).trans hM
  have hF : ∀ b, b < q → G b = G0 b := fun b hb => (hN b (by omega)).trans (hF b hb)
  refine w_put (fs2 := [.int (nI p), .ref u, .ref (q + 1), .int 0, .int 0, .int 0, .ref (q + 2), .null, .null]) dX0_init_38 fl_X0_34 fp_X0_34 hg (Nat.le_of_ble_eq_true rfl) rfl rfl rfl (fun G hg hN => ?_)
  have hu := (hN _ (by omega)).trans hu
  have hM := (hN _ (by omega)).trans hM
  have hC := (hN _ (by omega)).trans hC
  have hF : ∀ b, b < q → G b = G0 b := fun b hb => (hN b (by omega)).trans (hF b hb)
  refine q_aload_n dX0_init_41 rfl rfl ?_
  refine q_sipush (v := nI 200) dX0_init_42 (by decide) ?_
  refine w_newI (N := 200) dX0_init_45 rfl (by omega) (by omega) (by omega) (fun G hB hN => ?_)
  have hB : G (q + 3) = some (q_ia T (200) (fun i => nI ((fun _ => 0) i))) := hB
  have hg := (hN _ (by omega)).trans hg
  have hu := (hN _ (by omega)).trans hu
  have hM := (hN _ (by omega)).trans hM
  have hC := (hN _ (by omega)).trans hC
  have hF : ∀ b, b < q → G b = G0 b := fun b hb => (hN b (by omega)).trans (hF b hb)
  refine w_put (fs2 := [.int (nI p), .ref u, .ref (q + 1), .int 0, .int 0, .int 0, .ref (q + 2), .ref (q + 3), .null]) dX0_init_47 fl_X0_37 fp_X0_37 hg (Nat.le_of_ble_eq_true rfl) rfl rfl rfl (fun G hg hN => ?_)
  have hu := (hN _ (by omega)).trans hu
  have hM := (hN _ (by omega)).trans hM
  have hC := (hN _ (by omega)).trans hC
  have hB := (hN _ (by omega)).trans hB
  have hF : ∀ b, b < q → G b = G0 b := fun b hb => (hN b (by omega)).trans (hF b hb)
  refine q_aload_n dX0_init_50 rfl rfl ?_
  refine q_sipush (v := nI 200) dX0_init_51 (by decide) ?_
  refine w_newI (N := 200) dX0_init_54 rfl (by omega) (by omega) (by omega) (fun G hA hN => ?_)
  have hA : G (q + 4) = some (q_ia T (200) (fun i => nI ((fun _ => 0) i))) := hA
  have hg := (hN _ (by omega)).trans hg
  have hu := (hN _ (by omega)).trans hu
  have hM := (hN _ (by omega)).trans hM
  have hC := (hN _ (by omega)).trans hC
  have hB := (hN _ (by omega)).trans hB
  have hF : ∀ b, b < q → G b = G0 b := fun b hb => (hN b (by omega)).trans (hF b hb)
  refine w_put (fs2 := [.int (nI p), .ref u, .ref (q + 1), .int 0, .int 0, .int 0, .ref (q + 2), .ref (q + 3), .ref (q + 4)]) dX0_init_56 fl_X0_40 fp_X0_40 hg (Nat.le_of_ble_eq_true rfl) rfl rfl rfl (fun G hg hN => ?_)
  have hu := (hN _ (by omega)).trans hu
  have hM := (hN _ (by omega)).trans hM
  have hC := (hN _ (by omega)).trans hC
  have hB := (hN _ (by omega)).trans hB
  have hA := (hN _ (by omega)).trans hA
  have hF : ∀ b, b < q → G b = G0 b := fun b hb => (hN b (by omega)).trans (hF b hb)
  refine q_aload_n dX0_init_59 rfl rfl ?_
  refine q_iconst (v := nI 0) dX0_init_60 (by decide) ?_
  refine w_put (fs2 := [.int (nI p), .ref u, .ref (q + 1), .int (nI 0), .int 0, .int 0, .ref (q + 2), .ref (q + 3), .ref (q + 4)]) dX0_init_61 fl_X0_43 fp_X0_43 hg (Nat.le_of_ble_eq_true rfl) rfl rfl rfl (fun G hg hN => ?_)
  have hu := (hN _ (by omega)).trans hu
  have hM := (hN _ (by omega)).trans hM
  have hC := (hN _ (by omega)).trans hC
  have hB := (hN _ (by omega)).trans hB
  have hA := (hN _ (by omega)).trans hA
  have hF : ∀ b, b < q → G b = G0 b := fun b hb => (hN b (by omega)).trans (hF b hb)
  refine q_aload_n dX0_init_64 rfl rfl ?_
  refine q_iconst (v := nI 0) dX0_init_65 (by decide) ?_
  refine w_put (fs2 := [.int (nI p), .ref u, .ref (q + 1), .int (nI 0), .int (nI 0), .int 0, .ref (q + 2), .ref (q + 3), .ref (q + 4)]) dX0_init_66 fl_X0_46 fp_X0_46 hg (Nat.le_of_ble_eq_true rfl) rfl rfl rfl (fun G hg hN => ?_)
  have hu := (hN _ (by omega)).trans hu
  have hM := (hN _ (by omega)).trans hM
  have hC := (hN _ (by omega)).trans hC
  have hB := (hN _ (by omega)).trans hB
  have hA := (hN _ (by omega)).trans hA
  have hF : ∀ b, b < q → G b = G0 b := fun b hb => (hN b (by omega)).trans (hF b hb)
  refine q_aload_n dX0_init_69 rfl rfl ?_
  refine q_iconst (v := nI 0) dX0_init_70 (by decide) ?_
  refine w_put (fs2 := gm_ob q p u (0) (0) (0)) dX0_init_71 fl_X0_49 fp_X0_49 hg (Nat.le_of_ble_eq_true rfl) rfl rfl rfl (fun G hg hN => ?_)
  have hu := (hN _ (by omega)).trans hu
  have hM := (hN _ (by omega)).trans hM
  have hC := (hN _ (by omega)).trans hC
  have hB := (hN _ (by omega)).trans hB
  have hA := (hN _ (by omega)).trans hA
  have hF : ∀ b, b < q → G b = G0 b := fun b hb => (hN b (by omega)).trans (hF b hb)
  exact q_return dX0_init_74 rfl ⟨rfl, rfl, hF, _, _, _, _, fun i hi => if_pos hi, hg, hM, hC, by rw [hB, e_zero], by rw [hA, e_zero]⟩

set_option maxHeartbeats 4000000 in
set_option maxRecDepth 100000 in
theorem c_X0_change {T : q_T} {G0 : q_G} {sz q p u n d k c a b : Nat} {M C Bf Af : Nat → Nat} (H : Gam T G0 q p u n d k c M C Bf Af) (ha : a < n) (hn : n ≤ 100) (hMa : M a ≤ 1000) (hb : b ≤ 1000) (hd : d ≤ 200) : q_C T mX0_change 0 0 0 0 [.ref q, .int (nI a), .int (nI b - 1)] G0 sz (fun v G' sz' => sz = sz' ∧ (∀ b, b < q ∨ q + 5 ≤ b → G' b = G0 b) ∧ (((M a ≠ b ∧ d < 200) ∧ v = some (.int (nI 1)) ∧ Gam T G' q p u n (d + 1) (d + 1) c (va_up M a b) (va_up C d a) (va_up Bf d (M a)) (va_up Af d b)) ∨ (¬ (M a ≠ b ∧ d < 200) ∧ v = some (.int (nI 0)) ∧ Gam T G' q p u n d k c M C Bf Af))) := by
  refine q_C.of (by decide) rfl (by simp [Value.category]) (Nat.le_of_ble_eq_true rfl) ?_
  obtain ⟨hg, hM, hC, hB, hA⟩ := H
  have hF : ∀ b, b < q ∨ q + 5 ≤ b → G0 b = G0 b := fun _ _ => rfl
  refine q_aload_n dX0_change_0 rfl rfl ?_
  refine q_get dX0_change_1 fl_X0_24 hg rfl ?_
  refine q_iload_n dX0_change_4 rfl ?_
  refine w_ldE (k := a) (v := M a) dX0_change_5 hM rfl (by omega) (by omega) rfl ?_
  refine q_iload_n dX0_change_6 rfl ?_
  refine q_icmp_eq (tgt := 20) dX0_change_7 (by decide) (fun c7 => ?_) (fun c7 => ?_)
  · refine q_iconst (v := nI 0) dX0_change_20 (by decide) ?_
    exact q_ireturn dX0_change_21 rfl (by decide +kernel) ⟨rfl, hF, Or.inr ⟨fun h => h.1 ((e_eq (by omega) (by omega)).mp c7), rfl, hg, hM, hC, hB, hA⟩⟩
  · have hne : M a ≠ b := fun e => c7 ((e_eq (by omega) (by omega)).mpr e)
    refine q_aload_n dX0_change_10 rfl rfl ?_
    refine q_get dX0_change_11 fl_X0_43 hg rfl ?_
    refine q_sipush (v := nI 200) dX0_change_14 (by decide) ?_
    refine n_icmp_lt (tgt := 22) dX0_change_17 (by decide) (by omega) (by omega) (fun c17 => ?_) (fun c17 => ?_)
    · refine q_aload_n dX0_change_22 rfl rfl ?_
      refine q_get dX0_change_23 fl_X0_34 hg rfl ?_
      refine q_aload_n dX0_change_26 rfl rfl ?_
      refine q_get dX0_change_27 fl_X0_43 hg rfl ?_
      refine q_iload_n dX0_change_30 rfl ?_
      refine w_st (k := d) (v := a) dX0_change_31 hC rfl (by omega) (by omega) rfl (fun G hC hN => ?_)
      have hg := (hN _ (by omega)).trans hg
      have hM := (hN _ (by omega)).trans hM
      have hB := (hN _ (by omega)).trans hB
      have hA := (hN _ (by omega)).trans hA
      have hF : ∀ b, b < q ∨ q + 5 ≤ b → G b = G0 b := fun b hb => (hN b (by omega)).trans (hF b hb)
      refine q_aload_n dX0_change_32 rfl rfl ?_
      refine q_get dX0_change_33 fl_X0_37 hg rfl ?_
      refine q_aload_n dX0_change_36 rfl rfl ?_
      refine q_get dX0_change_37 fl_X0_43 hg rfl ?_
      refine q_aload_n dX0_change_40 rfl rfl ?_
      refine q_get dX0_change_41 fl_X0_24 hg rfl ?_
      refine q_iload_n dX0_change_44 rfl ?_
      refine w_ldE (k := a) (v := M a) dX0_change_45 hM rfl (by omega) (by omega) rfl ?_
      refine w_stE (k := d) (v := M a) dX0_change_46 hB rfl (by omega) (by omega) rfl (fun G hB hN => ?_)
      have hg := (hN _ (by omega)).trans hg
      have hM := (hN _ (by omega)).trans hM
      have hC := (hN _ (by omega)).trans hC
      have hA := (hN _ (by omega)).trans hA
      have hF : ∀ b, b < q ∨ q + 5 ≤ b → G b = G0 b := fun b hb => (hN b (by omega)).trans (hF b hb)
      refine q_aload_n dX0_change_47 rfl rfl ?_
      refine q_get dX0_change_48 fl_X0_40 hg rfl ?_
      refine q_aload_n dX0_change_51 rfl rfl ?_
      refine q_get dX0_change_52 fl_X0_43 hg rfl ?_
      refine q_iload_n dX0_change_55 rfl ?_
      refine w_stE (k := d) (v := b) dX0_change_56 hA rfl (by omega) (by omega) rfl (fun G hA hN => ?_)
      have hg := (hN _ (by omega)).trans hg
      have hM := (hN _ (by omega)).trans hM
      have hC := (hN _ (by omega)).trans hC
      have hB := (hN _ (by omega)).trans hB
      have hF : ∀ b, b < q ∨ q + 5 ≤ b → G b = G0 b := fun b hb => (hN b (by omega)).trans (hF b hb)
      refine q_aload_n dX0_change_57 rfl rfl ?_
      refine q_get dX0_change_58 fl_X0_24 hg rfl ?_
      refine q_iload_n dX0_change_61 rfl ?_
      refine q_iload_n dX0_change_62 rfl ?_
      refine w_stE (k := a) (v := b) dX0_change_63 hM rfl (by omega) (by omega) rfl (fun G hM hN => ?_)
      have hg := (hN _ (by omega)).trans hg
      have hC := (hN _ (by omega)).trans hC
      have hB := (hN _ (by omega)).trans hB
      have hA := (hN _ (by omega)).trans hA
      have hF : ∀ b, b < q ∨ q + 5 ≤ b → G b = G0 b := fun b hb => (hN b (by omega)).trans (hF b hb)
      refine q_aload_n dX0_change_64 rfl rfl ?_
      refine q_dup dX0_change_65 rfl ?_
      refine q_get dX0_change_66 fl_X0_43 hg rfl ?_
      refine q_iconst (v := nI 1) dX0_change_69 (by decide) ?_
      refine q_iadd dX0_change_70 (nI_add _ _) ?_
      refine w_put (fs2 := gm_ob q p u (d + 1) (k) (c)) dX0_change_71 fl_X0_43 fp_X0_43 hg (Nat.le_of_ble_eq_true rfl) rfl rfl rfl (fun G hg hN => ?_)
      have hM := (hN _ (by omega)).trans hM
      have hC := (hN _ (by omega)).trans hC
      have hB := (hN _ (by omega)).trans hB
      have hA := (hN _ (by omega)).trans hA
      have hF : ∀ b, b < q ∨ q + 5 ≤ b → G b = G0 b := fun b hb => (hN b (by omega)).trans (hF b hb)
      refine q_aload_n dX0_change_74 rfl rfl ?_
      refine q_aload_n dX0_change_75 rfl rfl ?_
      refine q_get dX0_change_76 fl_X0_43 hg rfl ?_
      refine w_put (fs2 := gm_ob q p u (d + 1) (d + 1) (c)) dX0_change_79 fl_X0_46 fp_X0_46 hg (Nat.le_of_ble_eq_true rfl) rfl rfl rfl (fun G hg hN => ?_)
      have hM := (hN _ (by omega)).trans hM
      have hC := (hN _ (by omega)).trans hC
      have hB := (hN _ (by omega)).trans hB
      have hA := (hN _ (by omega)).trans hA
      have hF : ∀ b, b < q ∨ q + 5 ≤ b → G b = G0 b := fun b hb => (hN b (by omega)).trans (hF b hb)
      refine q_iconst (v := nI 1) dX0_change_82 (by decide) ?_
      exact q_ireturn dX0_change_83 rfl (by decide +kernel) ⟨rfl, hF, Or.inl ⟨⟨hne, c17⟩, rfl, hg, hM, hC, hB, hA⟩⟩
    · refine q_iconst (v := nI 0) dX0_change_20 (by decide) ?_
      exact q_ireturn dX0_change_21 rfl (by decide +kernel) ⟨rfl, hF, Or.inr ⟨fun h => absurd h.2 (by omega), rfl, hg, hM, hC, hB, hA⟩⟩

set_option maxHeartbeats 4000000 in
set_option maxRecDepth 100000 in
theorem c_X0_takeBack {T : q_T} {G0 : q_G} {sz q p u n d k c : Nat} {M C Bf Af : Nat → Nat} (H : Gam T G0 q p u n d k c M C Bf Af) (hn : n ≤ 100) (hd : d ≤ 200) (hCn : 0 < d → C (d - 1) < n) : q_C T mX0_takeBack 0 0 0 0 [.ref q] G0 sz (fun v G' sz' => sz = sz' ∧ (∀ b, b < q ∨ q + 5 ≤ b → G' b = G0 b) ∧ ((0 < d ∧ v = some (.int (nI (C (d - 1)))) ∧ Gam T G' q p u n (d - 1) k c (va_up M (C (d - 1)) (Bf (d - 1))) C Bf Af) ∨ (d = 0 ∧ v = some (.int (-1)) ∧ Gam T G' q p u n d k c M C Bf Af))) := by
  refine q_C.of (by decide) rfl (by simp [Value.category]) (Nat.le_of_ble_eq_true rfl) ?_
  obtain ⟨hg, hM, hC, hB, hA⟩ := H
  have hF : ∀ b, b < q ∨ q + 5 ≤ b → G0 b = G0 b := fun _ _ => rfl
  refine q_aload_n dX0_takeBack_0 rfl rfl ?_
  refine q_get dX0_takeBack_1 fl_X0_43 hg rfl ?_
  refine n_if_gt (tgt := 9) dX0_takeBack_4 (by decide) (by omega) (fun c4 => ?_) (fun c4 => ?_)
  · refine q_aload_n dX0_takeBack_9 rfl rfl ?_
    refine q_dup dX0_takeBack_10 rfl ?_
    refine q_get dX0_takeBack_11 fl_X0_43 hg rfl ?_
    refine q_iconst (v := nI 1) dX0_takeBack_14 (by decide) ?_
    refine q_isub dX0_takeBack_15 (pk_sub (by omega)) ?_
    refine w_put (fs2 := gm_ob q p u (d - 1) (k) (c)) dX0_takeBack_16 fl_X0_43 fp_X0_43 hg (Nat.le_of_ble_eq_true rfl) rfl rfl rfl (fun G hg hN => ?_)
    have hM := (hN _ (by omega)).trans hM
    have hC := (hN _ (by omega)).trans hC
    have hB := (hN _ (by omega)).trans hB
    have hA := (hN _ (by omega)).trans hA
    have hF : ∀ b, b < q ∨ q + 5 ≤ b → G b = G0 b := fun b hb => (hN b (by omega)).trans (hF b hb)
    refine q_aload_n dX0_takeBack_19 rfl rfl ?_
    refine q_get dX0_takeBack_20 fl_X0_34 hg rfl ?_
    refine q_aload_n dX0_takeBack_23 rfl rfl ?_
    refine q_get dX0_takeBack_24 fl_X0_43 hg rfl ?_
    refine w_ld (v := C (d - 1)) dX0_takeBack_27 hC rfl (by omega) (by omega) rfl ?_
    refine s_istore_n dX0_takeBack_28 (by decide) rfl ?_
    refine q_aload_n dX0_takeBack_29 rfl rfl ?_
    refine q_get dX0_takeBack_30 fl_X0_24 hg rfl ?_
    refine q_iload_n dX0_takeBack_33 rfl ?_
    refine q_aload_n dX0_takeBack_34 rfl rfl ?_
    refine q_get dX0_takeBack_35 fl_X0_37 hg rfl ?_
    refine q_aload_n dX0_takeBack_38 rfl rfl ?_
    refine q_get dX0_takeBack_39 fl_X0_43 hg rfl ?_
    refine w_ldE (v := Bf (d - 1)) dX0_takeBack_42 hB rfl (by omega) (by omega) rfl ?_
    refine w_stE (k := C (d - 1)) (v := Bf (d - 1)) dX0_takeBack_43 hM rfl (hCn c4) (by omega) rfl (fun G hM hN => ?_)
    have hg := (hN _ (by omega)).trans hg
    have hC := (hN _ (by omega)).trans hC
    have hB := (hN _ (by omega)).trans hB
    have hA := (hN _ (by omega)).trans hA
    have hF : ∀ b, b < q ∨ q + 5 ≤ b → G b = G0 b := fun b hb => (hN b (by omega)).trans (hF b hb)
    refine q_iload_n dX0_takeBack_44 rfl ?_
    exact q_ireturn dX0_takeBack_45 rfl rfl ⟨rfl, hF, Or.inl ⟨c4, rfl, hg, hM, hC, hB, hA⟩⟩
  · refine q_iconst (v := -1) dX0_takeBack_7 (by decide) ?_
    exact q_ireturn dX0_takeBack_8 rfl rfl ⟨rfl, hF, Or.inr ⟨c4, rfl, hg, hM, hC, hB, hA⟩⟩

set_option maxHeartbeats 4000000 in
set_option maxRecDepth 100000 in
theorem c_X0_doAgain {T : q_T} {G0 : q_G} {sz q p u n d k c : Nat} {M C Bf Af : Nat → Nat} (H : Gam T G0 q p u n d k c M C Bf Af) (hn : n ≤ 100) (hdk : d ≤ k ∧ k ≤ 200) (hCn : d < k → C d < n) : q_C T mX0_doAgain 0 0 0 0 [.ref q] G0 sz (fun v G' sz' => sz = sz' ∧ (∀ b, b < q ∨ q + 5 ≤ b → G' b = G0 b) ∧ ((d < k ∧ v = some (.int (nI (C d))) ∧ Gam T G' q p u n (d + 1) k c (va_up M (C d) (Af d)) C Bf Af) ∨ (k ≤ d ∧ v = some (.int (-1)) ∧ Gam T G' q p u n d k c M C Bf Af))) := by
  refine q_C.of (by decide) rfl (by simp [Value.category]) (Nat.le_of_ble_eq_true rfl) ?_
  obtain ⟨hg, hM, hC, hB, hA⟩ := H
  have hF : ∀ b, b < q ∨ q + 5 ≤ b → G0 b = G0 b := fun _ _ => rfl
  refine q_aload_n dX0_doAgain_0 rfl rfl ?_
  refine q_get dX0_doAgain_1 fl_X0_43 hg rfl ?_
  refine q_aload_n dX0_doAgain_4 rfl rfl ?_
  refine q_get dX0_doAgain_5 fl_X0_46 hg rfl ?_
  refine n_icmp_lt (tgt := 13) dX0_doAgain_8 (by decide) (by omega) (by omega) (fun c8 => ?_) (fun c8 => ?_)
  · refine q_aload_n dX0_doAgain_13 rfl rfl ?_
    refine q_get dX0_doAgain_14 fl_X0_34 hg rfl ?_
    refine q_aload_n dX0_doAgain_17 rfl rfl ?_
    refine q_get dX0_doAgain_18 fl_X0_43 hg rfl ?_
    refine w_ld (v := C d) dX0_doAgain_21 hC rfl (by omega) (by omega) rfl ?_
    refine s_istore_n dX0_doAgain_22 (by decide) rfl ?_
    refine q_aload_n dX0_doAgain_23 rfl rfl ?_
    refine q_get dX0_doAgain_24 fl_X0_24 hg rfl ?_
    refine q_iload_n dX0_doAgain_27 rfl ?_
    refine q_aload_n dX0_doAgain_28 rfl rfl ?_
    refine q_get dX0_doAgain_29 fl_X0_40 hg rfl ?_
    refine q_aload_n dX0_doAgain_32 rfl rfl ?_
    refine q_get dX0_doAgain_33 fl_X0_43 hg rfl ?_
    refine w_ldE (v := Af d) dX0_doAgain_36 hA rfl (by omega) (by omega) rfl ?_
    refine w_stE (k := C d) (v := Af d) dX0_doAgain_37 hM rfl (hCn c8) (by omega) rfl (fun G hM hN => ?_)
    have hg := (hN _ (by omega)).trans hg
    have hC := (hN _ (by omega)).trans hC
    have hB := (hN _ (by omega)).trans hB
    have hA := (hN _ (by omega)).trans hA
    have hF : ∀ b, b < q ∨ q + 5 ≤ b → G b = G0 b := fun b hb => (hN b (by omega)).trans (hF b hb)
    refine q_aload_n dX0_doAgain_38 rfl rfl ?_
    refine q_dup dX0_doAgain_39 rfl ?_
    refine q_get dX0_doAgain_40 fl_X0_43 hg rfl ?_
    refine q_iconst (v := nI 1) dX0_doAgain_43 (by decide) ?_
    refine q_iadd dX0_doAgain_44 (nI_add _ _) ?_
    refine w_put (fs2 := gm_ob q p u (d + 1) (k) (c)) dX0_doAgain_45 fl_X0_43 fp_X0_43 hg (Nat.le_of_ble_eq_true rfl) rfl rfl rfl (fun G hg hN => ?_)
    have hM := (hN _ (by omega)).trans hM
    have hC := (hN _ (by omega)).trans hC
    have hB := (hN _ (by omega)).trans hB
    have hA := (hN _ (by omega)).trans hA
    have hF : ∀ b, b < q ∨ q + 5 ≤ b → G b = G0 b := fun b hb => (hN b (by omega)).trans (hF b hb)
    refine q_iload_n dX0_doAgain_48 rfl ?_
    exact q_ireturn dX0_doAgain_49 rfl rfl ⟨rfl, hF, Or.inl ⟨c8, rfl, hg, hM, hC, hB, hA⟩⟩
  · refine q_iconst (v := -1) dX0_doAgain_11 (by decide) ?_
    exact q_ireturn dX0_doAgain_12 rfl rfl ⟨rfl, hF, Or.inr ⟨c8, rfl, hg, hM, hC, hB, hA⟩⟩

set_option maxHeartbeats 4000000 in
set_option maxRecDepth 100000 in
theorem l_markedCells {T : q_T} {G : q_G} {sz q p u n d k c : Nat} {M : Nat → Nat} {E : q_E} (hg : G q = some (q_ob 1 (gm_ob q p u d k c))) (hM : G (q + 1) = some (q_ia T n (fun i => nI (M i) - 1))) (hn : n ≤ 100) (hMl : ∀ i, i < n → M i ≤ 1000) (hE : E (some (.int (nI (ln_sum (fun i => if M i = 0 then 0 else 1) 0 n)))) G sz) : ∀ (mZ : Nat) (i sm : Nat), mZ = n - i → (i ≤ n) → (sm = ln_sum (fun i => if M i = 0 then 0 else 1) 0 i) → q_R T mX0_markedCells 0 0 4 [some (.ref q), some (.int (nI sm)), some (.int (nI i))] [] G sz 0 0 E := by
  intro mZ
  induction mZ using Nat.strongRecOn with | ind mZ ih => ?_
  intro i sm hm hi hsm
  refine q_iload_n dX0_markedCells_4 rfl ?_
  refine q_aload_n dX0_markedCells_5 rfl rfl ?_
  refine q_get dX0_markedCells_6 fl_X0_24 hg rfl ?_
  refine q_alen (t := 0) (v := nI (n)) dX0_markedCells_9 hM rfl rfl ?_
  refine n_icmp_ge (tgt := 32) dX0_markedCells_10 (by decide) (by omega) (by omega) (fun c10 => ?_) (fun c10 => ?_)
  · obtain rfl : i = n := by omega
    refine q_iload_n dX0_markedCells_32 rfl ?_
    exact q_ireturn dX0_markedCells_33 rfl rfl (by rw [hsm]; exact hE)
  · refine q_aload_n dX0_markedCells_13 rfl rfl ?_
    refine q_get dX0_markedCells_14 fl_X0_24 hg rfl ?_
    refine q_iload_n dX0_markedCells_17 rfl ?_
    refine w_ldE (v := M i) dX0_markedCells_18 hM rfl (by omega) (by omega) rfl ?_
    refine q_iconst (v := -1) dX0_markedCells_19 (by decide) ?_
    refine q_icmp_eq (tgt := 26) dX0_markedCells_20 (by decide) (fun c20 => ?_) (fun c20 => ?_)
    · have hz : M i = 0 := (e_m1 (by have := hMl i (by omega); omega)).mp c20
      refine s_iinc dX0_markedCells_26 rfl (s_inc1 _) (by decide) rfl ?_
      refine q_goto (tgt := 4) dX0_markedCells_29 (by decide) ?_
      exact ih _ (by omega) (i + 1) _ rfl (by omega) (by rw [ln_sum_snoc, hsm, Nat.zero_add, if_pos hz, Nat.add_zero])
    · have hz : ¬ M i = 0 := fun e => c20 ((e_m1 (by have := hMl i (by omega); omega)).mpr e)
      refine s_iinc dX0_markedCells_23 rfl (s_inc1 _) (by decide) rfl ?_
      refine s_iinc dX0_markedCells_26 rfl (s_inc1 _) (by decide) rfl ?_
      refine q_goto (tgt := 4) dX0_markedCells_29 (by decide) ?_
      exact ih _ (by omega) (i + 1) _ rfl (by omega) (by rw [ln_sum_snoc, hsm, Nat.zero_add, if_neg hz])

set_option maxHeartbeats 4000000 in
set_option maxRecDepth 100000 in
theorem c_X0_markedCells {T : q_T} {G : q_G} {sz q p u n d k c : Nat} {M : Nat → Nat} (hg : G q = some (q_ob 1 (gm_ob q p u d k c))) (hM : G (q + 1) = some (q_ia T n (fun i => nI (M i) - 1))) (hn : n ≤ 100) (hMl : ∀ i, i < n → M i ≤ 1000) : q_C T mX0_markedCells 0 0 0 0 [.ref q] G sz (fun v G' sz' => v = some (.int (nI (ln_sum (fun i => if M i = 0 then 0 else 1) 0 n))) ∧ G = G' ∧ sz = sz') := by
  refine q_C.of (by decide) rfl (by simp [Value.category]) (Nat.le_of_ble_eq_true rfl) ?_
  refine q_iconst (v := nI 0) dX0_markedCells_0 (by decide) ?_
  refine s_istore_n dX0_markedCells_1 (by decide) rfl ?_
  refine q_iconst (v := nI 0) dX0_markedCells_2 (by decide) ?_
  refine s_istore_n dX0_markedCells_3 (by decide) rfl ?_
  exact l_markedCells hg hM hn hMl ⟨rfl, rfl, rfl⟩ _ 0 0 rfl (Nat.zero_le _) rfl

set_option maxHeartbeats 4000000 in
set_option maxRecDepth 100000 in
theorem l_marksAsSets {T : q_T} {G0 : q_G} {sz q p u n d k c w h col D z b N : Nat} {M : Nat → Nat} {E : q_E} (hn : n ≤ 100) (hN1 : n ≤ N ∧ N ≤ 1000) (hcol : col ≤ 3) (hMl : ∀ i, i < n → M i ≤ col + 1) (hbq : b < q ∨ q + 5 ≤ b) (hbu : b ≠ u) (hE : ∀ (S1 : Nat → Nat) (G : q_G), (∀ i, i < n → S1 i = (if M i = 0 then 1 <<< (col + 1) - 1 else 1 <<< (M i - 1))) → G b = some (q_ia T N (fun i => nI (S1 i))) → (∀ x, x ≠ b → G x = G0 x) → E none G sz) : ∀ (mZ : Nat) (i : Nat) (S1 : Nat → Nat) (G : q_G), mZ = n - i → (i ≤ n) → (∀ j, j < i → S1 j = (if M j = 0 then 1 <<< (col + 1) - 1 else 1 <<< (M j - 1))) → (G q = some (q_ob 1 (gm_ob q p u d k c)) ∧ G (q + 1) = some (q_ia T n (fun i => nI (M i) - 1)) ∧ G u = some (q_ob 5 (pu_ob u w h col D z)) ∧ G b = some (q_ia T N (fun i => nI (S1 i))) ∧ ∀ x, x ≠ b → G x = G0 x) → q_R T mX0_marksAsSets 1 20 2 [some (.ref q), some (.ref b), some (.int (nI i))] [] G sz 0 0 E := by
  intro mZ
  induction mZ using Nat.strongRecOn with | ind mZ ih => ?_
  intro i S1 G hm hi h1 hw
  obtain ⟨hg, hM, hu, hb, hF⟩ := hw
  refine q_iload_n dX0_marksAsSets_2 rfl ?_
  refine q_aload_n dX0_marksAsSets_3 rfl rfl ?_
  refine q_get dX0_marksAsSets_4 fl_X0_24 hg rfl ?_
  refine q_alen (t := 0) (v := nI (n)) dX0_marksAsSets_7 hM rfl rfl ?_
  refine n_icmp_ge (tgt := 48) dX0_marksAsSets_8 (by decide) (by omega) (by omega) (fun c8 => ?_) (fun c8 => ?_)
  · obtain rfl : i = n := by omega
    exact q_return dX0_marksAsSets_48 rfl (hE S1 G h1 hb hF)
  · have hml := hMl i c8
    refine q_aload_n dX0_marksAsSets_11 rfl rfl ?_
    refine q_iload_n dX0_marksAsSets_12 rfl ?_
    refine q_aload_n dX0_marksAsSets_13 rfl rfl ?_
    refine q_get dX0_marksAsSets_14 fl_X0_24 hg rfl ?_
    refine q_iload_n dX0_marksAsSets_17 rfl ?_
    refine w_ldE (v := M i) dX0_marksAsSets_18 hM rfl (by omega) (by omega) rfl ?_
    refine q_iconst (v := -1) dX0_marksAsSets_19 (by decide) ?_
    refine q_icmp_ne (tgt := 33) dX0_marksAsSets_20 (by decide) (fun c20 => ?_) (fun c20 => ?_)
    · have hz0 : ¬ M i = 0 := fun e => c20 ((e_m1 (by omega)).mpr e)
      refine q_iconst (v := nI 1) dX0_marksAsSets_33 (by decide) ?_
      refine q_aload_n dX0_marksAsSets_34 rfl rfl ?_
      refine q_get dX0_marksAsSets_35 fl_X0_24 hg rfl ?_
      refine q_iload_n dX0_marksAsSets_38 rfl ?_
      refine w_ldE (v := M i) dX0_marksAsSets_39 hM rfl (by omega) (by omega) rfl ?_
      refine q_ishl dX0_marksAsSets_40 (show nI 1 <<< ((nI (M i) - 1) &&& 31) = nI (1 <<< (M i - 1)) by rw [show nI (M i) - 1 = nI (M i - 1) from (by have h9 := nI_pred (M i - 1); rw [show M i - 1 + 1 = M i by omega] at h9; exact h9)]; exact n_shl (by omega) rfl) ?_
      refine w_st (k := i) dX0_marksAsSets_41 hb rfl (by omega) (by omega) rfl (fun G hb hN => ?_)
      have hg := (hN _ (by omega)).trans hg
      have hM := (hN _ (by omega)).trans hM
      have hu := (hN _ (by omega)).trans hu
      have hF : ∀ x, x ≠ b → G x = G0 x := fun x hx => (hN x (by omega)).trans (hF x hx)
      refine s_iinc dX0_marksAsSets_42 rfl (s_inc1 _) (by decide) rfl ?_
      refine q_goto (tgt := 2) dX0_marksAsSets_45 (by decide) ?_
      exact ih _ (by omega) (i + 1) _ G rfl (by omega) (fun j hj => if e : j = i then (by rw [e, va_up_s, if_neg hz0]) else (by rw [va_up_n _ _ e]; exact h1 j (by omega))) ⟨hg, hM, hu, hb, hF⟩
    · have hz0 : M i = 0 := (e_m1 (by omega)).mp c20
      refine q_aload_n dX0_marksAsSets_23 rfl rfl ?_
      refine q_get dX0_marksAsSets_24 fl_X0_15 hg rfl ?_
      refine q_iv (As := []) dX0_marksAsSets_27 ml_X0_52 mt_X4_full mi_X4_full se_X4_full hu rfl rfl (Nat.le_of_ble_eq_true rfl) (Nat.le_of_ble_eq_true rfl) (Nat.zero_le _) (Nat.zero_le _) (Nat.le_of_ble_eq_true rfl) (q_C.mono (c_X4_full hu hcol) (fun v G1 sz1 hq => ?_))
      obtain ⟨rfl, rfl, rfl⟩ := hq
      refine q_goto (tgt := 41) dX0_marksAsSets_30 (by decide) ?_
      refine w_st (k := i) dX0_marksAsSets_41 hb rfl (by omega) (by omega) rfl (fun G hb hN => ?_)
      have hg := (hN _ (by omega)).trans hg
      have hM := (hN _ (by omega)).trans hM
      have hu := (hN _ (by omega)).trans hu
      have hF : ∀ x, x ≠ b → G x = G0 x := fun x hx => (hN x (by omega)).trans (hF x hx)
      refine s_iinc dX0_marksAsSets_42 rfl (s_inc1 _) (by decide) rfl ?_
      refine q_goto (tgt := 2) dX0_marksAsSets_45 (by decide) ?_
      exact ih _ (by omega) (i + 1) _ G rfl (by omega) (fun j hj => if e : j = i then (by rw [e, va_up_s, if_pos hz0]) else (by rw [va_up_n _ _ e]; exact h1 j (by omega))) ⟨hg, hM, hu, hb, hF⟩

set_option maxHeartbeats 4000000 in
set_option maxRecDepth 100000 in
theorem c_X0_marksAsSets {T : q_T} {G0 : q_G} {sz q p u n d k c w h col D z b N : Nat} {M S : Nat → Nat} (hg : G0 q = some (q_ob 1 (gm_ob q p u d k c))) (hM : G0 (q + 1) = some (q_ia T n (fun i => nI (M i) - 1))) (hu : G0 u = some (q_ob 5 (pu_ob u w h col D z))) (hb : G0 b = some (q_ia T N (fun i => nI (S i)))) (hn : n ≤ 100) (hN1 : n ≤ N ∧ N ≤ 1000) (hcol : col ≤ 3) (hMl : ∀ i, i < n → M i ≤ col + 1) (hbq : b < q ∨ q + 5 ≤ b) (hbu : b ≠ u) : q_C T mX0_marksAsSets 1 20 0 0 [.ref q, .ref b] G0 sz (fun v G' sz' => sz = sz' ∧ v = none ∧ (∃ S1 : Nat → Nat, G' b = some (q_ia T N (fun i => nI (S1 i))) ∧ ∀ i, i < n → S1 i = (if M i = 0 then 1 <<< (col + 1) - 1 else 1 <<< (M i - 1))) ∧ ∀ x, x ≠ b → G' x = G0 x) := by
  refine q_C.of (by decide) rfl (by simp [Value.category]) (Nat.le_of_ble_eq_true rfl) ?_
  refine q_iconst (v := nI 0) dX0_marksAsSets_0 (by decide) ?_
  refine s_istore_n dX0_marksAsSets_1 (by decide) rfl ?_
  exact l_marksAsSets hn hN1 hcol hMl hbq hbu (fun S1 G h1 h2 h3 => ⟨rfl, rfl, ⟨S1, h2, h1⟩, h3⟩) _ 0 S _ rfl (Nat.zero_le _) (fun _ h => absurd h (Nat.not_lt_zero _)) ⟨hg, hM, hu, hb, fun _ _ => rfl⟩
