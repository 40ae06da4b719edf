set_option maxHeartbeats 4000000 in
set_option maxRecDepth 100000 in
theorem c_X5_init {T : q_T} {G0 : q_G} {a : Nat} (ha : G0 a = some (q_ob 6 [.null, .null, .null])) : q_C T mX5_init 1 20 3 42 [.ref a] G0 (a + 1) (fun v G' sz' => sz' = a + 4 ∧ v = none ∧ Scn T G' a ∧ ∀ b, b < a ∨ a + 4 ≤ b → G' b = G0 b) := by
  refine q_C.of (by decide) rfl (by simp [Value.category]) (Nat.le_of_ble_eq_true rfl) ?_
  have hF : ∀ b, b < a ∨ a + 4 ≤ b → G0 b = G0 b := fun _ _ => rfl
  refine q_aload_n dX5_init_0 rfl rfl ?_
  refine q_oi dX5_init_1 ml_X5_3 oi_i oi_c (Nat.le_of_ble_eq_true rfl) (Nat.le_of_ble_eq_true rfl) (Nat.le_of_ble_eq_true rfl) ?_
  refine q_aload_n dX5_init_4 rfl rfl ?_
  refine q_bipush (v := nI 10) dX5_init_5 (by decide) ?_
  refine w_newI (N := 10) dX5_init_7 rfl (by omega) (by omega) (by omega) (fun G hk hN => ?_)
  have hk : G (a + 1) = some (q_ia T (10) (fun i => nI ((fun _ => 0) i))) := hk
  have ha := (hN _ (by omega)).trans ha
  have hF : ∀ b, b < a ∨ a + 4 ≤ b → G b = G0 b := fun b hb => (hN b (by omega)).trans (hF b hb)
  refine w_put (fs2 := [.ref (a + 1), .null, .null]) dX5_init_9 fl_X5_9 fp_X5_9 ha (Nat.le_of_ble_eq_true rfl) rfl rfl rfl (fun G ha hN => ?_)
  have hk := (hN _ (by omega)).trans hk
  have hF : ∀ b, b < a ∨ a + 4 ≤ b → G b = G0 b := fun b hb => (hN b (by omega)).trans (hF b hb)
  refine q_aload_n dX5_init_12 rfl rfl ?_
  refine q_bipush (v := nI 11) dX5_init_13 (by decide) ?_
  refine w_newI (N := 11) dX5_init_15 rfl (by omega) (by omega) (by omega) (fun G hr hN => ?_)
  have hr : G (a + 2) = some (q_ia T (11) (fun i => nI ((fun _ => 0) i))) := hr
  have ha := (hN _ (by omega)).trans ha
  have hk := (hN _ (by omega)).trans hk
  have hF : ∀ b, b < a ∨ a + 4 ≤ b → G b = G0 b := fun b hb => (hN b (by omega)).trans (hF b hb)
  refine w_put (fs2 := [.ref (a + 1), .ref (a + 2), .null]) dX5_init_17 fl_X5_15 fp_X5_15 ha (Nat.le_of_ble_eq_true rfl) rfl rfl rfl (fun G ha hN => ?_)
  have hk := (hN _ (by omega)).trans hk
  have hr := (hN _ (by omega)).trans hr
  have hF : ∀ b, b < a ∨ a + 4 ≤ b → G b = G0 b := fun b hb => (hN b (by omega)).trans (hF b hb)
  refine q_aload_n dX5_init_20 rfl rfl ?_
  refine q_bipush (v := nI 21) dX5_init_21 (by decide) ?_
  refine w_newI (N := 21) dX5_init_23 rfl (by omega) (by omega) (by omega) (fun G hy hN => ?_)
  have hy : G (a + 3) = some (q_ia T (21) (fun i => nI ((fun _ => 0) i))) := hy
  have ha := (hN _ (by omega)).trans ha
  have hk := (hN _ (by omega)).trans hk
  have hr := (hN _ (by omega)).trans hr
  have hF : ∀ b, b < a ∨ a + 4 ≤ b → G b = G0 b := fun b hb => (hN b (by omega)).trans (hF b hb)
  refine w_put (fs2 := [.ref (a + 1), .ref (a + 2), .ref (a + 3)]) dX5_init_25 fl_X5_18 fp_X5_18 ha (Nat.le_of_ble_eq_true rfl) rfl rfl rfl (fun G ha hN => ?_)
  have hk := (hN _ (by omega)).trans hk
  have hr := (hN _ (by omega)).trans hr
  have hy := (hN _ (by omega)).trans hy
  have hF : ∀ b, b < a ∨ a + 4 ≤ b → G b = G0 b := fun b hb => (hN b (by omega)).trans (hF b hb)
  exact q_return dX5_init_28 rfl ⟨rfl, rfl, ⟨ha, ⟨_, hk⟩, ⟨_, hr⟩, _, hy⟩, hF⟩

set_option maxHeartbeats 4000000 in
set_option maxRecDepth 100000 in
theorem c_X7_init {T : q_T} {G0 : q_G} {a r sz : Nat} (ha : G0 a = some (q_ob 8 [.null, .int 0])) : q_C T mX7_init 1 20 0 0 [.ref a, .ref r] G0 sz (fun v G' sz' => sz = sz' ∧ v = none ∧ G' a = some (q_ob 8 [.ref r, .int (nI 0)]) ∧ ∀ b, b < a ∨ a + 1 ≤ b → G' b = G0 b) := by
  refine q_C.of (by decide) rfl (by simp [Value.category]) (Nat.le_of_ble_eq_true rfl) ?_
  have hF : ∀ b, b < a ∨ a + 1 ≤ b → G0 b = G0 b := fun _ _ => rfl
  refine q_aload_n dX7_init_0 rfl rfl ?_
  refine q_oi dX7_init_1 ml_X7_3 oi_i oi_c (Nat.le_of_ble_eq_true rfl) (Nat.le_of_ble_eq_true rfl) (Nat.le_of_ble_eq_true rfl) ?_
  refine q_aload_n dX7_init_4 rfl rfl ?_
  refine q_aload_n dX7_init_5 rfl rfl ?_
  refine w_put (fs2 := [.ref r, .int 0]) dX7_init_6 fl_X7_9 fp_X7_9 ha (Nat.le_of_ble_eq_true rfl) rfl rfl rfl (fun G ha hN => ?_)
  have hF : ∀ b, b < a ∨ a + 1 ≤ b → G b = G0 b := fun b hb => (hN b (by omega)).trans (hF b hb)
  refine q_aload_n dX7_init_9 rfl rfl ?_
  refine q_iconst (v := nI 0) dX7_init_10 (by decide) ?_
  refine w_put (fs2 := [.ref r, .int (nI 0)]) dX7_init_11 fl_X7_15 fp_X7_15 ha (Nat.le_of_ble_eq_true rfl) rfl rfl rfl (fun G ha hN => ?_)
  have hF : ∀ b, b < a ∨ a + 1 ≤ b → G b = G0 b := fun b hb => (hN b (by omega)).trans (hF b hb)
  exact q_return dX7_init_14 rfl ⟨rfl, rfl, ha, hF⟩

set_option maxHeartbeats 4000000 in
set_option maxRecDepth 100000 in
theorem c_X6_init {T : q_T} {G0 : q_G} {a r : Nat} (ha : G0 a = some (q_ob 7 [.null, .int 0, .int 0, .int 0, .null, .null])) : q_C T mX6_init 1 20 2 601 [.ref a, .ref r] G0 (a + 1) (fun v G' sz' => sz' = a + 3 ∧ v = none ∧ G' a = some (q_ob 7 [.ref (a + 1), .int (nI 0), .int (nI 0), .int (nI 0), .ref r, .ref (a + 2)]) ∧ G' (a + 1) = some (q_ia T 500 (fun i => nI ((fun _ => 0) i))) ∧ G' (a + 2) = some (q_ra T 5 101 (fun _ => none)) ∧ ∀ b, b < a ∨ a + 3 ≤ b → G' b = G0 b) := by
  refine q_C.of (by decide) rfl (by simp [Value.category]) (Nat.le_of_ble_eq_true rfl) ?_
  have hF : ∀ b, b < a ∨ a + 3 ≤ b → G0 b = G0 b := fun _ _ => rfl
  refine q_aload_n dX6_init_0 rfl rfl ?_
  refine q_oi dX6_init_1 ml_X6_3 oi_i oi_c (Nat.le_of_ble_eq_true rfl) (Nat.le_of_ble_eq_true rfl) (Nat.le_of_ble_eq_true rfl) ?_
  refine q_aload_n dX6_init_4 rfl rfl ?_
  refine q_aload_n dX6_init_5 rfl rfl ?_
  refine w_put (fs2 := [.null, .int 0, .int 0, .int 0, .ref r, .null]) dX6_init_6 fl_X6_9 fp_X6_9 ha (Nat.le_of_ble_eq_true rfl) rfl rfl rfl (fun G ha hN => ?_)
  have hF : ∀ b, b < a ∨ a + 3 ≤ b → G b = G0 b := fun b hb => (hN b (by omega)).trans (hF b hb)
  refine q_aload_n dX6_init_9 rfl rfl ?_
  refine q_sipush (v := nI 500) dX6_init_10 (by decide) ?_
  refine w_newI (N := 500) dX6_init_13 rfl (by omega) (by omega) (by omega) (fun G hp hN => ?_)
  have hp : G (a + 1) = some (q_ia T (500) (fun i => nI ((fun _ => 0) i))) := hp
  have ha := (hN _ (by omega)).trans ha
  have hF : ∀ b, b < a ∨ a + 3 ≤ b → G b = G0 b := fun b hb => (hN b (by omega)).trans (hF b hb)
  refine w_put (fs2 := [.ref (a + 1), .int 0, .int 0, .int 0, .ref r, .null]) dX6_init_15 fl_X6_15 fp_X6_15 ha (Nat.le_of_ble_eq_true rfl) rfl rfl rfl (fun G ha hN => ?_)
  have hp := (hN _ (by omega)).trans hp
  have hF : ∀ b, b < a ∨ a + 3 ≤ b → G b = G0 b := fun b hb => (hN b (by omega)).trans (hF b hb)
  refine q_aload_n dX6_init_18 rfl rfl ?_
  refine q_bipush (v := nI 101) dX6_init_19 (by decide) ?_
  refine w_newR (N := 101) (t := 5) dX6_init_21 rfl (by omega) (by omega) (by omega) cw_X6_19 (by simp) rfl (fun G hl hN => ?_)
  have ha := (hN _ (by omega)).trans ha
  have hp := (hN _ (by omega)).trans hp
  have hF : ∀ b, b < a ∨ a + 3 ≤ b → G b = G0 b := fun b hb => (hN b (by omega)).trans (hF b hb)
  refine w_put (fs2 := [.ref (a + 1), .int 0, .int 0, .int 0, .ref r, .ref (a + 2)]) dX6_init_24 fl_X6_21 fp_X6_21 ha (Nat.le_of_ble_eq_true rfl) rfl rfl rfl (fun G ha hN => ?_)
  have hp := (hN _ (by omega)).trans hp
  have hl := (hN _ (by omega)).trans hl
  have hF : ∀ b, b < a ∨ a + 3 ≤ b → G b = G0 b := fun b hb => (hN b (by omega)).trans (hF b hb)
  refine q_aload_n dX6_init_27 rfl rfl ?_
  refine q_iconst (v := nI 0) dX6_init_28 (by decide) ?_
  refine w_put (fs2 := [.ref (a + 1), .int (nI 0), .int 0, .int 0, .ref r, .ref (a + 2)]) dX6_init_29 fl_X6_25 fp_X6_25 ha (Nat.le_of_ble_eq_true rfl) rfl rfl rfl (fun G ha hN => ?_)
  have hp := (hN _ (by omega)).trans hp
  have hl := (hN _ (by omega)).trans hl
  have hF : ∀ b, b < a ∨ a + 3 ≤ b → G b = G0 b := fun b hb => (hN b (by omega)).trans (hF b hb)
  refine q_aload_n dX6_init_32 rfl rfl ?_
  refine q_iconst (v := nI 0) dX6_init_33 (by decide) ?_
  refine w_put (fs2 := [.ref (a + 1), .int (nI 0), .int (nI 0), .int 0, .ref r, .ref (a + 2)]) dX6_init_34 fl_X6_29 fp_X6_29 ha (Nat.le_of_ble_eq_true rfl) rfl rfl rfl (fun G ha hN => ?_)
  have hp := (hN _ (by omega)).trans hp
  have hl := (hN _ (by omega)).trans hl
  have hF : ∀ b, b < a ∨ a + 3 ≤ b → G b = G0 b := fun b hb => (hN b (by omega)).trans (hF b hb)
  refine q_aload_n dX6_init_37 rfl rfl ?_
  refine q_iconst (v := nI 0) dX6_init_38 (by decide) ?_
  refine w_put (fs2 := [.ref (a + 1), .int (nI 0), .int (nI 0), .int (nI 0), .ref r, .ref (a + 2)]) dX6_init_39 fl_X6_32 fp_X6_32 ha (Nat.le_of_ble_eq_true rfl) rfl rfl rfl (fun G ha hN => ?_)
  have hp := (hN _ (by omega)).trans hp
  have hl := (hN _ (by omega)).trans hl
  have hF : ∀ b, b < a ∨ a + 3 ≤ b → G b = G0 b := fun b hb => (hN b (by omega)).trans (hF b hb)
  exact q_return dX6_init_42 rfl ⟨rfl, rfl, ha, hp, hl, hF⟩

set_option maxHeartbeats 4000000 in
set_option maxRecDepth 100000 in
theorem c_X1_init {T : q_T} {G0 : q_G} {a r : Nat} (ha : G0 a = some (q_ob 2 [.int 0, .null, .null, .null])) : q_C T mX1_init 1 20 2 200 [.ref a, .ref r] G0 (a + 1) (fun v G' sz' => sz' = a + 3 ∧ v = none ∧ G' a = some (q_ob 2 [.int (nI 0), .ref r, .ref (a + 1), .ref (a + 2)]) ∧ G' (a + 1) = some (q_ia T 100 (fun i => nI ((fun _ => 0) i))) ∧ G' (a + 2) = some (q_ia T 100 (fun i => nI ((fun _ => 0) i))) ∧ ∀ b, b < a ∨ a + 3 ≤ b → G' b = G0 b) := by
  refine q_C.of (by decide) rfl (by simp [Value.category]) (Nat.le_of_ble_eq_true rfl) ?_
  have hF : ∀ b, b < a ∨ a + 3 ≤ b → G0 b = G0 b := fun _ _ => rfl
  refine q_aload_n dX1_init_0 rfl rfl ?_
  refine q_oi dX1_init_1 ml_X1_3 oi_i oi_c (Nat.le_of_ble_eq_true rfl) (Nat.le_of_ble_eq_true rfl) (Nat.le_of_ble_eq_true rfl) ?_
  refine q_aload_n dX1_init_4 rfl rfl ?_
  refine q_aload_n dX1_init_5 rfl rfl ?_
  refine w_put (fs2 := [.int 0, .ref r, .null, .null]) dX1_init_6 fl_X1_9 fp_X1_9 ha (Nat.le_of_ble_eq_true rfl) rfl rfl rfl (fun G ha hN => ?_)
  have hF : ∀ b, b < a ∨ a + 3 ≤ b → G b = G0 b := fun b hb => (hN b (by omega)).trans (hF b hb)
  refine q_aload_n dX1_init_9 rfl rfl ?_
  refine q_bipush (v := nI 100) dX1_init_10 (by decide) ?_
  refine w_newI (N := 100) dX1_init_12 rfl (by omega) (by omega) (by omega) (fun G hp hN => ?_)
  have hp : G (a + 1) = some (q_ia T (100) (fun i => nI ((fun _ => 0) i))) := hp
  have ha := (hN _ (by omega)).trans ha
  have hF : ∀ b, b < a ∨ a + 3 ≤ b → G b = G0 b := fun b hb => (hN b (by omega)).trans (hF b hb)
  refine w_put (fs2 := [.int 0, .ref r, .ref (a + 1), .null]) dX1_init_14 fl_X1_15 fp_X1_15 ha (Nat.le_of_ble_eq_true rfl) rfl rfl rfl (fun G ha hN => ?_)
  have hp := (hN _ (by omega)).trans hp
  have hF : ∀ b, b < a ∨ a + 3 ≤ b → G b = G0 b := fun b hb => (hN b (by omega)).trans (hF b hb)
  refine q_aload_n dX1_init_17 rfl rfl ?_
  refine q_bipush (v := nI 100) dX1_init_18 (by decide) ?_
  refine w_newI (N := 100) dX1_init_20 rfl (by omega) (by omega) (by omega) (fun G hl hN => ?_)
  have hl : G (a + 2) = some (q_ia T (100) (fun i => nI ((fun _ => 0) i))) := hl
  have ha := (hN _ (by omega)).trans ha
  have hp := (hN _ (by omega)).trans hp
  have hF : ∀ b, b < a ∨ a + 3 ≤ b → G b = G0 b := fun b hb => (hN b (by omega)).trans (hF b hb)
  refine w_put (fs2 := [.int 0, .ref r, .ref (a + 1), .ref (a + 2)]) dX1_init_22 fl_X1_19 fp_X1_19 ha (Nat.le_of_ble_eq_true rfl) rfl rfl rfl (fun G ha hN => ?_)
  have hp := (hN _ (by omega)).trans hp
  have hl := (hN _ (by omega)).trans hl
  have hF : ∀ b, b < a ∨ a + 3 ≤ b → G b = G0 b := fun b hb => (hN b (by omega)).trans (hF b hb)
  refine q_aload_n dX1_init_25 rfl rfl ?_
  refine q_iconst (v := nI 0) dX1_init_26 (by decide) ?_
  refine w_put (fs2 := [.int (nI 0), .ref r, .ref (a + 1), .ref (a + 2)]) dX1_init_27 fl_X1_22 fp_X1_22 ha (Nat.le_of_ble_eq_true rfl) rfl rfl rfl (fun G ha hN => ?_)
  have hp := (hN _ (by omega)).trans hp
  have hl := (hN _ (by omega)).trans hl
  have hF : ∀ b, b < a ∨ a + 3 ≤ b → G b = G0 b := fun b hb => (hN b (by omega)).trans (hF b hb)
  exact q_return dX1_init_30 rfl ⟨rfl, rfl, ha, hp, hl, hF⟩

theorem Sht.fr {T : q_T} {G G' : q_G} {a b n : Nat} {F : Nat → Nat} (h : Sht T G a b n F) (hN : ∀ q, q = a ∨ q = b → G' q = G q) : Sht T G' a b n F := by
  obtain ⟨ml, c, f, h1, h2, h3⟩ := h
  exact ⟨ml, c, f, (hN _ (Or.inl rfl)).trans h1, (hN _ (Or.inr rfl)).trans h2, h3⟩
def RepI (T : q_T) (X : Nat) (G : q_G) : Prop := G X = some (q_ob 9 (rx_ob X 0 0)) ∧ G (X + 1) = some (q_ra T 3 30 (fun _ => none)) ∧ G (X + 2) = some (q_ra T 4 20 (fun _ => none)) ∧ G (X + 3) = some (q_ia T 100 (fun i => nI ((fun _ => 0) i))) ∧ G (X + 4) = some (q_ia T 100 (fun i => nI ((fun _ => 0) i))) ∧ Sht T G (X + 5) (X + 6) 0 (fun _ => 0) ∧ Scn T G (X + 7) ∧ G (X + 11) = some (q_ob 8 [.ref (X + 7), .int (nI 0)]) ∧ G (X + 12) = some (q_ob 7 (se_ob (X + 7) 0 0 0)) ∧ G (X + 13) = some (q_ia T 500 (fun i => nI ((fun _ => 0) i))) ∧ G (X + 14) = some (q_ra T 5 101 (fun _ => none)) ∧ G (X + 15) = some (q_ob 2 (gd_ob (X + 7) 0)) ∧ G (X + 16) = some (q_ia T 100 (fun i => nI ((fun _ => 0) i))) ∧ G (X + 17) = some (q_ia T 100 (fun i => nI ((fun _ => 0) i)))
theorem RepI.rep {T : q_T} {X : Nat} {G G' : q_G} (h : RepI T X G) (hN : ∀ b, b < X + 18 → G' b = G b) : RepX T X md_I0 md_A0 G' (X + 46) := by
  obtain ⟨h0, h1, h2, h3, h4, h5, h7, h11, h12, h13, h14, h15, h16, h17⟩ := h
  have n0 : ∀ (p : Nat) (P : Prop), p < md_I0 0 → P := fun p P h => absurd h (Nat.not_lt_zero _)
  refine ⟨fun _ => 0, fun _ => 0, fun _ => 0, fun b => b - X, 0, X + 6, ⟨Nat.le_refl _, fun k hk => (show X + k - X = k by omega), fun p hp => absurd hp (Nat.not_lt_zero _), fun p hp => absurd hp (Nat.not_lt_zero _), fun p hp => absurd hp (Nat.not_lt_zero _), fun _ _ _ hp => absurd hp (Nat.not_lt_zero _), Or.inl rfl⟩, (hN _ (by omega)).trans h0, ⟨_, (hN _ (by omega)).trans h1, fun p hp => absurd hp (Nat.not_lt_zero _)⟩, ⟨_, (hN _ (by omega)).trans h2, fun p hp => absurd hp (Nat.not_lt_zero _)⟩, ⟨_, (hN _ (by omega)).trans h3, fun _ _ => rfl⟩, ⟨_, (hN _ (by omega)).trans h4⟩, ?_, h7.fr (fun b b1 b2 => hN b (by omega)), ⟨0, (hN _ (by omega)).trans h11⟩, (hN _ (by omega)).trans h12, ⟨_, (hN _ (by omega)).trans h13, fun i hi => absurd hi (Nat.not_lt_zero _)⟩, ⟨by omega, ⟨_, (hN _ (by omega)).trans h14, fun d hd => absurd hd (Nat.not_lt_zero _), fun _ _ => rfl⟩, fun d hd => absurd hd (Nat.not_lt_zero _)⟩, (hN _ (by omega)).trans h15, ⟨_, (hN _ (by omega)).trans h16⟩, ⟨_, (hN _ (by omega)).trans h17⟩, fun p hp => absurd hp (Nat.not_lt_zero _), fun p hp => absurd hp (Nat.not_lt_zero _)⟩
  obtain ⟨ml, c, f, e1, e2, e3, e4, e5, e6, e7⟩ := h5.fr (G' := G') (fun q hq => hN q (by omega))
  exact ⟨ml, c, f, e1, e2, e3, e4, e5, e6, fun i hi => absurd hi (Nat.not_lt_zero _)⟩

set_option maxHeartbeats 4000000 in
set_option maxRecDepth 100000 in
theorem c_X8_init {T : q_T} {G : q_G} {X : Nat} (hX : G X = some (q_ob 9 [.null, .null, .null, .null, .null, .null, .null, .null, .null, .int 0, .int 0])) : q_C T mX8_init 4 81 17 1128 [.ref X] G (X + 1) (fun v G' sz' => sz' = X + 18 ∧ v = none ∧ RepI T X G') := by
  refine q_C.of (by decide) rfl (by simp [Value.category]) (Nat.le_of_ble_eq_true rfl) ?_
  refine q_aload_n dX8_init_0 rfl rfl ?_
  refine q_oi dX8_init_1 ml_X8_1 oi_i oi_c (Nat.le_of_ble_eq_true rfl) (Nat.le_of_ble_eq_true rfl) (Nat.le_of_ble_eq_true rfl) ?_
  refine q_aload_n dX8_init_4 rfl rfl ?_
  refine q_bipush (v := nI 30) dX8_init_5 (by decide) ?_
  refine w_newR (N := 30) (t := 3) dX8_init_7 rfl (by omega) (by omega) (by omega) cw_X8_9 (by simp) rfl (fun G hP hN => ?_)
  have hX := (hN _ (by omega)).trans hX
  refine w_put (fs2 := [.ref (X + 1), .null, .null, .null, .null, .null, .null, .null, .null, .int 0, .int 0]) dX8_init_10 fl_X8_11 fp_X8_11 hX (Nat.le_of_ble_eq_true rfl) rfl rfl rfl (fun G hX hN => ?_)
  have hP := (hN _ (by omega)).trans hP
  refine q_aload_n dX8_init_13 rfl rfl ?_
  refine q_bipush (v := nI 20) dX8_init_14 (by decide) ?_
  refine w_newR (N := 20) (t := 4) dX8_init_16 rfl (by omega) (by omega) (by omega) cw_X8_15 (by simp) rfl (fun G hQ hN => ?_)
  have hX := (hN _ (by omega)).trans hX
  have hP := (hN _ (by omega)).trans hP
  refine w_put (fs2 := [.ref (X + 1), .ref (X + 2), .null, .null, .null, .null, .null, .null, .null, .int 0, .int 0]) dX8_init_19 fl_X8_17 fp_X8_17 hX (Nat.le_of_ble_eq_true rfl) rfl rfl rfl (fun G hX hN => ?_)
  have hP := (hN _ (by omega)).trans hP
  have hQ := (hN _ (by omega)).trans hQ
  refine q_aload_n dX8_init_22 rfl rfl ?_
  refine q_bipush (v := nI 100) dX8_init_23 (by decide) ?_
  refine w_newI (N := 100) dX8_init_25 rfl (by omega) (by omega) (by omega) (fun G hcan hN => ?_)
  have hcan : G (X + 3) = some (q_ia T (100) (fun i => nI ((fun _ => 0) i))) := hcan
  have hX := (hN _ (by omega)).trans hX
  have hP := (hN _ (by omega)).trans hP
  have hQ := (hN _ (by omega)).trans hQ
  refine w_put (fs2 := [.ref (X + 1), .ref (X + 2), .ref (X + 3), .null, .null, .null, .null, .null, .null, .int 0, .int 0]) dX8_init_27 fl_X8_21 fp_X8_21 hX (Nat.le_of_ble_eq_true rfl) rfl rfl rfl (fun G hX hN => ?_)
  have hP := (hN _ (by omega)).trans hP
  have hQ := (hN _ (by omega)).trans hQ
  have hcan := (hN _ (by omega)).trans hcan
  refine q_aload_n dX8_init_30 rfl rfl ?_
  refine q_bipush (v := nI 100) dX8_init_31 (by decide) ?_
  refine w_newI (N := 100) dX8_init_33 rfl (by omega) (by omega) (by omega) (fun G hscr hN => ?_)
  have hscr : G (X + 4) = some (q_ia T (100) (fun i => nI ((fun _ => 0) i))) := hscr
  have hX := (hN _ (by omega)).trans hX
  have hP := (hN _ (by omega)).trans hP
  have hQ := (hN _ (by omega)).trans hQ
  have hcan := (hN _ (by omega)).trans hcan
  refine w_put (fs2 := [.ref (X + 1), .ref (X + 2), .ref (X + 3), .ref (X + 4), .null, .null, .null, .null, .null, .int 0, .int 0]) dX8_init_35 fl_X8_25 fp_X8_25 hX (Nat.le_of_ble_eq_true rfl) rfl rfl rfl (fun G hX hN => ?_)
  have hP := (hN _ (by omega)).trans hP
  have hQ := (hN _ (by omega)).trans hQ
  have hcan := (hN _ (by omega)).trans hcan
  have hscr := (hN _ (by omega)).trans hscr
  refine q_aload_n dX8_init_38 rfl rfl ?_
  refine w_new dX8_init_39 nw_X8_28 (by omega) (by omega) (fun G hS0 hN => ?_)
  have hX := (hN _ (by omega)).trans hX
  have hP := (hN _ (by omega)).trans hP
  have hQ := (hN _ (by omega)).trans hQ
  have hcan := (hN _ (by omega)).trans hcan
  have hscr := (hN _ (by omega)).trans hscr
  refine q_dup dX8_init_42 rfl ?_
  refine q_ii (As := []) dX8_init_43 ml_X8_30 mt_J4_init_da8c8 rfl mi_J4_init_da8c8 rfl rfl (Nat.le_of_ble_eq_true rfl) (Nat.le_of_ble_eq_true rfl) (by omega) (by omega) (Nat.le_of_ble_eq_true rfl) (q_C.mono (c_J4_init hS0 (by omega)) (fun v G sz1 hq => ?_))
  obtain ⟨rfl, rfl, hSh, hN⟩ := hq
  have hX := (hN _ (by omega)).trans hX
  have hP := (hN _ (by omega)).trans hP
  have hQ := (hN _ (by omega)).trans hQ
  have hcan := (hN _ (by omega)).trans hcan
  have hscr := (hN _ (by omega)).trans hscr
  refine w_put (fs2 := [.ref (X + 1), .ref (X + 2), .ref (X + 3), .ref (X + 4), .ref (X + 5), .null, .null, .null, .null, .int 0, .int 0]) dX8_init_46 fl_X8_31 fp_X8_31 hX (Nat.le_of_ble_eq_true rfl) rfl rfl rfl (fun G hX hN => ?_)
  have hP := (hN _ (by omega)).trans hP
  have hQ := (hN _ (by omega)).trans hQ
  have hcan := (hN _ (by omega)).trans hcan
  have hscr := (hN _ (by omega)).trans hscr
  have hSh := hSh.fr (fun b hb => hN b (by omega))
  refine q_aload_n dX8_init_49 rfl rfl ?_
  refine w_new dX8_init_50 nw_X8_35 (by omega) (by omega) (fun G hsc0 hN => ?_)
  have hX := (hN _ (by omega)).trans hX
  have hP := (hN _ (by omega)).trans hP
  have hQ := (hN _ (by omega)).trans hQ
  have hcan := (hN _ (by omega)).trans hcan
  have hscr := (hN _ (by omega)).trans hscr
  have hSh := hSh.fr (fun b hb => hN b (by omega))
  refine q_dup dX8_init_53 rfl ?_
  refine q_ii (As := []) dX8_init_54 ml_X8_37 mt_X5_init rfl mi_X5_init rfl rfl (Nat.le_of_ble_eq_true rfl) (Nat.le_of_ble_eq_true rfl) (by omega) (by omega) (Nat.le_of_ble_eq_true rfl) (q_C.mono (c_X5_init hsc0) (fun v G sz1 hq => ?_))
  obtain ⟨rfl, rfl, hSc, hN⟩ := hq
  have hX := (hN _ (by omega)).trans hX
  have hP := (hN _ (by omega)).trans hP
  have hQ := (hN _ (by omega)).trans hQ
  have hcan := (hN _ (by omega)).trans hcan
  have hscr := (hN _ (by omega)).trans hscr
  have hSh := hSh.fr (fun b hb => hN b (by omega))
  refine w_put (fs2 := [.ref (X + 1), .ref (X + 2), .ref (X + 3), .ref (X + 4), .ref (X + 5), .ref (X + 7), .null, .null, .null, .int 0, .int 0]) dX8_init_57 fl_X8_38 fp_X8_38 hX (Nat.le_of_ble_eq_true rfl) rfl rfl rfl (fun G hX hN => ?_)
  have hP := (hN _ (by omega)).trans hP
  have hQ := (hN _ (by omega)).trans hQ
  have hcan := (hN _ (by omega)).trans hcan
  have hscr := (hN _ (by omega)).trans hscr
  have hSh := hSh.fr (fun b hb => hN b (by omega))
  have hSc := hSc.fr (fun b b1 b2 => hN b (by omega))
  refine q_aload_n dX8_init_60 rfl rfl ?_
  refine w_new dX8_init_61 nw_X8_42 (by omega) (by omega) (fun G hst hN => ?_)
  have hX := (hN _ (by omega)).trans hX
  have hP := (hN _ (by omega)).trans hP
  have hQ := (hN _ (by omega)).trans hQ
  have hcan := (hN _ (by omega)).trans hcan
  have hscr := (hN _ (by omega)).trans hscr
  have hSh := hSh.fr (fun b hb => hN b (by omega))
  have hSc := hSc.fr (fun b b1 b2 => hN b (by omega))
  refine q_dup dX8_init_64 rfl ?_
  refine q_aload_n dX8_init_65 rfl rfl ?_
  refine q_get dX8_init_66 fl_X8_38 hX rfl ?_
  refine q_ii (As := [_]) dX8_init_69 ml_X8_44 mt_X7_init rfl mi_X7_init rfl rfl (Nat.le_of_ble_eq_true rfl) (Nat.le_of_ble_eq_true rfl) (Nat.zero_le _) (Nat.zero_le _) (Nat.le_of_ble_eq_true rfl) (q_C.mono (c_X7_init hst) (fun v G sz1 hq => ?_))
  obtain ⟨rfl, rfl, hst, hN⟩ := hq
  have hX := (hN _ (by omega)).trans hX
  have hP := (hN _ (by omega)).trans hP
  have hQ := (hN _ (by omega)).trans hQ
  have hcan := (hN _ (by omega)).trans hcan
  have hscr := (hN _ (by omega)).trans hscr
  have hSh := hSh.fr (fun b hb => hN b (by omega))
  have hSc := hSc.fr (fun b b1 b2 => hN b (by omega))
  refine w_put (fs2 := [.ref (X + 1), .ref (X + 2), .ref (X + 3), .ref (X + 4), .ref (X + 5), .ref (X + 7), .ref (X + 11), .null, .null, .int 0, .int 0]) dX8_init_72 fl_X8_47 fp_X8_47 hX (Nat.le_of_ble_eq_true rfl) rfl rfl rfl (fun G hX hN => ?_)
  have hP := (hN _ (by omega)).trans hP
  have hQ := (hN _ (by omega)).trans hQ
  have hcan := (hN _ (by omega)).trans hcan
  have hscr := (hN _ (by omega)).trans hscr
  have hst := (hN _ (by omega)).trans hst
  have hSh := hSh.fr (fun b hb => hN b (by omega))
  have hSc := hSc.fr (fun b b1 b2 => hN b (by omega))
  refine q_aload_n dX8_init_75 rfl rfl ?_
  refine w_new dX8_init_76 nw_X8_51 (by omega) (by omega) (fun G hse hN => ?_)
  have hX := (hN _ (by omega)).trans hX
  have hP := (hN _ (by omega)).trans hP
  have hQ := (hN _ (by omega)).trans hQ
  have hcan := (hN _ (by omega)).trans hcan
  have hscr := (hN _ (by omega)).trans hscr
  have hst := (hN _ (by omega)).trans hst
  have hSh := hSh.fr (fun b hb => hN b (by omega))
  have hSc := hSc.fr (fun b b1 b2 => hN b (by omega))
  refine q_dup dX8_init_79 rfl ?_
  refine q_aload_n dX8_init_80 rfl rfl ?_
  refine q_get dX8_init_81 fl_X8_47 hX rfl ?_
  refine q_ii (As := [_]) dX8_init_84 ml_X8_53 mt_X6_init rfl mi_X6_init rfl rfl (Nat.le_of_ble_eq_true rfl) (Nat.le_of_ble_eq_true rfl) (by omega) (by omega) (Nat.le_of_ble_eq_true rfl) (q_C.mono (c_X6_init hse) (fun v G sz1 hq => ?_))
  obtain ⟨rfl, rfl, hse, hpic, hlvs, hN⟩ := hq
  have hX := (hN _ (by omega)).trans hX
  have hP := (hN _ (by omega)).trans hP
  have hQ := (hN _ (by omega)).trans hQ
  have hcan := (hN _ (by omega)).trans hcan
  have hscr := (hN _ (by omega)).trans hscr
  have hst := (hN _ (by omega)).trans hst
  have hSh := hSh.fr (fun b hb => hN b (by omega))
  have hSc := hSc.fr (fun b b1 b2 => hN b (by omega))
  refine w_put (fs2 := [.ref (X + 1), .ref (X + 2), .ref (X + 3), .ref (X + 4), .ref (X + 5), .ref (X + 7), .ref (X + 11), .ref (X + 12), .null, .int 0, .int 0]) dX8_init_87 fl_X8_56 fp_X8_56 hX (Nat.le_of_ble_eq_true rfl) rfl rfl rfl (fun G hX hN => ?_)
  have hP := (hN _ (by omega)).trans hP
  have hQ := (hN _ (by omega)).trans hQ
  have hcan := (hN _ (by omega)).trans hcan
  have hscr := (hN _ (by omega)).trans hscr
  have hst := (hN _ (by omega)).trans hst
  have hse := (hN _ (by omega)).trans hse
  have hpic := (hN _ (by omega)).trans hpic
  have hlvs := (hN _ (by omega)).trans hlvs
  have hSh := hSh.fr (fun b hb => hN b (by omega))
  have hSc := hSc.fr (fun b b1 b2 => hN b (by omega))
  refine q_aload_n dX8_init_90 rfl rfl ?_
  refine w_new dX8_init_91 nw_X8_60 (by omega) (by omega) (fun G hgr hN => ?_)
  have hX := (hN _ (by omega)).trans hX
  have hP := (hN _ (by omega)).trans hP
  have hQ := (hN _ (by omega)).trans hQ
  have hcan := (hN _ (by omega)).trans hcan
  have hscr := (hN _ (by omega)).trans hscr
  have hst := (hN _ (by omega)).trans hst
  have hse := (hN _ (by omega)).trans hse
  have hpic := (hN _ (by omega)).trans hpic
  have hlvs := (hN _ (by omega)).trans hlvs
  have hSh := hSh.fr (fun b hb => hN b (by omega))
  have hSc := hSc.fr (fun b b1 b2 => hN b (by omega))
  refine q_dup dX8_init_94 rfl ?_
  refine q_aload_n dX8_init_95 rfl rfl ?_
  refine q_get dX8_init_96 fl_X8_47 hX rfl ?_
  refine q_ii (As := [_]) dX8_init_99 ml_X8_62 mt_X1_init rfl mi_X1_init rfl rfl (Nat.le_of_ble_eq_true rfl) (Nat.le_of_ble_eq_true rfl) (by omega) (by omega) (Nat.le_of_ble_eq_true rfl) (q_C.mono (c_X1_init hgr) (fun v G sz1 hq => ?_))
  obtain ⟨rfl, rfl, hgr, hg1, hg2, hN⟩ := hq
  have hX := (hN _ (by omega)).trans hX
  have hP := (hN _ (by omega)).trans hP
  have hQ := (hN _ (by omega)).trans hQ
  have hcan := (hN _ (by omega)).trans hcan
  have hscr := (hN _ (by omega)).trans hscr
  have hst := (hN _ (by omega)).trans hst
  have hse := (hN _ (by omega)).trans hse
  have hpic := (hN _ (by omega)).trans hpic
  have hlvs := (hN _ (by omega)).trans hlvs
  have hSh := hSh.fr (fun b hb => hN b (by omega))
  have hSc := hSc.fr (fun b b1 b2 => hN b (by omega))
  refine w_put (fs2 := [.ref (X + 1), .ref (X + 2), .ref (X + 3), .ref (X + 4), .ref (X + 5), .ref (X + 7), .ref (X + 11), .ref (X + 12), .ref (X + 15), .int 0, .int 0]) dX8_init_102 fl_X8_63 fp_X8_63 hX (Nat.le_of_ble_eq_true rfl) rfl rfl rfl (fun G hX hN => ?_)
  have hP := (hN _ (by omega)).trans hP
  have hQ := (hN _ (by omega)).trans hQ
  have hcan := (hN _ (by omega)).trans hcan
  have hscr := (hN _ (by omega)).trans hscr
  have hst := (hN _ (by omega)).trans hst
  have hse := (hN _ (by omega)).trans hse
  have hpic := (hN _ (by omega)).trans hpic
  have hlvs := (hN _ (by omega)).trans hlvs
  have hgr := (hN _ (by omega)).trans hgr
  have hg1 := (hN _ (by omega)).trans hg1
  have hg2 := (hN _ (by omega)).trans hg2
  have hSh := hSh.fr (fun b hb => hN b (by omega))
  have hSc := hSc.fr (fun b b1 b2 => hN b (by omega))
  refine q_aload_n dX8_init_105 rfl rfl ?_
  refine q_iconst (v := nI 0) dX8_init_106 (by decide) ?_
  refine w_put (fs2 := [.ref (X + 1), .ref (X + 2), .ref (X + 3), .ref (X + 4), .ref (X + 5), .ref (X + 7), .ref (X + 11), .ref (X + 12), .ref (X + 15), .int (nI 0), .int 0]) dX8_init_107 fl_X8_67 fp_X8_67 hX (Nat.le_of_ble_eq_true rfl) rfl rfl rfl (fun G hX hN => ?_)
  have hP := (hN _ (by omega)).trans hP
  have hQ := (hN _ (by omega)).trans hQ
  have hcan := (hN _ (by omega)).trans hcan
  have hscr := (hN _ (by omega)).trans hscr
  have hst := (hN _ (by omega)).trans hst
  have hse := (hN _ (by omega)).trans hse
  have hpic := (hN _ (by omega)).trans hpic
  have hlvs := (hN _ (by omega)).trans hlvs
  have hgr := (hN _ (by omega)).trans hgr
  have hg1 := (hN _ (by omega)).trans hg1
  have hg2 := (hN _ (by omega)).trans hg2
  have hSh := hSh.fr (fun b hb => hN b (by omega))
  have hSc := hSc.fr (fun b b1 b2 => hN b (by omega))
  refine q_aload_n dX8_init_110 rfl rfl ?_
  refine q_iconst (v := nI 0) dX8_init_111 (by decide) ?_
  refine w_put (fs2 := [.ref (X + 1), .ref (X + 2), .ref (X + 3), .ref (X + 4), .ref (X + 5), .ref (X + 7), .ref (X + 11), .ref (X + 12), .ref (X + 15), .int (nI 0), .int (nI 0)]) dX8_init_112 fl_X8_71 fp_X8_71 hX (Nat.le_of_ble_eq_true rfl) rfl rfl rfl (fun G hX hN => ?_)
  have hP := (hN _ (by omega)).trans hP
  have hQ := (hN _ (by omega)).trans hQ
  have hcan := (hN _ (by omega)).trans hcan
  have hscr := (hN _ (by omega)).trans hscr
  have hst := (hN _ (by omega)).trans hst
  have hse := (hN _ (by omega)).trans hse
  have hpic := (hN _ (by omega)).trans hpic
  have hlvs := (hN _ (by omega)).trans hlvs
  have hgr := (hN _ (by omega)).trans hgr
  have hg1 := (hN _ (by omega)).trans hg1
  have hg2 := (hN _ (by omega)).trans hg2
  have hSh := hSh.fr (fun b hb => hN b (by omega))
  have hSc := hSc.fr (fun b b1 b2 => hN b (by omega))
  exact q_return dX8_init_115 rfl ⟨rfl, rfl, hX, hP, hQ, hcan, hscr, hSh, hSc, hst, hse, hpic, hlvs, hgr, hg1, hg2⟩
