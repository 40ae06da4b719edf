/-! THE CLASS: a level; what a search opens and keeps -/
def Lev (T : q_T) (G : q_G) (a : Nat) (S : Nat → Nat) (c x : Nat) : Prop := G a = some (q_ob 3 [.ref (a + 1), .int (nI c), .int (nI x)]) ∧ G (a + 1) = some (q_ia T 100 (fun i => nI (S i)))
theorem Lev.fr {T : q_T} {G G' : q_G} {a c x : Nat} {S : Nat → Nat} (h : Lev T G a S c x) (hF : ∀ b, a ≤ b → b < a + 2 → G' b = G b) : Lev T G' a S c x := ⟨(hF _ (by omega) (by omega)).trans h.1, (hF _ (by omega) (by omega)).trans h.2⟩
def pc_b (S : Nat → Nat) (n : Nat) : Nat := match pz_oc S n with
  | none => 0
  | some (b, _) => b
def pc_n (S : Nat → Nat) (n : Nat) : Nat := match pz_oc S n with
  | none => 16
  | some (_, n) => n
theorem pz_oc_s (S : Nat → Nat) (c : Nat) : pz_oc S (c + 1) = match pz_oc S c with
    | none => if 2 ≤ ln_pop (S c) then some (c, ln_pop (S c)) else none
    | some (b, n) => if 2 ≤ ln_pop (S c) ∧ ln_pop (S c) < n then some (c, ln_pop (S c)) else some (b, n) := rfl
theorem pc_hit {S : Nat → Nat} {n : Nat} (h1 : 2 ≤ ln_pop (S n)) (h2 : ln_pop (S n) < pc_n S n) : pc_b S (n + 1) = n ∧ pc_n S (n + 1) = ln_pop (S n) := by
  unfold pc_b pc_n
  rw [pz_oc_s]
  unfold pc_n at h2
  cases e : pz_oc S n with
  | none => dsimp only; rw [if_pos h1]; exact ⟨rfl, rfl⟩
  | some z => obtain ⟨b, m⟩ := z; rw [e] at h2; dsimp only at h2 ⊢; rw [if_pos ⟨h1, h2⟩]; exact ⟨rfl, rfl⟩
theorem pc_miss {S : Nat → Nat} {n : Nat} (h0 : S n < 16) (h : ¬ (2 ≤ ln_pop (S n) ∧ ln_pop (S n) < pc_n S n)) : pc_b S (n + 1) = pc_b S n ∧ pc_n S (n + 1) = pc_n S n := by
  have h4 := ln_pop_le h0
  unfold pc_b pc_n
  rw [pz_oc_s]
  unfold pc_n at h
  cases e : pz_oc S n with
  | none => rw [e] at h; dsimp only at h ⊢; rw [if_neg (by omega)]; exact ⟨rfl, rfl⟩
  | some z => obtain ⟨b, m⟩ := z; rw [e] at h; dsimp only at h ⊢; rw [if_neg h]; exact ⟨rfl, rfl⟩
theorem pc_le (S : Nat → Nat) (n : Nat) (h : ∀ i, i < n → S i < 16) : pc_n S n ≤ 16 ∧ pc_b S n ≤ n := by
  unfold pc_n pc_b
  cases e : pz_oc S n with
  | none => exact ⟨Nat.le_refl _, Nat.zero_le _⟩
  | some z =>
    obtain ⟨b, m⟩ := z
    have h1 := pz_oc_lt n b m e
    have h2 := ln_pop_le (h b h1.1)
    exact ⟨by dsimp only; omega, by dsimp only; omega⟩

set_option maxHeartbeats 4000000 in
set_option maxRecDepth 100000 in
theorem c_X2_init {T : q_T} {G0 : q_G} {a : Nat} (ha : G0 a = some (q_ob 3 [.null, .int 0, .int 0])) : q_C T mX2_init 1 20 1 100 [.ref a] G0 (a + 1) (fun v G' sz' => sz' = a + 2 ∧ v = none ∧ (∀ b, b < a ∨ a + 2 ≤ b → G' b = G0 b) ∧ Lev T G' a (fun _ => 0) 0 0) := by
  refine q_C.of (by decide) rfl (by simp [Value.category]) (Nat.le_of_ble_eq_true rfl) ?_
  have hF : ∀ b, b < a ∨ a + 2 ≤ b → G0 b = G0 b := fun _ _ => rfl
  refine q_aload_n dX2_init_0 rfl rfl ?_
  refine q_oi dX2_init_1 ml_X2_3 oi_i oi_c (Nat.le_of_ble_eq_true rfl) (Nat.le_of_ble_eq_true rfl) (Nat.le_of_ble_eq_true rfl) ?_
  refine q_aload_n dX2_init_4 rfl rfl ?_
  refine q_bipush (v := nI 100) dX2_init_5 (by decide) ?_
  refine w_newI (N := 100) dX2_init_7 rfl (by omega) (by omega) (by omega) (fun G hs hN => ?_)
  have hs : G (a + 1) = some (q_ia T (100) (fun i => nI ((fun _ => 0) i))) := hs
  have ha := (hN _ (by omega)).trans ha
  have hF : ∀ b, b < a ∨ a + 2 ≤ b → G b = G0 b := fun b hb => (hN b (by omega)).trans (hF b hb)
  refine w_put (fs2 := [.ref (a + 1), .int 0, .int 0]) dX2_init_9 fl_X2_9 fp_X2_9 ha (Nat.le_of_ble_eq_true rfl) rfl rfl rfl (fun G ha hN => ?_)
  have hs := (hN _ (by omega)).trans hs
  have hF : ∀ b, b < a ∨ a + 2 ≤ b → G b = G0 b := fun b hb => (hN b (by omega)).trans (hF b hb)
  refine q_aload_n dX2_init_12 rfl rfl ?_
  refine q_iconst (v := nI 0) dX2_init_13 (by decide) ?_
  refine w_put (fs2 := [.ref (a + 1), .int (nI 0), .int 0]) dX2_init_14 fl_X2_15 fp_X2_15 ha (Nat.le_of_ble_eq_true rfl) rfl rfl rfl (fun G ha hN => ?_)
  have hs := (hN _ (by omega)).trans hs
  have hF : ∀ b, b < a ∨ a + 2 ≤ b → G b = G0 b := fun b hb => (hN b (by omega)).trans (hF b hb)
  refine q_aload_n dX2_init_17 rfl rfl ?_
  refine q_iconst (v := nI 0) dX2_init_18 (by decide) ?_
  refine w_put (fs2 := [.ref (a + 1), .int (nI (0)), .int (nI (0))]) dX2_init_19 fl_X2_19 fp_X2_19 ha (Nat.le_of_ble_eq_true rfl) rfl rfl rfl (fun G ha hN => ?_)
  have hs := (hN _ (by omega)).trans hs
  have hF : ∀ b, b < a ∨ a + 2 ≤ b → G b = G0 b := fun b hb => (hN b (by omega)).trans (hF b hb)
  exact q_return dX2_init_22 rfl ⟨rfl, rfl, hF, ha, hs⟩

set_option maxHeartbeats 4000000 in
set_option maxRecDepth 100000 in
theorem l_pickCell {T : q_T} {G0 : q_G} {sz a n : Nat} {S : Nat → Nat} {E : q_E} (hn : n ≤ 100) (hS : ∀ i, i < n → S i < 16) (hE : ∀ G : q_G, (G a = some (q_ob 3 [.ref (a + 1), .int (nI (pc_b S n)), .int (nI (0))]) ∧ G (a + 1) = some (q_ia T 100 (fun i => nI (S i))) ∧ ∀ b, b ≠ a → G b = G0 b) → E none G sz) : ∀ (mZ : Nat) (i b0 m0 : Nat) (G : q_G) (x4 : Option Value), mZ = n - i → (i ≤ n) → (b0 = pc_b S i) → (m0 = pc_n S i) → (G a = some (q_ob 3 [.ref (a + 1), .int (nI (b0)), .int (nI (0))]) ∧ G (a + 1) = some (q_ia T 100 (fun i => nI (S i))) ∧ ∀ b, b ≠ a → G b = G0 b) → q_R T mX2_pickCell 1 20 15 [some (.ref a), some (.int (nI n)), some (.int (nI m0)), some (.int (nI i)), x4] [] G sz 0 0 E := by
  intro mZ
  induction mZ using Nat.strongRecOn with | ind mZ ih => ?_
  intro i b0 m0 G x4 hm hi hb hm0 hw
  obtain ⟨ha, hs, hF⟩ := hw
  have hle := pc_le S i (fun k hk => hS k (by omega))
  refine q_iload_n dX2_pickCell_15 rfl ?_
  refine q_iload_n dX2_pickCell_16 rfl ?_
  refine n_icmp_ge (tgt := 57) dX2_pickCell_17 (by decide) (by omega) (by omega) (fun c17 => ?_) (fun c17 => ?_)
  · obtain rfl : i = n := by omega
    subst hb
    exact q_return dX2_pickCell_57 rfl (hE G ⟨ha, hs, hF⟩)
  · refine q_aload_n dX2_pickCell_20 rfl rfl ?_
    refine q_get dX2_pickCell_21 fl_X2_9 ha rfl ?_
    refine q_iload_n dX2_pickCell_24 rfl ?_
    refine w_ld dX2_pickCell_25 hs rfl (by omega) (by omega) rfl ?_
    refine q_is (As := [_]) dX2_pickCell_26 ml_X2_22 mt_J6_bitCount_0f7a4 ms_J6_bitCount_0f7a4 rfl (Nat.le_of_ble_eq_true rfl) (Nat.le_of_ble_eq_true rfl) (Nat.zero_le _) (Nat.zero_le _) (Nat.le_of_ble_eq_true rfl) (q_C.mono (c_bitCount (hS i (by omega))) (fun v G1 sz1 hq => ?_))
    obtain ⟨rfl, rfl, rfl⟩ := hq
    refine s_istore dX2_pickCell_29 (by decide) rfl ?_
    have hp4 := ln_pop_le (hS i (by omega))
    refine q_iload dX2_pickCell_31 rfl ?_
    refine q_iconst (v := nI 2) dX2_pickCell_33 (by decide) ?_
    refine n_icmp_lt (tgt := 51) dX2_pickCell_34 (by decide) (by omega) (by omega) (fun c34 => ?_) (fun c34 => ?_)
    · refine s_iinc dX2_pickCell_51 rfl (s_inc1 _) (by decide) rfl ?_
      refine q_goto (tgt := 15) dX2_pickCell_54 (by decide) ?_
      exact ih _ (by omega) (i + 1) b0 m0 G _ rfl (by omega) (hb.trans (pc_miss (hS i (by omega)) (by omega)).1.symm) (hm0.trans (pc_miss (hS i (by omega)) (by omega)).2.symm) ⟨ha, hs, hF⟩
    · refine q_iload dX2_pickCell_37 rfl ?_
      refine q_iload_n dX2_pickCell_39 rfl ?_
      refine n_icmp_ge (tgt := 51) dX2_pickCell_40 (by decide) (by omega) (by omega) (fun c40 => ?_) (fun c40 => ?_)
      · refine s_iinc dX2_pickCell_51 rfl (s_inc1 _) (by decide) rfl ?_
        refine q_goto (tgt := 15) dX2_pickCell_54 (by decide) ?_
        exact ih _ (by omega) (i + 1) b0 m0 G _ rfl (by omega) (hb.trans (pc_miss (hS i (by omega)) (by omega)).1.symm) (hm0.trans (pc_miss (hS i (by omega)) (by omega)).2.symm) ⟨ha, hs, hF⟩
      · subst hm0
        refine q_iload dX2_pickCell_43 rfl ?_
        refine s_istore_n dX2_pickCell_45 (by decide) rfl ?_
        refine q_aload_n dX2_pickCell_46 rfl rfl ?_
        refine q_iload_n dX2_pickCell_47 rfl ?_
        refine w_put (fs2 := [.ref (a + 1), .int (nI (i)), .int (nI (0))]) dX2_pickCell_48 fl_X2_15 fp_X2_15 ha (Nat.le_of_ble_eq_true rfl) rfl rfl rfl (fun G ha hN => ?_)
        have hs := (hN _ (by omega)).trans hs
        have hF : ∀ b, b ≠ a → G b = G0 b := fun b hb => (hN b (by omega)).trans (hF b hb)
        refine s_iinc dX2_pickCell_51 rfl (s_inc1 _) (by decide) rfl ?_
        refine q_goto (tgt := 15) dX2_pickCell_54 (by decide) ?_
        exact ih _ (by omega) (i + 1) _ _ G _ rfl (by omega) (pc_hit c34 c40).1.symm (pc_hit c34 c40).2.symm ⟨ha, hs, hF⟩

set_option maxHeartbeats 4000000 in
set_option maxRecDepth 100000 in
theorem c_X2_pickCell {T : q_T} {G0 : q_G} {sz a c x n : Nat} {S : Nat → Nat} (ha : G0 a = some (q_ob 3 [.ref (a + 1), .int (nI (c)), .int (nI (x))])) (hs : G0 (a + 1) = some (q_ia T 100 (fun i => nI (S i)))) (hn : n ≤ 100) (hS : ∀ i, i < n → S i < 16) : q_C T mX2_pickCell 1 20 0 0 [.ref a, .int (nI n)] G0 sz (fun v G' sz' => sz = sz' ∧ v = none ∧ G' a = some (q_ob 3 [.ref (a + 1), .int (nI (pc_b S n)), .int (nI (0))]) ∧ ∀ b, b ≠ a → G' b = G0 b) := by
  refine q_C.of (by decide) rfl (by simp [Value.category]) (Nat.le_of_ble_eq_true rfl) ?_
  have hF : ∀ b, b ≠ a → G0 b = G0 b := fun _ _ => rfl
  refine q_bipush (v := nI 16) dX2_pickCell_0 (by decide) ?_
  refine s_istore_n dX2_pickCell_2 (by decide) rfl ?_
  refine q_aload_n dX2_pickCell_3 rfl rfl ?_
  refine q_iconst (v := nI 0) dX2_pickCell_4 (by decide) ?_
  refine w_put (fs2 := [.ref (a + 1), .int (nI (0)), .int (nI (x))]) dX2_pickCell_5 fl_X2_15 fp_X2_15 ha (Nat.le_of_ble_eq_true rfl) rfl rfl rfl (fun G ha hN => ?_)
  have hs := (hN _ (by omega)).trans hs
  have hF : ∀ b, b ≠ a → G b = G0 b := fun b hb => (hN b (by omega)).trans (hF b hb)
  refine q_aload_n dX2_pickCell_8 rfl rfl ?_
  refine q_iconst (v := nI 0) dX2_pickCell_9 (by decide) ?_
  refine w_put (fs2 := [.ref (a + 1), .int (nI (0)), .int (nI (0))]) dX2_pickCell_10 fl_X2_19 fp_X2_19 ha (Nat.le_of_ble_eq_true rfl) rfl rfl rfl (fun G ha hN => ?_)
  have hs := (hN _ (by omega)).trans hs
  have hF : ∀ b, b ≠ a → G b = G0 b := fun b hb => (hN b (by omega)).trans (hF b hb)
  refine q_iconst (v := nI 0) dX2_pickCell_13 (by decide) ?_
  refine s_istore_n dX2_pickCell_14 (by decide) rfl ?_
  exact l_pickCell hn hS (fun G h => ⟨rfl, rfl, h.1, h.2.2⟩) _ 0 0 16 G _ rfl (Nat.zero_le _) rfl rfl ⟨ha, hs, hF⟩

set_option maxHeartbeats 4000000 in
set_option maxRecDepth 100000 in
theorem l_takeColour {T : q_T} {G0 : q_G} {sz a c x : Nat} {S : Nat → Nat} {E : q_E} (ha : G0 a = some (q_ob 3 [.ref (a + 1), .int (nI (c)), .int (nI (x))])) (hs : G0 (a + 1) = some (q_ia T 100 (fun i => nI (S i)))) (hc : c < 100) (hSc : S c < 16) (hE1 : ∀ (G : q_G) {k : Nat}, k = sr_nx (S c) x → k < 4 → G a = some (q_ob 3 [.ref (a + 1), .int (nI (c)), .int (nI (k + 1))]) → (∀ b, b ≠ a → G b = G0 b) → E (some (.int (nI k))) G sz) (hE0 : ∀ G : q_G, sr_nx (S c) x = 4 → G a = some (q_ob 3 [.ref (a + 1), .int (nI (c)), .int (nI (4))]) → (∀ b, b ≠ a → G b = G0 b) → E (some (.int (-1))) G sz) : ∀ (mZ : Nat) (k : Nat), mZ = 4 - k → (k ≤ 4) → (x ≤ k) → (sr_nx (S c) k = sr_nx (S c) x) → q_R T mX2_takeColour 1 21 5 [some (.ref a), some (.int (nI k))] [] G0 sz 0 0 E := by
  intro mZ
  induction mZ using Nat.strongRecOn with | ind mZ ih => ?_
  intro k hm hk hkx hnx
  have hF : ∀ b, b ≠ a → G0 b = G0 b := fun _ _ => rfl
  refine q_iload_n dX2_takeColour_5 rfl ?_
  refine q_iconst (v := nI 3) dX2_takeColour_6 (by decide) ?_
  refine n_icmp_gt (tgt := 41) dX2_takeColour_7 (by decide) (by omega) (by omega) (fun c7 => ?_) (fun c7 => ?_)
  · refine q_aload_n dX2_takeColour_41 rfl rfl ?_
    refine q_iconst (v := nI 4) dX2_takeColour_42 (by decide) ?_
    refine w_put (fs2 := [.ref (a + 1), .int (nI (c)), .int (nI (4))]) dX2_takeColour_43 fl_X2_19 fp_X2_19 ha (Nat.le_of_ble_eq_true rfl) rfl rfl rfl (fun G ha hN => ?_)
    have hs := (hN _ (by omega)).trans hs
    have hF : ∀ b, b ≠ a → G b = G0 b := fun b hb => (hN b (by omega)).trans (hF b hb)
    refine q_iconst (v := -1) dX2_takeColour_46 (by decide) ?_
    exact q_ireturn dX2_takeColour_47 rfl rfl (hE0 G (hnx.symm.trans (sr_nx_4 (by omega))) ha hF)
  · refine q_aload_n dX2_takeColour_10 rfl rfl ?_
    refine q_get dX2_takeColour_11 fl_X2_9 ha rfl ?_
    refine q_aload_n dX2_takeColour_14 rfl rfl ?_
    refine q_get dX2_takeColour_15 fl_X2_15 ha rfl ?_
    refine w_ld (k := c) dX2_takeColour_18 hs rfl (by omega) (by omega) rfl ?_
    refine q_iload_n dX2_takeColour_19 rfl ?_
    refine q_isN (As := [_, _]) dX2_takeColour_20 mn_X2_28 mt_X8_holds ms_X8_holds rfl (Nat.le_of_ble_eq_true rfl) (Nat.le_of_ble_eq_true rfl) (Nat.zero_le _) (Nat.zero_le _) (Nat.le_of_ble_eq_true rfl) (q_C.mono (c_X8_holds hSc (by omega)) (fun v G1 sz1 hq => ?_))
    obtain ⟨⟨hq20, rfl⟩ | ⟨hq20, rfl⟩, rfl, rfl⟩ := hq
    · refine q_if_eq (tgt := 35) dX2_takeColour_23 (by decide) (fun h => absurd h (by decide)) (fun _ => ?_)
      refine q_aload_n dX2_takeColour_26 rfl rfl ?_
      refine q_iload_n dX2_takeColour_27 rfl ?_
      refine q_iconst (v := nI 1) dX2_takeColour_28 (by decide) ?_
      refine q_iadd dX2_takeColour_29 (nI_add _ _) ?_
      refine w_put (fs2 := [.ref (a + 1), .int (nI (c)), .int (nI (k + 1))]) dX2_takeColour_30 fl_X2_19 fp_X2_19 ha (Nat.le_of_ble_eq_true rfl) rfl rfl rfl (fun G ha hN => ?_)
      have hs := (hN _ (by omega)).trans hs
      have hF : ∀ b, b ≠ a → G b = G0 b := fun b hb => (hN b (by omega)).trans (hF b hb)
      refine q_iload_n dX2_takeColour_33 rfl ?_
      exact q_ireturn dX2_takeColour_34 rfl rfl (hE1 G ((sr_nx_hit (by omega) hq20).symm.trans hnx) (by omega) ha hF)
    · refine q_if_eq (tgt := 35) dX2_takeColour_23 (by decide) (fun _ => ?_) (fun h => absurd h (by decide))
      refine s_iinc dX2_takeColour_35 rfl (s_inc1 _) (by decide) rfl ?_
      refine q_goto (tgt := 5) dX2_takeColour_38 (by decide) ?_
      exact ih _ (by omega) (k + 1) rfl (by omega) (by omega) ((sr_nx_miss (by omega) hq20).symm.trans hnx)

set_option maxHeartbeats 4000000 in
set_option maxRecDepth 100000 in
theorem c_X2_takeColour {T : q_T} {G0 : q_G} {sz a c x : Nat} {S : Nat → Nat} (ha : G0 a = some (q_ob 3 [.ref (a + 1), .int (nI (c)), .int (nI (x))])) (hs : G0 (a + 1) = some (q_ia T 100 (fun i => nI (S i)))) (hc : c < 100) (hSc : S c < 16) (hx : x ≤ 4) : q_C T mX2_takeColour 1 21 0 0 [.ref a] G0 sz (fun v G' sz' => sz = sz' ∧ (∀ b, b ≠ a → G' b = G0 b) ∧ ((sr_nx (S c) x = 4 ∧ v = some (.int (-1)) ∧ G' a = some (q_ob 3 [.ref (a + 1), .int (nI (c)), .int (nI (4))])) ∨ (sr_nx (S c) x < 4 ∧ v = some (.int (nI (sr_nx (S c) x))) ∧ G' a = some (q_ob 3 [.ref (a + 1), .int (nI (c)), .int (nI (sr_nx (S c) x + 1))])))) := by
  refine q_C.of (by decide) rfl (by simp [Value.category]) (Nat.le_of_ble_eq_true rfl) ?_
  refine q_aload_n dX2_takeColour_0 rfl rfl ?_
  refine q_get dX2_takeColour_1 fl_X2_19 ha rfl ?_
  refine s_istore_n dX2_takeColour_4 (by decide) rfl ?_
  exact l_takeColour ha hs hc hSc (fun G k h1 h2 h3 h4 => ⟨rfl, h4, Or.inr ⟨h1 ▸ h2, by rw [h1], by rw [← h1]; exact h3⟩⟩) (fun G h1 h2 h3 => ⟨rfl, h3, Or.inl ⟨h1, rfl, h2⟩⟩) _ x rfl hx (Nat.le_refl _) rfl

set_option maxHeartbeats 4000000 in
set_option maxRecDepth 100000 in
theorem c_X6_levelAt_old {T : q_T} {G0 : q_G} {sz s f t n d : Nat} {g : Nat → Option Nat} {a : Nat} (he : G0 (s + 5) = some (q_ob 7 [.ref (s + 6), .int (nI (f)), .int (nI (t)), .int (nI (n)), .ref (s + 4), .ref (s + 7)])) (hg : G0 (s + 7) = some (q_ra T 5 101 g)) (hd : d < 101) (hgd : g d = some a) : q_C T mX6_levelAt 2 40 0 0 [.ref (s + 5), .int (nI d)] G0 sz (fun v G' sz' => sz = sz' ∧ v = some (.ref a) ∧ G0 = G') := by
  refine q_C.of (by decide) rfl (by simp [Value.category]) (Nat.le_of_ble_eq_true rfl) ?_
  refine q_aload_n dX6_levelAt_0 rfl rfl ?_
  refine q_get dX6_levelAt_1 fl_X6_21 he rfl ?_
  refine q_iload_n dX6_levelAt_4 rfl ?_
  refine q_aaload (t := 5) (v := .ref a) dX6_levelAt_5 hg rfl rfl (by omega) (by omega) (congrArg va_rf hgd) ?_
  refine q_ifnonnull (tgt := 22) dX6_levelAt_6 (by decide) rfl (fun _ => ?_) (fun h => by cases h)
  refine q_aload_n dX6_levelAt_22 rfl rfl ?_
  refine q_get dX6_levelAt_23 fl_X6_21 he rfl ?_
  refine q_iload_n dX6_levelAt_26 rfl ?_
  refine q_aaload (t := 5) (v := .ref a) dX6_levelAt_27 hg rfl rfl (by omega) (by omega) (congrArg va_rf hgd) ?_
  exact q_areturn dX6_levelAt_28 rfl (Or.inl ⟨_, rfl⟩) rfl ⟨rfl, rfl, rfl⟩

set_option maxHeartbeats 4000000 in
set_option maxRecDepth 100000 in
theorem c_X6_levelAt_new {T : q_T} {G0 : q_G} {sz s f t n d : Nat} {g : Nat → Option Nat} (he : G0 (s + 5) = some (q_ob 7 [.ref (s + 6), .int (nI (f)), .int (nI (t)), .int (nI (n)), .ref (s + 4), .ref (s + 7)])) (hg : G0 (s + 7) = some (q_ra T 5 101 g)) (hd : d < 101) (hgd : g d = none) (hsz : s + 8 ≤ sz) : q_C T mX6_levelAt 2 40 2 103 [.ref (s + 5), .int (nI d)] G0 sz (fun v G' sz' => sz' = sz + 2 ∧ v = some (.ref sz) ∧ G' (s + 7) = some (q_ra T 5 101 (va_up g d (some sz))) ∧ Lev T G' sz (fun _ => 0) 0 0 ∧ ∀ b, b < sz ∧ b ≠ s + 7 → G' b = G0 b) := by
  refine q_C.of (by decide) rfl (by simp [Value.category]) (Nat.le_of_ble_eq_true rfl) ?_
  have hF : ∀ b, b < sz ∧ b ≠ s + 7 → G0 b = G0 b := fun _ _ => rfl
  refine q_aload_n dX6_levelAt_0 rfl rfl ?_
  refine q_get dX6_levelAt_1 fl_X6_21 he rfl ?_
  refine q_iload_n dX6_levelAt_4 rfl ?_
  refine q_aaload (t := 5) (v := .null) dX6_levelAt_5 hg rfl rfl (by omega) (by omega) (congrArg va_rf hgd) ?_
  refine q_ifnonnull (tgt := 22) dX6_levelAt_6 (by decide) rfl (fun h => absurd rfl h) (fun _ => ?_)
  refine q_aload_n dX6_levelAt_9 rfl rfl ?_
  refine q_get dX6_levelAt_10 fl_X6_21 he rfl ?_
  refine q_iload_n dX6_levelAt_13 rfl ?_
  refine w_new dX6_levelAt_14 nw_X6_19 (by omega) (by omega) (fun G ha hN => ?_)
  have he := (hN _ (by omega)).trans he
  have hg := (hN _ (by omega)).trans hg
  have hF : ∀ b, b < sz ∧ b ≠ s + 7 → G b = G0 b := fun b hb => (hN b (by omega)).trans (hF b hb)
  refine q_dup dX6_levelAt_17 rfl ?_
  refine q_ii (As := []) dX6_levelAt_18 ml_X6_73 mt_X2_init rfl mi_X2_init rfl rfl (Nat.le_of_ble_eq_true rfl) (Nat.le_of_ble_eq_true rfl) (by omega) (by omega) (Nat.le_of_ble_eq_true rfl) (q_C.mono (c_X2_init ha) (fun v G sz1 hq => ?_))
  obtain ⟨rfl, rfl, hN, hL⟩ := hq
  have he := (hN _ (by omega)).trans he
  have hg := (hN _ (by omega)).trans hg
  have hF : ∀ b, b < sz ∧ b ≠ s + 7 → G b = G0 b := fun b hb => (hN b (by omega)).trans (hF b hb)
  refine w_aas (t := 5) (k := d) dX6_levelAt_21 hg rfl hL.1 rfl rfl (by omega) (by omega) (fun G hg hN => ?_)
  have he := (hN _ (by omega)).trans he
  have hL := hL.fr (fun b b1 b2 => hN b (by omega))
  have hF : ∀ b, b < sz ∧ b ≠ s + 7 → G b = G0 b := fun b hb => (hN b (by omega)).trans (hF b hb)
  refine q_aload_n dX6_levelAt_22 rfl rfl ?_
  refine q_get dX6_levelAt_23 fl_X6_21 he rfl ?_
  refine q_iload_n dX6_levelAt_26 rfl ?_
  refine q_aaload (t := 5) (v := .ref sz) dX6_levelAt_27 hg rfl rfl (by omega) (by omega) (congrArg va_rf (va_up_s _ _ _)) ?_
  exact q_areturn dX6_levelAt_28 rfl (Or.inl ⟨_, rfl⟩) rfl ⟨rfl, rfl, hg, hL, hF⟩

theorem fst_log {s k : Nat} (hs : s < 16) (hp : ln_pop s = 1) (h : Fst s k) : k = pz_log s := by
  have key : ∀ s, s < 16 → ln_pop s = 1 → ∀ k, k < 4 → s.testBit k = true → k = pz_log s := by decide +kernel
  exact key s hs hp k h.1 h.2.1
theorem pop_ne {s : Nat} (hp : ln_pop s = 1) : s ≠ 0 := fun h => by rw [h] at hp; exact absurd hp (by decide)

set_option maxHeartbeats 4000000 in
set_option maxRecDepth 100000 in
theorem l_keep {T : q_T} {G0 : q_G} {sz s f t n b N : Nat} {S P : Nat → Nat} {E : q_E} (hf : f < 5) (hn : n ≤ 100) (hN1 : n ≤ N ∧ N ≤ 1000) (hdb : b < s + 5 ∨ s + 7 ≤ b) (hS : ∀ k, k < n → S k < 16 ∧ ln_pop (S k) = 1) (hE : ∀ (P1 : Nat → Nat) (G : q_G), (∀ k, k < n → P1 (100 * f + k) = pz_log (S k)) → (∀ j, j < 100 * f → P1 j = P j) → (G (s + 5) = some (q_ob 7 [.ref (s + 6), .int (nI (f + 1)), .int (nI (t)), .int (nI (n)), .ref (s + 4), .ref (s + 7)]) ∧ G (s + 6) = some (q_ia T 500 (fun i => nI (P1 i))) ∧ G b = some (q_ia T N (fun i => nI (S i))) ∧ ∀ x, x ≠ s + 5 ∧ x ≠ s + 6 → G x = G0 x) → E none G sz) : ∀ (mZ : Nat) (c0 : Nat) (P1 : Nat → Nat) (G : q_G), mZ = n - c0 → (c0 ≤ n) → (∀ k, k < c0 → P1 (100 * f + k) = pz_log (S k)) → (∀ j, j < 100 * f → P1 j = P j) → (G (s + 5) = some (q_ob 7 [.ref (s + 6), .int (nI (f)), .int (nI (t)), .int (nI (n)), .ref (s + 4), .ref (s + 7)]) ∧ G (s + 6) = some (q_ia T 500 (fun i => nI (P1 i))) ∧ G b = some (q_ia T N (fun i => nI (S i))) ∧ ∀ x, x ≠ s + 5 ∧ x ≠ s + 6 → G x = G0 x) → q_R T mX6_keepPicture 2 42 11 [some (.ref (s + 5)), some (.ref b), some (.int (nI c0))] [] G sz 0 0 E := by
  intro mZ
  induction mZ using Nat.strongRecOn with | ind mZ ih => ?_
  intro c0 P1 G hm hc h1 h2 hw
  obtain ⟨he, hp, hb, hF⟩ := hw
  refine q_iload_n dX6_keepPicture_11 rfl ?_
  refine q_aload_n dX6_keepPicture_12 rfl rfl ?_
  refine q_get dX6_keepPicture_13 fl_X6_32 he rfl ?_
  refine n_icmp_ge (tgt := 45) dX6_keepPicture_16 (by decide) (by omega) (by omega) (fun c16 => ?_) (fun c16 => ?_)
  · obtain rfl : n = c0 := by omega
    refine q_aload_n dX6_keepPicture_45 rfl rfl ?_
    refine q_dup dX6_keepPicture_46 rfl ?_
    refine q_get dX6_keepPicture_47 fl_X6_25 he rfl ?_
    refine q_iconst (v := nI 1) dX6_keepPicture_50 (by decide) ?_
    refine q_iadd dX6_keepPicture_51 (nI_add _ _) ?_
    refine w_put (fs2 := [.ref (s + 6), .int (nI (f + 1)), .int (nI (t)), .int (nI (n)), .ref (s + 4), .ref (s + 7)]) dX6_keepPicture_52 fl_X6_25 fp_X6_25 he (Nat.le_of_ble_eq_true rfl) rfl rfl rfl (fun G he hN => ?_)
    have hp := (hN _ (by omega)).trans hp
    have hb := (hN _ (by omega)).trans hb
    have hF : ∀ x, x ≠ s + 5 ∧ x ≠ s + 6 → G x = G0 x := fun x hx => (hN x (by omega)).trans (hF x hx)
    exact q_return dX6_keepPicture_55 rfl (hE P1 G h1 h2 ⟨he, hp, hb, hF⟩)
  · refine q_aload_n dX6_keepPicture_19 rfl rfl ?_
    refine q_get dX6_keepPicture_20 fl_X6_15 he rfl ?_
    refine q_aload_n dX6_keepPicture_23 rfl rfl ?_
    refine q_get dX6_keepPicture_24 fl_X6_25 he rfl ?_
    refine q_bipush (v := nI 100) dX6_keepPicture_27 (by decide) ?_
    refine q_imul dX6_keepPicture_29 (pk_mul _ _) ?_
    refine q_iload_n dX6_keepPicture_30 rfl ?_
    refine q_iadd dX6_keepPicture_31 (nI_add _ _) ?_
    refine q_aload_n dX6_keepPicture_32 rfl rfl ?_
    refine q_iload_n dX6_keepPicture_33 rfl ?_
    refine w_ld dX6_keepPicture_34 hb rfl (by omega) (by omega) rfl ?_
    refine q_isN (As := [_]) dX6_keepPicture_35 mn_X6_92 mt_X8_firstOf ms_X8_firstOf rfl (Nat.le_of_ble_eq_true rfl) (Nat.le_of_ble_eq_true rfl) (Nat.zero_le _) (Nat.zero_le _) (Nat.le_of_ble_eq_true rfl) (q_C.mono (c_X8_firstOf (hS c0 (by omega)).1 (pop_ne (hS c0 (by omega)).2)) (fun v G1 sz1 hq => ?_))
    obtain ⟨⟨k35, hk35, rfl⟩, rfl, rfl⟩ := hq
    refine w_st (k := f * 100 + c0) dX6_keepPicture_38 hp rfl (by omega) (by omega) rfl (fun G hp hN => ?_)
    have he := (hN _ (by omega)).trans he
    have hb := (hN _ (by omega)).trans hb
    have hF : ∀ x, x ≠ s + 5 ∧ x ≠ s + 6 → G x = G0 x := fun x hx => (hN x (by omega)).trans (hF x hx)
    refine s_iinc dX6_keepPicture_39 rfl (s_inc1 _) (by decide) rfl ?_
    refine q_goto (tgt := 11) dX6_keepPicture_42 (by decide) ?_
    exact ih _ (by omega) (c0 + 1) _ G rfl (by omega) (fun k hk => if h : k = c0 then (by rw [h, show 100 * f + c0 = f * 100 + c0 by omega, va_up_s]; exact fst_log (hS c0 (by omega)).1 (hS c0 (by omega)).2 hk35) else (by rw [va_up_n _ _ (by omega)]; exact h1 k (by omega))) (fun j hj => by rw [va_up_n _ _ (by omega)]; exact h2 j hj) ⟨he, hp, hb, hF⟩

set_option maxHeartbeats 4000000 in
set_option maxRecDepth 100000 in
theorem c_X6_keepPicture {T : q_T} {G0 : q_G} {sz s f t n b N : Nat} {S P : Nat → Nat} (he : G0 (s + 5) = some (q_ob 7 [.ref (s + 6), .int (nI (f)), .int (nI (t)), .int (nI (n)), .ref (s + 4), .ref (s + 7)])) (hp : G0 (s + 6) = some (q_ia T 500 (fun i => nI (P i)))) (hb : G0 b = some (q_ia T N (fun i => nI (S i)))) (hf : f < 5) (hn : n ≤ 100) (hN1 : n ≤ N ∧ N ≤ 1000) (hdb : b < s + 5 ∨ s + 7 ≤ b) (hS : ∀ k, k < n → S k < 16 ∧ ln_pop (S k) = 1) : q_C T mX6_keepPicture 2 42 0 0 [.ref (s + 5), .ref b] G0 sz (fun v G' sz' => sz = sz' ∧ v = none ∧ G' (s + 5) = some (q_ob 7 [.ref (s + 6), .int (nI (f + 1)), .int (nI (t)), .int (nI (n)), .ref (s + 4), .ref (s + 7)]) ∧ (∃ P1 : Nat → Nat, G' (s + 6) = some (q_ia T 500 (fun i => nI (P1 i))) ∧ (∀ k, k < n → P1 (100 * f + k) = pz_log (S k)) ∧ ∀ j, j < 100 * f → P1 j = P j) ∧ ∀ x, x ≠ s + 5 ∧ x ≠ s + 6 → G' x = G0 x) := by
  refine q_C.of (by decide) rfl (by simp [Value.category]) (Nat.le_of_ble_eq_true rfl) ?_
  refine q_aload_n dX6_keepPicture_0 rfl rfl ?_
  refine q_get dX6_keepPicture_1 fl_X6_25 he rfl ?_
  refine q_iconst (v := nI 5) dX6_keepPicture_4 (by decide) ?_
  refine n_icmp_lt (tgt := 9) dX6_keepPicture_5 (by decide) (by omega) (by omega) (fun c5 => ?_) (fun c5 => absurd c5 (by omega))
  refine q_iconst (v := nI 0) dX6_keepPicture_9 (by decide) ?_
  refine s_istore_n dX6_keepPicture_10 (by decide) rfl ?_
  exact l_keep hf hn hN1 hdb hS (fun P1 G h1 h2 h3 => ⟨rfl, rfl, h3.1, ⟨P1, h3.2.1, h1, h2⟩, h3.2.2.2⟩) _ 0 P _ rfl (Nat.zero_le _) (fun _ h => absurd h (Nat.not_lt_zero _)) (fun _ _ => rfl) ⟨he, hp, hb, fun _ _ => rfl⟩
