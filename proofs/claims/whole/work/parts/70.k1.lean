/-! THE CLASS: numbers of a set -/
def bc_u (x y : Int32) : Int32 := (x.toUInt32 >>> (y.toUInt32 &&& Int32.toUInt32 31)).toInt32
def bc_1 (x : Int32) : Int32 := x - (bc_u x (nI 1) &&& 1431655765)
def bc_2 (x : Int32) : Int32 := (bc_1 x &&& 858993459) + (bc_u (bc_1 x) (nI 2) &&& 858993459)
def bc_3 (x : Int32) : Int32 := (bc_2 x + bc_u (bc_2 x) (nI 4)) &&& 252645135
def bc_4 (x : Int32) : Int32 := bc_3 x + bc_u (bc_3 x) (nI 8)
def bc_5 (x : Int32) : Int32 := bc_4 x + bc_u (bc_4 x) (nI 16)
theorem bc_all {a : Nat} (h : a < 16) : bc_5 (nI a) &&& nI 63 = nI (ln_pop a) := by
  have key : ∀ a, a < 16 → bc_5 (nI a) &&& nI 63 = nI (ln_pop a) := by decide +kernel
  exact key a h
theorem bt_0 {s k : Nat} (hs : s < 16) (hk : k < 4) : s &&& 1 <<< k = 0 ↔ s.testBit k = false := by
  have key : ∀ s, s < 16 → ∀ k, k < 4 → (s &&& 1 <<< k = 0 ↔ s.testBit k = false) := by decide +kernel
  exact key s hs k hk
theorem shl_lt {k : Nat} (hk : k < 4) : 1 <<< k < 16 := by
  have key : ∀ k, k < 4 → 1 <<< k < 16 := by decide +kernel
  exact key k hk

set_option maxHeartbeats 4000000 in
set_option maxRecDepth 100000 in
theorem c_bitCount {T : q_T} {G : q_G} {sz a : Nat} (ha : a < 16) : q_C T mJ6_bitCount_0f7a4 0 0 0 0 [.int (nI a)] G sz (fun v G' sz' => v = some (.int (nI (ln_pop a))) ∧ G = G' ∧ sz = sz') := by
  refine q_C.of (by decide) rfl (by simp [Value.category]) (Nat.le_of_ble_eq_true rfl) ?_
  refine q_iload_n dJ6_bitCount_0f7a4_0 rfl ?_
  refine q_iload_n dJ6_bitCount_0f7a4_1 rfl ?_
  refine q_iconst (v := nI 1) dJ6_bitCount_0f7a4_2 (by decide) ?_
  refine q_iushr dJ6_bitCount_0f7a4_3 rfl ?_
  refine q_ldcw (v := 1431655765) dJ6_bitCount_0f7a4_4 cn_J6_265 ?_
  refine q_iand dJ6_bitCount_0f7a4_7 rfl ?_
  refine q_isub dJ6_bitCount_0f7a4_8 (show _ = bc_1 (nI a) from rfl) ?_
  refine s_istore_n dJ6_bitCount_0f7a4_9 (by decide) rfl ?_
  refine q_iload_n dJ6_bitCount_0f7a4_10 rfl ?_
  refine q_ldcw (v := 858993459) dJ6_bitCount_0f7a4_11 cn_J6_266 ?_
  refine q_iand dJ6_bitCount_0f7a4_14 rfl ?_
  refine q_iload_n dJ6_bitCount_0f7a4_15 rfl ?_
  refine q_iconst (v := nI 2) dJ6_bitCount_0f7a4_16 (by decide) ?_
  refine q_iushr dJ6_bitCount_0f7a4_17 rfl ?_
  refine q_ldcw (v := 858993459) dJ6_bitCount_0f7a4_18 cn_J6_266 ?_
  refine q_iand dJ6_bitCount_0f7a4_21 rfl ?_
  refine q_iadd dJ6_bitCount_0f7a4_22 (show _ = bc_2 (nI a) from rfl) ?_
  refine s_istore_n dJ6_bitCount_0f7a4_23 (by decide) rfl ?_
  refine q_iload_n dJ6_bitCount_0f7a4_24 rfl ?_
  refine q_iload_n dJ6_bitCount_0f7a4_25 rfl ?_
  refine q_iconst (v := nI 4) dJ6_bitCount_0f7a4_26 (by decide) ?_
  refine q_iushr dJ6_bitCount_0f7a4_27 rfl ?_
  refine q_iadd dJ6_bitCount_0f7a4_28 rfl ?_
  refine q_ldcw (v := 252645135) dJ6_bitCount_0f7a4_29 cn_J6_267 ?_
  refine q_iand dJ6_bitCount_0f7a4_32 (show _ = bc_3 (nI a) from rfl) ?_
  refine s_istore_n dJ6_bitCount_0f7a4_33 (by decide) rfl ?_
  refine q_iload_n dJ6_bitCount_0f7a4_34 rfl ?_
  refine q_iload_n dJ6_bitCount_0f7a4_35 rfl ?_
  refine q_bipush (v := nI 8) dJ6_bitCount_0f7a4_36 (by decide) ?_
  refine q_iushr dJ6_bitCount_0f7a4_38 rfl ?_
  refine q_iadd dJ6_bitCount_0f7a4_39 (show _ = bc_4 (nI a) from rfl) ?_
  refine s_istore_n dJ6_bitCount_0f7a4_40 (by decide) rfl ?_
  refine q_iload_n dJ6_bitCount_0f7a4_41 rfl ?_
  refine q_iload_n dJ6_bitCount_0f7a4_42 rfl ?_
  refine q_bipush (v := nI 16) dJ6_bitCount_0f7a4_43 (by decide) ?_
  refine q_iushr dJ6_bitCount_0f7a4_45 rfl ?_
  refine q_iadd dJ6_bitCount_0f7a4_46 (show _ = bc_5 (nI a) from rfl) ?_
  refine s_istore_n dJ6_bitCount_0f7a4_47 (by decide) rfl ?_
  refine q_iload_n dJ6_bitCount_0f7a4_48 rfl ?_
  refine q_bipush (v := nI 63) dJ6_bitCount_0f7a4_49 (by decide) ?_
  refine q_iand dJ6_bitCount_0f7a4_51 rfl ?_
  exact q_ireturn dJ6_bitCount_0f7a4_52 rfl rfl ⟨congrArg (fun z => some (Value.int z)) (bc_all ha), rfl, rfl⟩

set_option maxHeartbeats 4000000 in
set_option maxRecDepth 100000 in
theorem c_X8_holds {T : q_T} {G : q_G} {sz s k : Nat} (hs : s < 16) (hk : k < 4) : q_C T mX8_holds 0 0 0 0 [.int (nI s), .int (nI k)] G sz (fun v G' sz' => ((s.testBit k = true ∧ v = some (.int (nI 1))) ∨ (s.testBit k = false ∧ v = some (.int (nI 0)))) ∧ G = G' ∧ sz = sz') := by
  refine q_C.of (by decide) rfl (by simp [Value.category]) (Nat.le_of_ble_eq_true rfl) ?_
  refine q_iload_n dX8_holds_0 rfl ?_
  refine q_iconst (v := nI 1) dX8_holds_1 (by decide) ?_
  refine q_iload_n dX8_holds_2 rfl ?_
  refine q_ishl dX8_holds_3 (n_shl (by omega) rfl) ?_
  refine q_iand dX8_holds_4 (n_and _ _) ?_
  refine n_if_eq (tgt := 12) dX8_holds_5 (by decide) (Nat.lt_of_le_of_lt Nat.and_le_left (by omega)) (fun c5 => ?_) (fun c5 => ?_)
  · refine q_iconst (v := nI 0) dX8_holds_12 (by decide) ?_
    exact q_ireturn dX8_holds_13 rfl (by decide +kernel) ⟨Or.inr ⟨(bt_0 hs hk).mp c5, rfl⟩, rfl, rfl⟩
  · refine q_iconst (v := nI 1) dX8_holds_8 (by decide) ?_
    refine q_goto (tgt := 13) dX8_holds_9 (by decide) ?_
    exact q_ireturn dX8_holds_13 rfl (by decide +kernel) ⟨Or.inl ⟨by cases hb : s.testBit k with | true => rfl | false => exact absurd ((bt_0 hs hk).mpr hb) c5, rfl⟩, rfl, rfl⟩

set_option maxHeartbeats 4000000 in
set_option maxRecDepth 100000 in
theorem c_X8_isOne {T : q_T} {G : q_G} {sz s : Nat} (hs : s < 16) : q_C T mX8_isOne 1 20 0 0 [.int (nI s)] G sz (fun v G' sz' => ((ln_pop s = 1 ∧ v = some (.int (nI 1))) ∨ (¬ ln_pop s = 1 ∧ v = some (.int (nI 0)))) ∧ G = G' ∧ sz = sz') := by
  refine q_C.of (by decide) rfl (by simp [Value.category]) (Nat.le_of_ble_eq_true rfl) ?_
  refine q_iload_n dX8_isOne_0 rfl ?_
  refine q_is (As := [_]) dX8_isOne_1 ml_X8_286 mt_J6_bitCount_0f7a4 ms_J6_bitCount_0f7a4 rfl (Nat.le_of_ble_eq_true rfl) (Nat.le_of_ble_eq_true rfl) (Nat.zero_le _) (Nat.zero_le _) (Nat.le_of_ble_eq_true rfl) (q_C.mono (c_bitCount hs) (fun v G1 sz1 hq => ?_))
  obtain ⟨rfl, rfl, rfl⟩ := hq
  refine q_iconst (v := nI 1) dX8_isOne_4 (by decide) ?_
  refine n_icmp_ne (tgt := 12) dX8_isOne_5 (by decide) (by have := ln_pop_le hs; omega) (by omega) (fun c5 => ?_) (fun c5 => ?_)
  · refine q_iconst (v := nI 0) dX8_isOne_12 (by decide) ?_
    exact q_ireturn dX8_isOne_13 rfl (by decide +kernel) ⟨Or.inr ⟨c5, rfl⟩, rfl, rfl⟩
  · refine q_iconst (v := nI 1) dX8_isOne_8 (by decide) ?_
    refine q_goto (tgt := 13) dX8_isOne_9 (by decide) ?_
    exact q_ireturn dX8_isOne_13 rfl (by decide +kernel) ⟨Or.inl ⟨c5, rfl⟩, rfl, rfl⟩

/-- k is the first number of s -/
def Fst (s k : Nat) : Prop := k < 4 ∧ s.testBit k = true ∧ ∀ j, j < k → s.testBit j = false
theorem fst_no {s : Nat} (hs : s < 16) (h0 : s ≠ 0) (h : ∀ j, j < 4 → s.testBit j = false) : False := by
  have key : ∀ s, s < 16 → s ≠ 0 → ¬ ∀ j, j < 4 → s.testBit j = false := by decide +kernel
  exact key s hs h0 h

set_option maxHeartbeats 4000000 in
set_option maxRecDepth 100000 in
theorem l_X8_firstOf {T : q_T} {G : q_G} {sz s : Nat} {E : q_E} (hs : s < 16) (h0 : s ≠ 0) (hE : ∀ k, Fst s k → E (some (.int (nI k))) G sz) : ∀ (mZ : Nat) (k : Nat), mZ = 4 - k → (k ≤ 4) → (∀ j, j < k → s.testBit j = false) → q_R T mX8_firstOf 1 21 2 [some (.int (nI s)), some (.int (nI k))] [] G sz 0 0 E := by
  intro mZ
  induction mZ using Nat.strongRecOn with | ind mZ ih => ?_
  intro k hm hk hno
  refine q_iload_n dX8_firstOf_2 rfl ?_
  refine q_iconst (v := nI 3) dX8_firstOf_3 (by decide) ?_
  refine n_icmp_gt (tgt := 23) dX8_firstOf_4 (by decide) (by omega) (by omega) (fun c4 => ?_) (fun c4 => ?_)
  · exact absurd (fst_no hs h0 (fun j hj => hno j (by omega))) id
  · refine q_iload_n dX8_firstOf_7 rfl ?_
    refine q_iload_n dX8_firstOf_8 rfl ?_
    refine q_is (As := [_, _]) dX8_firstOf_9 ml_X8_291 mt_X8_holds ms_X8_holds rfl (Nat.le_of_ble_eq_true rfl) (Nat.le_of_ble_eq_true rfl) (Nat.zero_le _) (Nat.zero_le _) (Nat.le_of_ble_eq_true rfl) (q_C.mono (c_X8_holds (by omega) (by omega)) (fun v G1 sz1 hq => ?_))
    obtain ⟨⟨hq9, rfl⟩ | ⟨hq9, rfl⟩, rfl, rfl⟩ := hq
    · refine q_if_eq (tgt := 17) dX8_firstOf_12 (by decide) (fun h => absurd h (by decide)) (fun _ => ?_)
      refine q_iload_n dX8_firstOf_15 rfl ?_
      exact q_ireturn dX8_firstOf_16 rfl rfl (hE _ ⟨by omega, hq9, hno⟩)
    · refine q_if_eq (tgt := 17) dX8_firstOf_12 (by decide) (fun _ => ?_) (fun h => absurd h (by decide))
      refine s_iinc dX8_firstOf_17 rfl (s_inc1 _) (by decide) rfl ?_
      refine q_goto (tgt := 2) dX8_firstOf_20 (by decide) ?_
      exact ih _ (by omega) (k + 1) rfl (by omega) (fun j hj => if h : j = k then h ▸ hq9 else hno j (by omega))

set_option maxHeartbeats 4000000 in
set_option maxRecDepth 100000 in
theorem c_X8_firstOf {T : q_T} {G : q_G} {sz s : Nat} (hs : s < 16) (h0 : s ≠ 0) : q_C T mX8_firstOf 1 21 0 0 [.int (nI s)] G sz (fun v G' sz' => (∃ k, Fst s k ∧ v = some (.int (nI k))) ∧ G = G' ∧ sz = sz') := by
  refine q_C.of (by decide) rfl (by simp [Value.category]) (Nat.le_of_ble_eq_true rfl) ?_
  refine q_iconst (v := nI 0) dX8_firstOf_0 (by decide) ?_
  refine s_istore_n dX8_firstOf_1 (by decide) rfl ?_
  exact l_X8_firstOf hs h0 (fun k hk => ⟨⟨k, hk, rfl⟩, rfl, rfl⟩) _ 0 rfl (by omega) (fun _ h => absurd h (Nat.not_lt_zero _))

theorem fl_s {f : Nat → Int32} {x : Int32} {c : Nat} : upd (fun i => if i < c then x else f i) c x = fun i => if i < c + 1 then x else f i := by
  funext i
  unfold upd
  by_cases h : i = c
  · subst h; rw [if_pos rfl, if_pos (by omega)]
  · rw [if_neg h]
    show (if i < c then x else f i) = _
    by_cases h2 : i < c
    · rw [if_pos h2, if_pos (by omega)]
    · rw [if_neg h2, if_neg (by omega)]
theorem fl_0 {f : Nat → Int32} {x : Int32} : (fun i => if i < 0 then x else f i) = f := by
  funext i
  exact if_neg (Nat.not_lt_zero _)
theorem fl_n {F : Nat → Nat} {n v : Nat} : (fun i => if i < n then nI v else nI (F i)) = fun i => nI (if i < n then v else F i) := by
  funext i
  split <;> rfl

set_option maxHeartbeats 4000000 in
set_option maxRecDepth 100000 in
theorem l_fill {T : q_T} {G0 : q_G} {sz a n : Nat} {x : Int32} {f : Nat → Int32} {E : q_E} (hn : n ≤ 100000) (hE : ∀ G : q_G, G a = some (q_ia T n (fun i => if i < n then x else f i)) → (∀ b, b ≠ a → G b = G0 b) → E none G sz) : ∀ (mZ : Nat) (c : Nat) (G : q_G), mZ = n - c → (c ≤ n) → (G a = some (q_ia T n (fun i => if i < c then x else f i))) → (∀ b, b ≠ a → G b = G0 b) → q_R T mJ7_fill_53178 0 0 5 [some (.ref a), some (.int x), some (.int (nI c)), some (.int (nI n))] [] G sz 0 0 E := by
  intro mZ
  induction mZ using Nat.strongRecOn with | ind mZ ih => ?_
  intro c G hm hc hA hF
  refine q_iload_n dJ7_fill_53178_5 rfl ?_
  refine q_iload_n dJ7_fill_53178_6 rfl ?_
  refine n_icmp_ge (tgt := 20) dJ7_fill_53178_7 (by decide) (by omega) (by omega) (fun c7 => ?_) (fun c7 => ?_)
  · obtain rfl : c = n := by omega
    exact q_return dJ7_fill_53178_20 rfl (hE G hA hF)
  · refine q_aload_n dJ7_fill_53178_10 rfl rfl ?_
    refine q_iload_n dJ7_fill_53178_11 rfl ?_
    refine q_iload_n dJ7_fill_53178_12 rfl ?_
    refine q_iastore dJ7_fill_53178_13 hA rfl (by omega) (by omega) ?_
    rw [fl_s]
    refine s_iinc dJ7_fill_53178_14 rfl (s_inc1 _) (by decide) rfl ?_
    refine q_goto (tgt := 5) dJ7_fill_53178_17 (by decide) ?_
    exact ih _ (by omega) (c + 1) _ rfl (by omega) q_up_s (fun b hb => (q_up_n hb).trans (hF b hb))

set_option maxHeartbeats 4000000 in
set_option maxRecDepth 100000 in
theorem c_fill {T : q_T} {G : q_G} {sz a n : Nat} {x : Int32} {f : Nat → Int32} (hn : n ≤ 100000) (hA : G a = some (q_ia T n f)) : q_C T mJ7_fill_53178 0 0 0 0 [.ref a, .int x] G sz (fun v G' sz' => v = none ∧ sz = sz' ∧ G' a = some (q_ia T n (fun i => if i < n then x else f i)) ∧ ∀ b, b ≠ a → G' b = G b) := by
  refine q_C.of (by decide) rfl (by simp [Value.category]) (Nat.le_of_ble_eq_true rfl) ?_
  refine q_iconst (v := nI 0) dJ7_fill_53178_0 (by decide) ?_
  refine s_istore_n dJ7_fill_53178_1 (by decide) rfl ?_
  refine q_aload_n dJ7_fill_53178_2 rfl rfl ?_
  refine q_alen (t := 0) (v := nI (n)) dJ7_fill_53178_3 hA rfl rfl ?_
  refine s_istore_n dJ7_fill_53178_4 (by decide) rfl ?_
  exact l_fill hn (fun G h1 h2 => ⟨rfl, rfl, h1, h2⟩) _ 0 G rfl (Nat.zero_le _) (by rw [fl_0]; exact hA) (fun _ _ => rfl)
