/-! THE CLASS: a puzzle's small methods -/
theorem fu_l {c : Nat} (hc : c ≤ 3) : nI (2 <<< c) - nI 1 = nI (1 <<< (c + 1) - 1) := by
  have key : ∀ c, c ≤ 3 → nI (2 <<< c) - nI 1 = nI (1 <<< (c + 1) - 1) := by decide +kernel
  exact key c hc

set_option maxHeartbeats 4000000 in
set_option maxRecDepth 100000 in
theorem c_X4_full {T : q_T} {G : q_G} {sz u w h c D z : Nat} (hu : G u = some (q_ob 5 (pu_ob u w h c D z))) (hc : c ≤ 3) : q_C T mX4_full 0 0 0 0 [.ref u] G sz (fun v G' sz' => v = some (.int (nI (1 <<< (c + 1) - 1))) ∧ G = G' ∧ sz = sz') := by
  refine q_C.of (by decide) rfl (by simp [Value.category]) (Nat.le_of_ble_eq_true rfl) ?_
  refine q_iconst (v := nI 2) dX4_full_0 (by decide) ?_
  refine q_aload_n dX4_full_1 rfl rfl ?_
  refine q_get dX4_full_2 fl_X4_18 hu rfl ?_
  refine q_ishl dX4_full_5 (n_shl (by omega) rfl) ?_
  refine q_iconst (v := nI 1) dX4_full_6 (by decide) ?_
  refine q_isub dX4_full_7 (fu_l hc) ?_
  exact q_ireturn dX4_full_8 rfl rfl ⟨rfl, rfl, rfl⟩

set_option maxHeartbeats 4000000 in
set_option maxRecDepth 100000 in
theorem c_X4_clearDesk {T : q_T} {G0 : q_G} {sz u w h c D z : Nat} {N : Nat} {F : Nat → Nat} (hu : G0 u = some (q_ob 5 (pu_ob u w h c D z))) (hd : G0 D = some (q_ia T N (fun i => nI (F i)))) (hN1 : N ≤ 1000) (hc : c ≤ 3) : q_C T mX4_clearDesk 1 23 0 0 [.ref u] G0 sz (fun v G' sz' => v = none ∧ sz = sz' ∧ G' D = some (q_ia T N (fun i => nI ((fun i => if i < N then 1 <<< (c + 1) - 1 else F i) i))) ∧ ∀ b, b ≠ D → G' b = G0 b) := by
  refine q_C.of (by decide) rfl (by simp [Value.category]) (Nat.le_of_ble_eq_true rfl) ?_
  refine q_aload_n dX4_clearDesk_0 rfl rfl ?_
  refine q_get dX4_clearDesk_1 fl_X4_33 hu rfl ?_
  refine q_aload_n dX4_clearDesk_4 rfl rfl ?_
  refine q_iv (As := []) dX4_clearDesk_5 ml_X4_44 mt_X4_full mi_X4_full se_X4_full hu rfl rfl (Nat.le_of_ble_eq_true rfl) (Nat.le_of_ble_eq_true rfl) (Nat.zero_le _) (Nat.zero_le _) (Nat.le_of_ble_eq_true rfl) (q_C.mono (c_X4_full hu hc) (fun v G1 sz1 hq => ?_))
  obtain ⟨rfl, rfl, rfl⟩ := hq
  refine q_is (As := [_, _]) dX4_clearDesk_8 ml_X4_48 mt_J7_fill_53178 ms_J7_fill_53178 rfl (Nat.le_of_ble_eq_true rfl) (Nat.le_of_ble_eq_true rfl) (Nat.zero_le _) (Nat.zero_le _) (Nat.le_of_ble_eq_true rfl) (q_C.mono (c_fill (by omega) hd) (fun v G sz1 hq => ?_))
  obtain ⟨rfl, rfl, hd, hN⟩ := hq
  rw [nI_fill0] at hd
  exact q_return dX4_clearDesk_11 rfl ⟨rfl, rfl, hd, hN⟩

set_option maxHeartbeats 4000000 in
set_option maxRecDepth 100000 in
theorem c_X4_hasCell {T : q_T} {G : q_G} {sz u w h c D z : Nat} {x : Int32} (hu : G u = some (q_ob 5 (pu_ob u w h c D z))) (hwh : w * h ≤ 1000) : q_C T mX4_hasCell 0 0 0 0 [.ref u, .int x] G sz (fun v G' sz' => (((∃ k, k < w * h ∧ x = nI k) ∧ v = some (.int (nI 1))) ∨ (¬ (∃ k, k < w * h ∧ x = nI k) ∧ v = some (.int (nI 0)))) ∧ G = G' ∧ sz = sz') := by
  refine q_C.of (by decide) rfl (by simp [Value.category]) (Nat.le_of_ble_eq_true rfl) ?_
  refine q_iload_n dX4_hasCell_0 rfl ?_
  refine q_if_lt (tgt := 16) dX4_hasCell_1 (by decide) (fun c1 => ?_) (fun c1 => ?_)
  · refine q_iconst (v := nI 0) dX4_hasCell_16 (by decide) ?_
    exact q_ireturn dX4_hasCell_17 rfl (by decide +kernel) ⟨Or.inr ⟨fun ⟨k2, h1, h2⟩ => absurd c1 (by rw [h2]; exact nI_pos (by omega)), rfl⟩, rfl, rfl⟩
  · obtain ⟨k, hk, rfl⟩ := nI_of c1
    refine q_iload_n dX4_hasCell_4 rfl ?_
    refine q_aload_n dX4_hasCell_5 rfl rfl ?_
    refine q_get dX4_hasCell_6 fl_X4_21 hu rfl ?_
    refine n_icmp_ge (tgt := 16) dX4_hasCell_9 (by decide) (by omega) (by omega) (fun c9 => ?_) (fun c9 => ?_)
    · refine q_iconst (v := nI 0) dX4_hasCell_16 (by decide) ?_
      exact q_ireturn dX4_hasCell_17 rfl (by decide +kernel) ⟨Or.inr ⟨fun ⟨k2, h1, h2⟩ => (by have := (nI_eq hk (by omega)).mp h2; omega), rfl⟩, rfl, rfl⟩
    · refine q_iconst (v := nI 1) dX4_hasCell_12 (by decide) ?_
      refine q_goto (tgt := 17) dX4_hasCell_13 (by decide) ?_
      exact q_ireturn dX4_hasCell_17 rfl (by decide +kernel) ⟨Or.inl ⟨⟨k, c9, rfl⟩, rfl⟩, rfl, rfl⟩

set_option maxHeartbeats 4000000 in
set_option maxRecDepth 100000 in
theorem c_X4_deskHolds {T : q_T} {G : q_G} {sz u w h c D z : Nat} {F : Nat → Nat} {x y : Int32} (hu : G u = some (q_ob 5 (pu_ob u w h c D z))) (hd : G D = some (q_ia T (w * h) (fun i => nI (F i)))) (hF : ∀ a, a < w * h → F a < 16) (hwh : w * h ≤ 1000) (hc : c ≤ 3) : q_C T mX4_deskHolds 1 21 0 0 [.ref u, .int x, .int y] G sz (fun v G' sz' => (((∃ a k, a < w * h ∧ x = nI a ∧ k ≤ c ∧ y = nI k ∧ (F a).testBit k = true) ∧ v = some (.int (nI 1))) ∨ (¬ (∃ a k, a < w * h ∧ x = nI a ∧ k ≤ c ∧ y = nI k ∧ (F a).testBit k = true) ∧ v = some (.int (nI 0)))) ∧ G = G' ∧ sz = sz') := by
  refine q_C.of (by decide) rfl (by simp [Value.category]) (Nat.le_of_ble_eq_true rfl) ?_
  refine q_aload_n dX4_deskHolds_0 rfl rfl ?_
  refine q_iload_n dX4_deskHolds_1 rfl ?_
  refine q_iv (As := [_]) dX4_deskHolds_2 ml_X4_54 mt_X4_hasCell mi_X4_hasCell se_X4_hasCell hu rfl rfl (Nat.le_of_ble_eq_true rfl) (Nat.le_of_ble_eq_true rfl) (Nat.zero_le _) (Nat.zero_le _) (Nat.le_of_ble_eq_true rfl) (q_C.mono (c_X4_hasCell hu hwh) (fun v G1 sz1 hq => ?_))
  obtain ⟨⟨hq2, rfl⟩ | ⟨hq2, rfl⟩, rfl, rfl⟩ := hq
  · refine q_if_eq (tgt := 37) dX4_deskHolds_5 (by decide) (fun h => absurd h (by decide)) (fun _ => ?_)
    obtain ⟨a, ha, rfl⟩ := hq2
    refine q_iload_n dX4_deskHolds_8 rfl ?_
    refine q_if_lt (tgt := 37) dX4_deskHolds_9 (by decide) (fun c9 => ?_) (fun c9 => ?_)
    · refine q_iconst (v := nI 0) dX4_deskHolds_37 (by decide) ?_
      exact q_ireturn dX4_deskHolds_38 rfl (by decide +kernel) ⟨Or.inr ⟨fun ⟨a2, k, h1, h2, h3, h4, h5⟩ => (absurd c9 (by rw [h4]; exact nI_pos (by omega))), rfl⟩, rfl, rfl⟩
    · obtain ⟨k, hk, rfl⟩ := nI_of c9
      refine q_iload_n dX4_deskHolds_12 rfl ?_
      refine q_aload_n dX4_deskHolds_13 rfl rfl ?_
      refine q_get dX4_deskHolds_14 fl_X4_18 hu rfl ?_
      refine n_icmp_gt (tgt := 37) dX4_deskHolds_17 (by decide) (by omega) (by omega) (fun c17 => ?_) (fun c17 => ?_)
      · refine q_iconst (v := nI 0) dX4_deskHolds_37 (by decide) ?_
        exact q_ireturn dX4_deskHolds_38 rfl (by decide +kernel) ⟨Or.inr ⟨fun ⟨a2, k2, h1, h2, h3, h4, h5⟩ => (by have := (nI_eq hk (by omega)).mp h4; omega), rfl⟩, rfl, rfl⟩
      · refine q_aload_n dX4_deskHolds_20 rfl rfl ?_
        refine q_get dX4_deskHolds_21 fl_X4_33 hu rfl ?_
        refine q_iload_n dX4_deskHolds_24 rfl ?_
        refine w_ld dX4_deskHolds_25 hd rfl (by omega) (by omega) rfl ?_
        refine q_iload_n dX4_deskHolds_26 rfl ?_
        refine q_isN (As := [_, _]) dX4_deskHolds_27 mn_X4_58 mt_X8_holds ms_X8_holds rfl (Nat.le_of_ble_eq_true rfl) (Nat.le_of_ble_eq_true rfl) (Nat.zero_le _) (Nat.zero_le _) (Nat.le_of_ble_eq_true rfl) (q_C.mono (c_X8_holds (hF a ha) (by omega)) (fun v G1 sz1 hq => ?_))
        obtain ⟨⟨hq27, rfl⟩ | ⟨hq27, rfl⟩, rfl, rfl⟩ := hq
        · refine q_if_eq (tgt := 37) dX4_deskHolds_30 (by decide) (fun h => absurd h (by decide)) (fun _ => ?_)
          refine q_iconst (v := nI 1) dX4_deskHolds_33 (by decide) ?_
          refine q_goto (tgt := 38) dX4_deskHolds_34 (by decide) ?_
          exact q_ireturn dX4_deskHolds_38 rfl (by decide +kernel) ⟨Or.inl ⟨⟨a, k, ha, rfl, c17, rfl, hq27⟩, rfl⟩, rfl, rfl⟩
        · refine q_if_eq (tgt := 37) dX4_deskHolds_30 (by decide) (fun _ => ?_) (fun h => absurd h (by decide))
          refine q_iconst (v := nI 0) dX4_deskHolds_37 (by decide) ?_
          exact q_ireturn dX4_deskHolds_38 rfl (by decide +kernel) ⟨Or.inr ⟨fun ⟨a2, k2, h1, h2, h3, h4, h5⟩ => (by have e1 := (nI_eq (by omega) (by omega)).mp h2; have e2 := (nI_eq hk (by omega)).mp h4; rw [← e1, ← e2, hq27] at h5; cases h5), rfl⟩, rfl, rfl⟩
  · refine q_if_eq (tgt := 37) dX4_deskHolds_5 (by decide) (fun _ => ?_) (fun h => absurd h (by decide))
    refine q_iconst (v := nI 0) dX4_deskHolds_37 (by decide) ?_
    exact q_ireturn dX4_deskHolds_38 rfl (by decide +kernel) ⟨Or.inr ⟨fun ⟨a, k, h1, h2, h3, h4, h5⟩ => (hq2 ⟨a, h1, h2⟩), rfl⟩, rfl, rfl⟩

set_option maxHeartbeats 4000000 in
set_option maxRecDepth 100000 in
theorem l_allRuns {T : q_T} {G : q_G} {sz u w h c D z : Nat} {f : Nat → Option Nat} {F : Nat → Nat} {E : q_E} (hu : G u = some (q_ob 5 (pu_ob u w h c D z))) (hls : G (u + 1) = some (q_ra T 6 (w + h) f)) (hf : ∀ k, k < w + h → f k = some (u + 2 + 4 * k)) (hn : ∀ k, k < w + h → ∃ fi sr le cr S Q g j e, G (u + 2 + 4 * k) = some (q_ob 4 (li_ob (u + 2 + 4 * k) fi sr le cr (F k) S Q g j e))) (hwh : w + h ≤ 20) (hE : E (some (.int (nI (ln_sum F 0 (w + h))))) G sz) : ∀ (mZ : Nat) (k sm : Nat), mZ = w + h - k → (k ≤ w + h) → (sm = ln_sum F 0 k) → q_R T mX4_allRuns 0 0 4 [some (.ref u), some (.int (nI sm)), some (.int (nI k))] [] G sz 0 0 E := by
  intro mZ
  induction mZ using Nat.strongRecOn with | ind mZ ih => ?_
  intro k sm hm hk hsm
  refine q_iload_n dX4_allRuns_4 rfl ?_
  refine q_aload_n dX4_allRuns_5 rfl rfl ?_
  refine q_get dX4_allRuns_6 fl_X4_26 hu rfl ?_
  refine q_alen (t := 6) (v := nI (w + h)) dX4_allRuns_9 hls rfl rfl ?_
  refine n_icmp_ge (tgt := 31) dX4_allRuns_10 (by decide) (by omega) (by omega) (fun c10 => ?_) (fun c10 => ?_)
  · obtain rfl : k = w + h := by omega
    refine q_iload_n dX4_allRuns_31 rfl ?_
    exact q_ireturn dX4_allRuns_32 rfl rfl (by rw [hsm]; exact hE)
  · refine q_iload_n dX4_allRuns_13 rfl ?_
    refine q_aload_n dX4_allRuns_14 rfl rfl ?_
    refine q_get dX4_allRuns_15 fl_X4_26 hu rfl ?_
    refine q_iload_n dX4_allRuns_18 rfl ?_
    refine q_aaload (t := 6) (v := .ref (u + 2 + 4 * k)) dX4_allRuns_19 hls rfl rfl (by omega) (by omega) (congrArg va_rf (hf k (by omega))) ?_
    obtain ⟨fi, sr, le, cr, S, Q, g, j, e, hl⟩ := hn k (by omega)
    refine q_get dX4_allRuns_20 fl_X4_62 hl rfl ?_
    refine q_iadd dX4_allRuns_23 (nI_add _ _) ?_
    refine s_istore_n dX4_allRuns_24 (by decide) rfl ?_
    refine s_iinc dX4_allRuns_25 rfl (s_inc1 _) (by decide) rfl ?_
    refine q_goto (tgt := 4) dX4_allRuns_28 (by decide) ?_
    exact ih _ (by omega) (k + 1) _ rfl (by omega) (by rw [ln_sum_snoc, hsm, Nat.zero_add])

set_option maxHeartbeats 4000000 in
set_option maxRecDepth 100000 in
theorem c_X4_allRuns {T : q_T} {G : q_G} {sz u w h c D z : Nat} {f : Nat → Option Nat} {F : Nat → Nat} (hu : G u = some (q_ob 5 (pu_ob u w h c D z))) (hls : G (u + 1) = some (q_ra T 6 (w + h) f)) (hf : ∀ k, k < w + h → f k = some (u + 2 + 4 * k)) (hn : ∀ k, k < w + h → ∃ fi sr le cr S Q g j e, G (u + 2 + 4 * k) = some (q_ob 4 (li_ob (u + 2 + 4 * k) fi sr le cr (F k) S Q g j e))) (hwh : w + h ≤ 20) : q_C T mX4_allRuns 0 0 0 0 [.ref u] G sz (fun v G' sz' => v = some (.int (nI (ln_sum F 0 (w + h)))) ∧ G = G' ∧ sz = sz') := by
  refine q_C.of (by decide) rfl (by simp [Value.category]) (Nat.le_of_ble_eq_true rfl) ?_
  refine q_iconst (v := nI 0) dX4_allRuns_0 (by decide) ?_
  refine s_istore_n dX4_allRuns_1 (by decide) rfl ?_
  refine q_iconst (v := nI 0) dX4_allRuns_2 (by decide) ?_
  refine s_istore_n dX4_allRuns_3 (by decide) rfl ?_
  exact l_allRuns hu hls hf hn hwh ⟨rfl, rfl, rfl⟩ _ 0 0 rfl (Nat.zero_le _) rfl

def dc_n (S : Nat → Nat) (n : Nat) : Nat := ln_sum (fun x => if ln_pop (S x) = 1 then 1 else 0) 0 n
theorem dc_s (S : Nat → Nat) (n : Nat) : dc_n S (n + 1) = dc_n S n + if ln_pop (S n) = 1 then 1 else 0 := by
  unfold dc_n
  rw [ln_sum_snoc, Nat.zero_add]
theorem dc_le (S : Nat → Nat) : ∀ n, dc_n S n ≤ n
  | 0 => Nat.le_refl _
  | n + 1 => by
    rw [dc_s]
    have := dc_le S n
    split <;> omega
theorem dc_all (S : Nat → Nat) : ∀ n, dc_n S n = n ↔ ∀ x, x < n → ln_pop (S x) = 1
  | 0 => ⟨fun _ x hx => absurd hx (Nat.not_lt_zero _), fun _ => rfl⟩
  | n + 1 => by
    have ih := dc_all S n
    have hl := dc_le S n
    rw [dc_s]
    constructor
    · intro h x hx
      by_cases hp : ln_pop (S n) = 1
      · rw [if_pos hp] at h
        by_cases hxn : x = n
        · rw [hxn]; exact hp
        · exact ih.mp (by omega) x (by omega)
      · rw [if_neg hp] at h; omega
    · intro h
      rw [if_pos (h n (by omega)), ih.mpr (fun x hx => h x (by omega))]

set_option maxHeartbeats 4000000 in
set_option maxRecDepth 100000 in
theorem l_decided {T : q_T} {G : q_G} {sz u w h c D z : Nat} {b N : Nat} {S : Nat → Nat} {E : q_E} (hu : G u = some (q_ob 5 (pu_ob u w h c D z))) (hb : G b = some (q_ia T N (fun i => nI (S i)))) (hN1 : w * h ≤ N ∧ N ≤ 1000) (hS : ∀ x, x < w * h → S x < 16) (hE : E (some (.int (nI (dc_n S (w * h))))) G sz) : ∀ (mZ : Nat) (c0 sm : Nat), mZ = w * h - c0 → (c0 ≤ w * h) → (sm = dc_n S c0) → q_R T mX4_decidedCells 2 40 4 [some (.ref u), some (.ref b), some (.int (nI sm)), some (.int (nI c0))] [] G sz 0 0 E := by
  intro mZ
  induction mZ using Nat.strongRecOn with | ind mZ ih => ?_
  intro c0 sm hm hk hsm
  refine q_iload_n dX4_decidedCells_4 rfl ?_
  refine q_aload_n dX4_decidedCells_5 rfl rfl ?_
  refine q_get dX4_decidedCells_6 fl_X4_21 hu rfl ?_
  refine n_icmp_ge (tgt := 30) dX4_decidedCells_9 (by decide) (by omega) (by omega) (fun c9 => ?_) (fun c9 => ?_)
  · obtain rfl : c0 = w * h := by omega
    refine q_iload_n dX4_decidedCells_30 rfl ?_
    exact q_ireturn dX4_decidedCells_31 rfl rfl (by rw [hsm]; exact hE)
  · refine q_aload_n dX4_decidedCells_12 rfl rfl ?_
    refine q_iload_n dX4_decidedCells_13 rfl ?_
    refine w_ld dX4_decidedCells_14 hb rfl (by omega) (by omega) rfl ?_
    refine q_isN (As := [_]) dX4_decidedCells_15 mn_X4_65 mt_X8_isOne ms_X8_isOne rfl (Nat.le_of_ble_eq_true rfl) (Nat.le_of_ble_eq_true rfl) (Nat.zero_le _) (Nat.zero_le _) (Nat.le_of_ble_eq_true rfl) (q_C.mono (c_X8_isOne (hS c0 (by omega))) (fun v G1 sz1 hq => ?_))
    obtain ⟨⟨hq15, rfl⟩ | ⟨hq15, rfl⟩, rfl, rfl⟩ := hq
    · refine q_if_eq (tgt := 24) dX4_decidedCells_18 (by decide) (fun h => absurd h (by decide)) (fun _ => ?_)
      refine s_iinc dX4_decidedCells_21 rfl (s_inc1 _) (by decide) rfl ?_
      refine s_iinc dX4_decidedCells_24 rfl (s_inc1 _) (by decide) rfl ?_
      refine q_goto (tgt := 4) dX4_decidedCells_27 (by decide) ?_
      exact ih _ (by omega) (c0 + 1) _ rfl (by omega) (by rw [dc_s, hsm, if_pos hq15])
    · refine q_if_eq (tgt := 24) dX4_decidedCells_18 (by decide) (fun _ => ?_) (fun h => absurd h (by decide))
      refine s_iinc dX4_decidedCells_24 rfl (s_inc1 _) (by decide) rfl ?_
      refine q_goto (tgt := 4) dX4_decidedCells_27 (by decide) ?_
      exact ih _ (by omega) (c0 + 1) _ rfl (by omega) (by rw [dc_s, hsm, if_neg hq15, Nat.add_zero])

set_option maxHeartbeats 4000000 in
set_option maxRecDepth 100000 in
theorem c_X4_decidedCells {T : q_T} {G : q_G} {sz u w h c D z : Nat} {b N : Nat} {S : Nat → Nat} (hu : G u = some (q_ob 5 (pu_ob u w h c D z))) (hb : G b = some (q_ia T N (fun i => nI (S i)))) (hN1 : w * h ≤ N ∧ N ≤ 1000) (hS : ∀ x, x < w * h → S x < 16) : q_C T mX4_decidedCells 2 40 0 0 [.ref u, .ref b] G sz (fun v G' sz' => v = some (.int (nI (dc_n S (w * h)))) ∧ G = G' ∧ sz = sz') := by
  refine q_C.of (by decide) rfl (by simp [Value.category]) (Nat.le_of_ble_eq_true rfl) ?_
  refine q_iconst (v := nI 0) dX4_decidedCells_0 (by decide) ?_
  refine s_istore_n dX4_decidedCells_1 (by decide) rfl ?_
  refine q_iconst (v := nI 0) dX4_decidedCells_2 (by decide) ?_
  refine s_istore_n dX4_decidedCells_3 (by decide) rfl ?_
  exact l_decided hu hb hN1 hS ⟨rfl, rfl, rfl⟩ _ 0 0 rfl (Nat.zero_le _) rfl

theorem ev_i {n : Nat} (h : n ≤ 20) : nI (1 <<< n) - nI 1 = nI (1 <<< n - 1) := pk_sub (by rw [Nat.shiftLeft_eq, Nat.one_mul]; exact Nat.one_le_two_pow)
theorem ev_bit (n q : Nat) : (1 <<< n - 1).testBit q = decide (q < n) := by
  rw [Nat.shiftLeft_eq, Nat.one_mul, Nat.testBit_two_pow_sub_one]
theorem ev_lt {n : Nat} (h : n ≤ 20) : 1 <<< n - 1 < 2 ^ 20 := by
  rw [Nat.shiftLeft_eq, Nat.one_mul]
  have h1 : 2 ^ n ≤ 2 ^ 20 := Nat.pow_le_pow_right (by decide) h
  have h2 : 1 ≤ 2 ^ n := Nat.one_le_two_pow
  omega

set_option maxHeartbeats 4000000 in
set_option maxRecDepth 100000 in
theorem c_X4_everyLine {T : q_T} {G : q_G} {sz u w h c D z : Nat} {f : Nat → Option Nat} (hu : G u = some (q_ob 5 (pu_ob u w h c D z))) (hls : G (u + 1) = some (q_ra T 6 (w + h) f)) (hwh : w + h ≤ 20) : q_C T mX4_everyLine 0 0 0 0 [.ref u] G sz (fun v G' sz' => v = some (.int (nI (1 <<< (w + h) - 1))) ∧ G = G' ∧ sz = sz') := by
  refine q_C.of (by decide) rfl (by simp [Value.category]) (Nat.le_of_ble_eq_true rfl) ?_
  refine q_iconst (v := nI 1) dX4_everyLine_0 (by decide) ?_
  refine q_aload_n dX4_everyLine_1 rfl rfl ?_
  refine q_get dX4_everyLine_2 fl_X4_26 hu rfl ?_
  refine q_alen (t := 6) (v := nI (w + h)) dX4_everyLine_5 hls rfl rfl ?_
  refine q_ishl dX4_everyLine_6 (n_shl (by omega) rfl) ?_
  refine q_iconst (v := nI 1) dX4_everyLine_7 (by decide) ?_
  refine q_isub dX4_everyLine_8 (ev_i hwh) ?_
  exact q_ireturn dX4_everyLine_9 rfl rfl ⟨rfl, rfl, rfl⟩

def th_b (w h x : Nat) : Nat := 1 <<< (x / w) ||| 1 <<< (h + x - x / w * w)
theorem th_lt {w h x : Nat} (hw : 1 ≤ w ∧ w ≤ 10) (hh : h ≤ 10) (hx : x < w * h) : x / w < h ∧ h + x - x / w * w = h + x % w ∧ x % w < w := by
  have h1 : x / w < h := by rw [Nat.div_lt_iff_lt_mul (by omega), Nat.mul_comm]; exact hx
  have h2 := Nat.div_add_mod x w
  have h3 : w * (x / w) = x / w * w := Nat.mul_comm _ _
  have h4 := Nat.mod_lt x (show 0 < w by omega)
  exact ⟨h1, by omega, h4⟩
theorem th_bit {w h x : Nat} (hw : 1 ≤ w ∧ w ≤ 10) (hh : h ≤ 10) (hx : x < w * h) (q : Nat) : (th_b w h x).testBit q = decide (q = x / w ∨ q = h + x % w) := by
  obtain ⟨h1, h2, h3⟩ := th_lt hw hh hx
  unfold th_b
  rw [h2, Nat.testBit_or, Bt.one _ q, Bt.one _ q, Bool.eq_iff_iff]
  simp
theorem th_lt20 {w h x : Nat} (hw : 1 ≤ w ∧ w ≤ 10) (hh : h ≤ 10) (hx : x < w * h) : th_b w h x < 2 ^ 20 := by
  obtain ⟨h1, h2, h3⟩ := th_lt hw hh hx
  refine Nat.lt_pow_two_of_testBit _ (fun i hi => ?_)
  rw [th_bit hw hh hx]
  exact decide_eq_false (by omega)

set_option maxHeartbeats 4000000 in
set_option maxRecDepth 100000 in
theorem c_X4_linesThrough {T : q_T} {G : q_G} {sz u w h c D z : Nat} {x : Nat} (hu : G u = some (q_ob 5 (pu_ob u w h c D z))) (hw : 1 ≤ w ∧ w ≤ 10) (hh : h ≤ 10) (hx : x < w * h) : q_C T mX4_linesThrough 0 0 0 0 [.ref u, .int (nI x)] G sz (fun v G' sz' => v = some (.int (nI (th_b w h x))) ∧ G = G' ∧ sz = sz') := by
  refine q_C.of (by decide) rfl (by simp [Value.category]) (Nat.le_of_ble_eq_true rfl) ?_
  obtain ⟨t1, t2, t3⟩ := th_lt hw hh hx
  have hwh : w * h ≤ 10 * 10 := Nat.mul_le_mul hw.2 hh
  refine q_aload_n dX4_linesThrough_0 rfl rfl ?_
  refine q_get dX4_linesThrough_1 fl_X4_9 hu rfl ?_
  refine q_iconst (v := nI 1) dX4_linesThrough_4 (by decide) ?_
  refine n_icmp_ge (tgt := 12) dX4_linesThrough_5 (by decide) (by omega) (by omega) (fun c5 => ?_) (fun c5 => absurd c5 (by omega))
  refine q_iload_n dX4_linesThrough_12 rfl ?_
  refine q_aload_n dX4_linesThrough_13 rfl rfl ?_
  refine q_get dX4_linesThrough_14 fl_X4_9 hu rfl ?_
  refine q_idiv dX4_linesThrough_17 (nI_ne0 (by omega) (by omega)) (pk_div (by omega) (by omega) (by omega)) ?_
  refine s_istore_n dX4_linesThrough_18 (by decide) rfl ?_
  refine q_iconst (v := nI 1) dX4_linesThrough_19 (by decide) ?_
  refine q_iload_n dX4_linesThrough_20 rfl ?_
  refine q_ishl dX4_linesThrough_21 (n_shl (by omega) rfl) ?_
  refine q_iconst (v := nI 1) dX4_linesThrough_22 (by decide) ?_
  refine q_aload_n dX4_linesThrough_23 rfl rfl ?_
  refine q_get dX4_linesThrough_24 fl_X4_15 hu rfl ?_
  refine q_iload_n dX4_linesThrough_27 rfl ?_
  refine q_iadd dX4_linesThrough_28 (nI_add _ _) ?_
  refine q_iload_n dX4_linesThrough_29 rfl ?_
  refine q_aload_n dX4_linesThrough_30 rfl rfl ?_
  refine q_get dX4_linesThrough_31 fl_X4_9 hu rfl ?_
  refine q_imul dX4_linesThrough_34 (pk_mul _ _) ?_
  refine q_isub dX4_linesThrough_35 (pk_sub (Nat.le_trans (Nat.div_mul_le_self _ _) (Nat.le_add_left _ _))) ?_
  refine q_ishl dX4_linesThrough_36 (n_shl (by omega) rfl) ?_
  refine q_ior dX4_linesThrough_37 (n_or _ _) ?_
  exact q_ireturn dX4_linesThrough_38 rfl rfl ⟨rfl, rfl, rfl⟩

set_option maxHeartbeats 4000000 in
set_option maxRecDepth 100000 in
theorem c_X4_sourceOf {T : q_T} {G : q_G} {sz u w h c D z : Nat} {ln how : Nat} (hu : G u = some (q_ob 5 (pu_ob u w h c D z))) (hw : 1 ≤ w ∧ w ≤ 10) (hh : 1 ≤ h ∧ h ≤ 10) (hl : ln < w + h) (hho : how < 8) : q_C T mX4_sourceOf 0 0 0 0 [.ref u, .int (nI ln), .int (nI how)] G sz (fun v G' sz' => v = some (.int (nI (tn_src w h how ln))) ∧ G = G' ∧ sz = sz') := by
  refine q_C.of (by decide) rfl (by simp [Value.category]) (Nat.le_of_ble_eq_true rfl) ?_
  refine q_iload_n dX4_sourceOf_0 rfl ?_
  refine q_iconst (v := nI 4) dX4_sourceOf_1 (by decide) ?_
  refine q_iand dX4_sourceOf_2 (n_and _ _) ?_
  refine n_if_eq (tgt := 10) dX4_sourceOf_3 (by decide) (Nat.lt_of_le_of_lt Nat.and_le_left (by omega)) (fun c3 => ?_) (fun c3 => ?_)
  · refine q_iconst (v := nI 0) dX4_sourceOf_10 (by decide) ?_
    refine s_istore_n dX4_sourceOf_11 (by decide) rfl ?_
    refine q_iload_n dX4_sourceOf_12 rfl ?_
    refine q_if_eq (tgt := 23) dX4_sourceOf_13 (by decide) (fun _ => ?_) (fun h => absurd h (by decide))
    refine q_aload_n dX4_sourceOf_23 rfl rfl ?_
    refine q_get dX4_sourceOf_24 fl_X4_15 hu rfl ?_
    refine s_istore dX4_sourceOf_27 (by decide) rfl ?_
    refine q_iload_n dX4_sourceOf_29 rfl ?_
    refine q_iload dX4_sourceOf_30 rfl ?_
    refine n_icmp_ge (tgt := 39) dX4_sourceOf_32 (by decide) (by omega) (by omega) (fun c32 => ?_) (fun c32 => ?_)
    · refine q_iconst (v := nI 0) dX4_sourceOf_39 (by decide) ?_
      refine s_istore dX4_sourceOf_40 (by decide) rfl ?_
      refine q_iload dX4_sourceOf_42 rfl ?_
      refine q_if_eq (tgt := 51) dX4_sourceOf_44 (by decide) (fun _ => ?_) (fun h => absurd h (by decide))
      refine q_iload_n dX4_sourceOf_51 rfl ?_
      refine q_iload dX4_sourceOf_52 rfl ?_
      refine q_isub dX4_sourceOf_54 (pk_sub (by omega)) ?_
      refine s_istore dX4_sourceOf_55 (by decide) rfl ?_
      refine q_iload dX4_sourceOf_57 rfl ?_
      refine q_iload_n dX4_sourceOf_59 rfl ?_
      refine q_icmp_eq (tgt := 84) dX4_sourceOf_60 (by decide) (fun _ => ?_) (fun h => absurd h (by decide))
      refine q_aload_n dX4_sourceOf_84 rfl rfl ?_
      refine q_get dX4_sourceOf_85 fl_X4_15 hu rfl ?_
      refine q_iload_n dX4_sourceOf_88 rfl ?_
      refine q_iconst (v := nI 1) dX4_sourceOf_89 (by decide) ?_
      refine q_iand dX4_sourceOf_90 (n_and _ _) ?_
      refine n_if_eq (tgt := 106) dX4_sourceOf_91 (by decide) (Nat.lt_of_le_of_lt Nat.and_le_left (by omega)) (fun c91 => ?_) (fun c91 => ?_)
      · refine q_iload dX4_sourceOf_106 rfl ?_
        refine q_iadd dX4_sourceOf_108 (nI_add _ _) ?_
        exact q_ireturn dX4_sourceOf_109 rfl rfl ⟨congrArg (fun z => some (Value.int (nI z))) (by unfold tn_src; (repeat' split) <;> omega), rfl, rfl⟩
      · refine q_aload_n dX4_sourceOf_94 rfl rfl ?_
        refine q_get dX4_sourceOf_95 fl_X4_9 hu rfl ?_
        refine q_iconst (v := nI 1) dX4_sourceOf_98 (by decide) ?_
        refine q_isub dX4_sourceOf_99 (pk_sub (by omega)) ?_
        refine q_iload dX4_sourceOf_100 rfl ?_
        refine q_isub dX4_sourceOf_102 (pk_sub (by omega)) ?_
        refine q_goto (tgt := 108) dX4_sourceOf_103 (by decide) ?_
        refine q_iadd dX4_sourceOf_108 (nI_add _ _) ?_
        exact q_ireturn dX4_sourceOf_109 rfl rfl ⟨congrArg (fun z => some (Value.int (nI z))) (by unfold tn_src; (repeat' split) <;> omega), rfl, rfl⟩
    · refine q_iconst (v := nI 1) dX4_sourceOf_35 (by decide) ?_
      refine q_goto (tgt := 40) dX4_sourceOf_36 (by decide) ?_
      refine s_istore dX4_sourceOf_40 (by decide) rfl ?_
      refine q_iload dX4_sourceOf_42 rfl ?_
      refine q_if_eq (tgt := 51) dX4_sourceOf_44 (by decide) (fun h => absurd h (by decide)) (fun _ => ?_)
      refine q_iload_n dX4_sourceOf_47 rfl ?_
      refine q_goto (tgt := 55) dX4_sourceOf_48 (by decide) ?_
      refine s_istore dX4_sourceOf_55 (by decide) rfl ?_
      refine q_iload dX4_sourceOf_57 rfl ?_
      refine q_iload_n dX4_sourceOf_59 rfl ?_
      refine q_icmp_eq (tgt := 84) dX4_sourceOf_60 (by decide) (fun h => absurd h (by decide)) (fun _ => ?_)
      refine q_iload_n dX4_sourceOf_63 rfl ?_
      refine q_iconst (v := nI 2) dX4_sourceOf_64 (by decide) ?_
      refine q_iand dX4_sourceOf_65 (n_and _ _) ?_
      refine n_if_eq (tgt := 81) dX4_sourceOf_66 (by decide) (Nat.lt_of_le_of_lt Nat.and_le_left (by omega)) (fun c66 => ?_) (fun c66 => ?_)
      · refine q_iload dX4_sourceOf_81 rfl ?_
        exact q_ireturn dX4_sourceOf_83 rfl rfl ⟨congrArg (fun z => some (Value.int (nI z))) (by unfold tn_src; (repeat' split) <;> omega), rfl, rfl⟩
      · refine q_aload_n dX4_sourceOf_69 rfl rfl ?_
        refine q_get dX4_sourceOf_70 fl_X4_15 hu rfl ?_
        refine q_iconst (v := nI 1) dX4_sourceOf_73 (by decide) ?_
        refine q_isub dX4_sourceOf_74 (pk_sub (by omega)) ?_
        refine q_iload dX4_sourceOf_75 rfl ?_
        refine q_isub dX4_sourceOf_77 (pk_sub (by omega)) ?_
        refine q_goto (tgt := 83) dX4_sourceOf_78 (by decide) ?_
        exact q_ireturn dX4_sourceOf_83 rfl rfl ⟨congrArg (fun z => some (Value.int (nI z))) (by unfold tn_src; (repeat' split) <;> omega), rfl, rfl⟩
  · refine q_iconst (v := nI 1) dX4_sourceOf_6 (by decide) ?_
    refine q_goto (tgt := 11) dX4_sourceOf_7 (by decide) ?_
    refine s_istore_n dX4_sourceOf_11 (by decide) rfl ?_
    refine q_iload_n dX4_sourceOf_12 rfl ?_
    refine q_if_eq (tgt := 23) dX4_sourceOf_13 (by decide) (fun h => absurd h (by decide)) (fun _ => ?_)
    refine q_aload_n dX4_sourceOf_16 rfl rfl ?_
    refine q_get dX4_sourceOf_17 fl_X4_9 hu rfl ?_
    refine q_goto (tgt := 27) dX4_sourceOf_20 (by decide) ?_
    refine s_istore dX4_sourceOf_27 (by decide) rfl ?_
    refine q_iload_n dX4_sourceOf_29 rfl ?_
    refine q_iload dX4_sourceOf_30 rfl ?_
    refine n_icmp_ge (tgt := 39) dX4_sourceOf_32 (by decide) (by omega) (by omega) (fun c32 => ?_) (fun c32 => ?_)
    · refine q_iconst (v := nI 0) dX4_sourceOf_39 (by decide) ?_
      refine s_istore dX4_sourceOf_40 (by decide) rfl ?_
      refine q_iload dX4_sourceOf_42 rfl ?_
      refine q_if_eq (tgt := 51) dX4_sourceOf_44 (by decide) (fun _ => ?_) (fun h => absurd h (by decide))
      refine q_iload_n dX4_sourceOf_51 rfl ?_
      refine q_iload dX4_sourceOf_52 rfl ?_
      refine q_isub dX4_sourceOf_54 (pk_sub (by omega)) ?_
      refine s_istore dX4_sourceOf_55 (by decide) rfl ?_
      refine q_iload dX4_sourceOf_57 rfl ?_
      refine q_iload_n dX4_sourceOf_59 rfl ?_
      refine q_icmp_eq (tgt := 84) dX4_sourceOf_60 (by decide) (fun h => absurd h (by decide)) (fun _ => ?_)
      refine q_iload_n dX4_sourceOf_63 rfl ?_
      refine q_iconst (v := nI 2) dX4_sourceOf_64 (by decide) ?_
      refine q_iand dX4_sourceOf_65 (n_and _ _) ?_
      refine n_if_eq (tgt := 81) dX4_sourceOf_66 (by decide) (Nat.lt_of_le_of_lt Nat.and_le_left (by omega)) (fun c66 => ?_) (fun c66 => ?_)
      · refine q_iload dX4_sourceOf_81 rfl ?_
        exact q_ireturn dX4_sourceOf_83 rfl rfl ⟨congrArg (fun z => some (Value.int (nI z))) (by unfold tn_src; (repeat' split) <;> omega), rfl, rfl⟩
      · refine q_aload_n dX4_sourceOf_69 rfl rfl ?_
        refine q_get dX4_sourceOf_70 fl_X4_15 hu rfl ?_
        refine q_iconst (v := nI 1) dX4_sourceOf_73 (by decide) ?_
        refine q_isub dX4_sourceOf_74 (pk_sub (by omega)) ?_
        refine q_iload dX4_sourceOf_75 rfl ?_
        refine q_isub dX4_sourceOf_77 (pk_sub (by omega)) ?_
        refine q_goto (tgt := 83) dX4_sourceOf_78 (by decide) ?_
        exact q_ireturn dX4_sourceOf_83 rfl rfl ⟨congrArg (fun z => some (Value.int (nI z))) (by unfold tn_src; (repeat' split) <;> omega), rfl, rfl⟩
    · refine q_iconst (v := nI 1) dX4_sourceOf_35 (by decide) ?_
      refine q_goto (tgt := 40) dX4_sourceOf_36 (by decide) ?_
      refine s_istore dX4_sourceOf_40 (by decide) rfl ?_
      refine q_iload dX4_sourceOf_42 rfl ?_
      refine q_if_eq (tgt := 51) dX4_sourceOf_44 (by decide) (fun h => absurd h (by decide)) (fun _ => ?_)
      refine q_iload_n dX4_sourceOf_47 rfl ?_
      refine q_goto (tgt := 55) dX4_sourceOf_48 (by decide) ?_
      refine s_istore dX4_sourceOf_55 (by decide) rfl ?_
      refine q_iload dX4_sourceOf_57 rfl ?_
      refine q_iload_n dX4_sourceOf_59 rfl ?_
      refine q_icmp_eq (tgt := 84) dX4_sourceOf_60 (by decide) (fun _ => ?_) (fun h => absurd h (by decide))
      refine q_aload_n dX4_sourceOf_84 rfl rfl ?_
      refine q_get dX4_sourceOf_85 fl_X4_15 hu rfl ?_
      refine q_iload_n dX4_sourceOf_88 rfl ?_
      refine q_iconst (v := nI 1) dX4_sourceOf_89 (by decide) ?_
      refine q_iand dX4_sourceOf_90 (n_and _ _) ?_
      refine n_if_eq (tgt := 106) dX4_sourceOf_91 (by decide) (Nat.lt_of_le_of_lt Nat.and_le_left (by omega)) (fun c91 => ?_) (fun c91 => ?_)
      · refine q_iload dX4_sourceOf_106 rfl ?_
        refine q_iadd dX4_sourceOf_108 (nI_add _ _) ?_
        exact q_ireturn dX4_sourceOf_109 rfl rfl ⟨congrArg (fun z => some (Value.int (nI z))) (by unfold tn_src; (repeat' split) <;> omega), rfl, rfl⟩
      · refine q_aload_n dX4_sourceOf_94 rfl rfl ?_
        refine q_get dX4_sourceOf_95 fl_X4_9 hu rfl ?_
        refine q_iconst (v := nI 1) dX4_sourceOf_98 (by decide) ?_
        refine q_isub dX4_sourceOf_99 (pk_sub (by omega)) ?_
        refine q_iload dX4_sourceOf_100 rfl ?_
        refine q_isub dX4_sourceOf_102 (pk_sub (by omega)) ?_
        refine q_goto (tgt := 108) dX4_sourceOf_103 (by decide) ?_
        refine q_iadd dX4_sourceOf_108 (nI_add _ _) ?_
        exact q_ireturn dX4_sourceOf_109 rfl rfl ⟨congrArg (fun z => some (Value.int (nI z))) (by unfold tn_src; (repeat' split) <;> omega), rfl, rfl⟩

set_option maxHeartbeats 4000000 in
set_option maxRecDepth 100000 in
theorem c_X4_isBackwards {T : q_T} {G : q_G} {sz u w h c D z : Nat} {src how : Nat} (hu : G u = some (q_ob 5 (pu_ob u w h c D z))) (hh : 1 ≤ h ∧ h ≤ 10) (hl : src < 100) (hho : how < 8) : q_C T mX4_isBackwards 0 0 0 0 [.ref u, .int (nI src), .int (nI how)] G sz (fun v G' sz' => v = some (.int (nI (tn_rd h how src))) ∧ G = G' ∧ sz = sz') := by
  refine q_C.of (by decide) rfl (by simp [Value.category]) (Nat.le_of_ble_eq_true rfl) ?_
  refine q_iload_n dX4_isBackwards_0 rfl ?_
  refine q_iload_n dX4_isBackwards_1 rfl ?_
  refine q_aload_n dX4_isBackwards_2 rfl rfl ?_
  refine q_get dX4_isBackwards_3 fl_X4_15 hu rfl ?_
  refine n_icmp_ge (tgt := 13) dX4_isBackwards_6 (by decide) (by omega) (by omega) (fun c6 => ?_) (fun c6 => ?_)
  · refine q_iconst (v := nI 2) dX4_isBackwards_13 (by decide) ?_
    refine q_iand dX4_isBackwards_14 (n_and _ _) ?_
    refine n_if_eq (tgt := 22) dX4_isBackwards_15 (by decide) (Nat.lt_of_le_of_lt Nat.and_le_left (by omega)) (fun c15 => ?_) (fun c15 => ?_)
    · refine q_iconst (v := nI 0) dX4_isBackwards_22 (by decide) ?_
      exact q_ireturn dX4_isBackwards_23 rfl (by decide +kernel) ⟨congrArg (fun z => some (Value.int (nI z))) (by unfold tn_rd; (repeat' split) <;> omega), rfl, rfl⟩
    · refine q_iconst (v := nI 1) dX4_isBackwards_18 (by decide) ?_
      refine q_goto (tgt := 23) dX4_isBackwards_19 (by decide) ?_
      exact q_ireturn dX4_isBackwards_23 rfl (by decide +kernel) ⟨congrArg (fun z => some (Value.int (nI z))) (by unfold tn_rd; (repeat' split) <;> omega), rfl, rfl⟩
  · refine q_iconst (v := nI 1) dX4_isBackwards_9 (by decide) ?_
    refine q_goto (tgt := 14) dX4_isBackwards_10 (by decide) ?_
    refine q_iand dX4_isBackwards_14 (n_and _ _) ?_
    refine n_if_eq (tgt := 22) dX4_isBackwards_15 (by decide) (Nat.lt_of_le_of_lt Nat.and_le_left (by omega)) (fun c15 => ?_) (fun c15 => ?_)
    · refine q_iconst (v := nI 0) dX4_isBackwards_22 (by decide) ?_
      exact q_ireturn dX4_isBackwards_23 rfl (by decide +kernel) ⟨congrArg (fun z => some (Value.int (nI z))) (by unfold tn_rd; (repeat' split) <;> omega), rfl, rfl⟩
    · refine q_iconst (v := nI 1) dX4_isBackwards_18 (by decide) ?_
      refine q_goto (tgt := 23) dX4_isBackwards_19 (by decide) ?_
      exact q_ireturn dX4_isBackwards_23 rfl (by decide +kernel) ⟨congrArg (fun z => some (Value.int (nI z))) (by unfold tn_rd; (repeat' split) <;> omega), rfl, rfl⟩
