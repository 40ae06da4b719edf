set_option maxHeartbeats 4000000 in
set_option maxRecDepth 100000 in
theorem c_X8_puzzleAt {T : q_T} {G : q_G} {sz X a b : Nat} {pa : Nat → Nat} (hX : G X = some (q_ob 9 (rx_ob X a b))) (hc : cP T X a pa G) (hl : a ≤ 30) (x : Int32) : q_C T mX8_puzzleAt 0 0 0 0 [.ref X, .int x] G sz (fun v G' sz' => ((∃ p, p < a ∧ x = nI p ∧ v = some (.ref (pa p))) ∨ (¬ (∃ p, p < a ∧ x = nI p) ∧ v = some .null)) ∧ G = G' ∧ sz = sz') := by
  refine q_C.of (by decide) rfl (by simp [Value.category]) (Nat.le_of_ble_eq_true rfl) ?_
  obtain ⟨f, hP, hf⟩ := hc
  refine q_iload_n dX8_puzzleAt_0 rfl ?_
  refine q_if_lt (tgt := 12) dX8_puzzleAt_1 (by decide) (fun c1 => ?_) (fun c1 => ?_)
  · refine q_null dX8_puzzleAt_12 ?_
    refine q_goto (tgt := 22) dX8_puzzleAt_13 (by decide) ?_
    exact q_areturn dX8_puzzleAt_22 rfl (Or.inl ⟨_, rfl⟩) rfl ⟨Or.inr ⟨fun ⟨k2, h1, h2⟩ => absurd c1 (by rw [h2]; exact nI_pos (by omega)), rfl⟩, rfl, rfl⟩
  · obtain ⟨k, hk, rfl⟩ := nI_of c1
    refine q_iload_n dX8_puzzleAt_4 rfl ?_
    refine q_aload_n dX8_puzzleAt_5 rfl rfl ?_
    refine q_get dX8_puzzleAt_6 fl_X8_67 hX rfl ?_
    refine n_icmp_lt (tgt := 16) dX8_puzzleAt_9 (by decide) (by omega) (by omega) (fun c9 => ?_) (fun c9 => ?_)
    · refine q_aload_n dX8_puzzleAt_16 rfl rfl ?_
      refine q_get dX8_puzzleAt_17 fl_X8_11 hX rfl ?_
      refine q_iload_n dX8_puzzleAt_20 rfl ?_
      refine q_aaload (t := 3) (v := .ref (pa k)) dX8_puzzleAt_21 hP rfl rfl (by omega) (by omega) (congrArg va_rf (hf k (by omega))) ?_
      exact q_areturn dX8_puzzleAt_22 rfl (Or.inl ⟨_, rfl⟩) rfl ⟨Or.inl ⟨k, c9, rfl, rfl⟩, rfl, rfl⟩
    · refine q_null dX8_puzzleAt_12 ?_
      refine q_goto (tgt := 22) dX8_puzzleAt_13 (by decide) ?_
      exact q_areturn dX8_puzzleAt_22 rfl (Or.inl ⟨_, rfl⟩) rfl ⟨Or.inr ⟨fun ⟨k2, h1, h2⟩ => (by have := (nI_eq hk (by omega)).mp h2; omega), rfl⟩, rfl, rfl⟩

set_option maxHeartbeats 4000000 in
set_option maxRecDepth 100000 in
theorem c_X8_gameAt {T : q_T} {G : q_G} {sz X a b : Nat} {pa : Nat → Nat} (hX : G X = some (q_ob 9 (rx_ob X a b))) (hc : cG T X b pa G) (hl : b ≤ 20) (x : Int32) : q_C T mX8_gameAt 0 0 0 0 [.ref X, .int x] G sz (fun v G' sz' => ((∃ p, p < b ∧ x = nI p ∧ v = some (.ref (pa p))) ∨ (¬ (∃ p, p < b ∧ x = nI p) ∧ v = some .null)) ∧ G = G' ∧ sz = sz') := by
  refine q_C.of (by decide) rfl (by simp [Value.category]) (Nat.le_of_ble_eq_true rfl) ?_
  obtain ⟨f, hG, hf⟩ := hc
  refine q_iload_n dX8_gameAt_0 rfl ?_
  refine q_if_lt (tgt := 12) dX8_gameAt_1 (by decide) (fun c1 => ?_) (fun c1 => ?_)
  · refine q_null dX8_gameAt_12 ?_
    refine q_goto (tgt := 22) dX8_gameAt_13 (by decide) ?_
    exact q_areturn dX8_gameAt_22 rfl (Or.inl ⟨_, rfl⟩) rfl ⟨Or.inr ⟨fun ⟨k2, h1, h2⟩ => absurd c1 (by rw [h2]; exact nI_pos (by omega)), rfl⟩, rfl, rfl⟩
  · obtain ⟨k, hk, rfl⟩ := nI_of c1
    refine q_iload_n dX8_gameAt_4 rfl ?_
    refine q_aload_n dX8_gameAt_5 rfl rfl ?_
    refine q_get dX8_gameAt_6 fl_X8_71 hX rfl ?_
    refine n_icmp_lt (tgt := 16) dX8_gameAt_9 (by decide) (by omega) (by omega) (fun c9 => ?_) (fun c9 => ?_)
    · refine q_aload_n dX8_gameAt_16 rfl rfl ?_
      refine q_get dX8_gameAt_17 fl_X8_17 hX rfl ?_
      refine q_iload_n dX8_gameAt_20 rfl ?_
      refine q_aaload (t := 4) (v := .ref (pa k)) dX8_gameAt_21 hG rfl rfl (by omega) (by omega) (congrArg va_rf (hf k (by omega))) ?_
      exact q_areturn dX8_gameAt_22 rfl (Or.inl ⟨_, rfl⟩) rfl ⟨Or.inl ⟨k, c9, rfl, rfl⟩, rfl, rfl⟩
    · refine q_null dX8_gameAt_12 ?_
      refine q_goto (tgt := 22) dX8_gameAt_13 (by decide) ?_
      exact q_areturn dX8_gameAt_22 rfl (Or.inl ⟨_, rfl⟩) rfl ⟨Or.inr ⟨fun ⟨k2, h1, h2⟩ => (by have := (nI_eq hk (by omega)).mp h2; omega), rfl⟩, rfl, rfl⟩

set_option maxHeartbeats 4000000 in
set_option maxRecDepth 100000 in
theorem c_X8_lineAt_null {T : q_T} {G : q_G} {sz : Nat} (y : Int32) : q_C T mX8_lineAt 0 0 0 0 [.null, .int y] G sz (fun v G' sz' => v = some .null ∧ G = G' ∧ sz = sz') := by
  refine q_C.of (by decide) rfl (by simp [Value.category]) (Nat.le_of_ble_eq_true rfl) ?_
  refine q_aload_n dX8_lineAt_0 rfl rfl ?_
  refine q_ifnull (tgt := 17) dX8_lineAt_1 (by decide) rfl (fun _ => ?_) (fun h => absurd rfl h)
  refine q_null dX8_lineAt_17 ?_
  refine q_goto (tgt := 27) dX8_lineAt_18 (by decide) ?_
  exact q_areturn dX8_lineAt_27 rfl (Or.inl ⟨_, rfl⟩) rfl ⟨rfl, rfl, rfl⟩

set_option maxHeartbeats 4000000 in
set_option maxRecDepth 100000 in
theorem c_X8_lineAt {T : q_T} {G : q_G} {sz u w h c D z : Nat} {f : Nat → Option Nat} (hu : G u = some (q_ob 5 (pu_ob u w h c D z))) (hls : G (u + 1) = some (q_ra T 6 (w + h) f)) (hf : ∀ k, k < w + h → f k = some (u + 2 + 4 * k)) (hwh : w + h ≤ 20) (y : Int32) : q_C T mX8_lineAt 0 0 0 0 [.ref u, .int y] G sz (fun v G' sz' => ((∃ k, k < w + h ∧ y = nI k ∧ v = some (.ref (u + 2 + 4 * k))) ∨ (¬ (∃ k, k < w + h ∧ y = nI k) ∧ v = some .null)) ∧ G = G' ∧ sz = sz') := by
  refine q_C.of (by decide) rfl (by simp [Value.category]) (Nat.le_of_ble_eq_true rfl) ?_
  refine q_aload_n dX8_lineAt_0 rfl rfl ?_
  refine q_ifnull (tgt := 17) dX8_lineAt_1 (by decide) rfl (fun h => by cases h) (fun _ => ?_)
  refine q_iload_n dX8_lineAt_4 rfl ?_
  refine q_if_lt (tgt := 17) dX8_lineAt_5 (by decide) (fun c5 => ?_) (fun c5 => ?_)
  · refine q_null dX8_lineAt_17 ?_
    refine q_goto (tgt := 27) dX8_lineAt_18 (by decide) ?_
    exact q_areturn dX8_lineAt_27 rfl (Or.inl ⟨_, rfl⟩) rfl ⟨Or.inr ⟨fun ⟨k2, h1, h2⟩ => absurd c5 (by rw [h2]; exact nI_pos (by omega)), rfl⟩, rfl, rfl⟩
  · obtain ⟨k, hk, rfl⟩ := nI_of c5
    refine q_iload_n dX8_lineAt_8 rfl ?_
    refine q_aload_n dX8_lineAt_9 rfl rfl ?_
    refine q_get dX8_lineAt_10 fl_X8_190 hu rfl ?_
    refine q_alen (t := 6) (v := nI (w + h)) dX8_lineAt_13 hls rfl rfl ?_
    refine n_icmp_lt (tgt := 21) dX8_lineAt_14 (by decide) (by omega) (by omega) (fun c14 => ?_) (fun c14 => ?_)
    · refine q_aload_n dX8_lineAt_21 rfl rfl ?_
      refine q_get dX8_lineAt_22 fl_X8_190 hu rfl ?_
      refine q_iload_n dX8_lineAt_25 rfl ?_
      refine q_aaload (t := 6) (v := .ref (u + 2 + 4 * k)) dX8_lineAt_26 hls rfl rfl (by omega) (by omega) (congrArg va_rf (hf k (by omega))) ?_
      exact q_areturn dX8_lineAt_27 rfl (Or.inl ⟨_, rfl⟩) rfl ⟨Or.inl ⟨k, c14, rfl, rfl⟩, rfl, rfl⟩
    · refine q_null dX8_lineAt_17 ?_
      refine q_goto (tgt := 27) dX8_lineAt_18 (by decide) ?_
      exact q_areturn dX8_lineAt_27 rfl (Or.inl ⟨_, rfl⟩) rfl ⟨Or.inr ⟨fun ⟨k2, h1, h2⟩ => (by have := (nI_eq hk (by omega)).mp h2; omega), rfl⟩, rfl, rfl⟩

theorem nI_un {a b : Nat} (h : nI a = nI b) (ha : a < 2 ^ 31) (hb : b < 2 ^ 31) : a = b := (nI_eq ha hb).mp h
