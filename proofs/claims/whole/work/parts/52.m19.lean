/-- of the first c cells: the first one of those with the fewest, two at least, and how many -/
def pz_oc (S : Nat → Nat) : Nat → Option (Nat × Nat)
  | 0 => none
  | c + 1 => match pz_oc S c with
    | none => if 2 ≤ ln_pop (S c) then some (c, ln_pop (S c)) else none
    | some (b, n) => if 2 ≤ ln_pop (S c) ∧ ln_pop (S c) < n then some (c, ln_pop (S c)) else some (b, n)
theorem pz_oc_lt {S : Nat → Nat} : ∀ c b n, pz_oc S c = some (b, n) → b < c ∧ 2 ≤ n ∧ ln_pop (S b) = n := by
  intro c
  induction c with
  | zero => intro b n h; cases h
  | succ c ih =>
    intro b n h
    unfold pz_oc at h
    cases e : pz_oc S c with
    | none =>
      rw [e] at h
      dsimp only at h
      split at h
      · next g => cases h; exact ⟨by omega, g, rfl⟩
      · cases h
    | some z =>
      obtain ⟨b0, n0⟩ := z
      rw [e] at h
      dsimp only at h
      split at h
      · next g => cases h; exact ⟨by omega, g.1, rfl⟩
      · cases h; have := ih b n e; exact ⟨by omega, this.2⟩
theorem pz_oc_congr {S S' : Nat → Nat} : ∀ c, (∀ x, x < c → S x = S' x) → pz_oc S c = pz_oc S' c := by
  intro c
  induction c with
  | zero => intro _; rfl
  | succ c ih =>
    intro h
    unfold pz_oc
    rw [ih (fun x hx => h x (by omega)), h c (by omega)]
theorem pz_oc_none {S : Nat → Nat} : ∀ c, pz_oc S c = none → ∀ x, x < c → ln_pop (S x) < 2 := by
  intro c
  induction c with
  | zero => intro _ x hx; omega
  | succ c ih =>
    intro h x hx
    unfold pz_oc at h
    cases e : pz_oc S c with
    | none =>
      rw [e] at h
      dsimp only at h
      split at h
      · cases h
      · next g =>
        by_cases hc : x = c
        · subst hc; omega
        · exact ih e x (by omega)
    | some z =>
      obtain ⟨b0, n0⟩ := z
      rw [e] at h
      dsimp only at h
      split at h <;> cases h
def pz_best (o : Option (Nat × Nat)) : Int32 := match o with
  | none => -1
  | some (b, _) => nI b
def pz_least (o : Option (Nat × Nat)) : Nat := match o with
  | none => 5
  | some (_, n) => n
theorem pz_log_le (s : Nat) : pz_log s ≤ 3 := by
  unfold pz_log
  (repeat' split) <;> omega

set_option maxHeartbeats 4000000 in
set_option maxRecDepth 100000 in
theorem c_X9_sizeOfSet {T : q_T} {G : q_G} {sz : Nat} {x : Nat} (hx : x ≤ 100000) : q_C T mX9_sizeOfSet 0 0 0 0 [.int (nI x)] G sz (fun v G' sz' => v = some (.int (nI (ln_pop x))) ∧ G = G' ∧ sz = sz') := by
  refine q_C.of (by decide) rfl (by simp [Value.category]) (Nat.le_of_ble_eq_true rfl) ?_
  refine q_iconst (v := nI 0) dX9_sizeOfSet_0 (by decide) ?_
  refine s_istore_n dX9_sizeOfSet_1 (by decide) rfl ?_
  refine q_iconst (v := nI 0) dX9_sizeOfSet_2 (by decide) ?_
  refine s_istore_n dX9_sizeOfSet_3 (by decide) rfl ?_
  refine q_iload_n dX9_sizeOfSet_4 rfl ?_
  refine q_iconst (v := nI 4) dX9_sizeOfSet_5 (by decide) ?_
  refine q_icmp_ge (tgt := 23) dX9_sizeOfSet_6 (by decide) (fun h => absurd h (by decide)) (fun _ => ?_)
  refine q_iload_n dX9_sizeOfSet_9 rfl ?_
  refine q_iload_n dX9_sizeOfSet_10 rfl ?_
  refine q_iload_n dX9_sizeOfSet_11 rfl ?_
  refine q_ishr dX9_sizeOfSet_12 (n_shr (by omega) (by decide)) ?_
  refine q_iconst (v := nI 1) dX9_sizeOfSet_13 (by decide) ?_
  refine q_iand dX9_sizeOfSet_14 (n_and _ _) ?_
  refine q_iadd dX9_sizeOfSet_15 (nI_add _ _) ?_
  refine s_istore_n dX9_sizeOfSet_16 (by decide) rfl ?_
  refine s_iinc dX9_sizeOfSet_17 rfl (s_inc1 _) (by decide) rfl ?_
  refine q_goto (tgt := 4) dX9_sizeOfSet_20 (by decide) ?_
  refine q_iload_n dX9_sizeOfSet_4 rfl ?_
  refine q_iconst (v := nI 4) dX9_sizeOfSet_5 (by decide) ?_
  refine q_icmp_ge (tgt := 23) dX9_sizeOfSet_6 (by decide) (fun h => absurd h (by decide)) (fun _ => ?_)
  refine q_iload_n dX9_sizeOfSet_9 rfl ?_
  refine q_iload_n dX9_sizeOfSet_10 rfl ?_
  refine q_iload_n dX9_sizeOfSet_11 rfl ?_
  refine q_ishr dX9_sizeOfSet_12 (n_shr (by omega) (by decide)) ?_
  refine q_iconst (v := nI 1) dX9_sizeOfSet_13 (by decide) ?_
  refine q_iand dX9_sizeOfSet_14 (n_and _ _) ?_
  refine q_iadd dX9_sizeOfSet_15 (nI_add _ _) ?_
  refine s_istore_n dX9_sizeOfSet_16 (by decide) rfl ?_
  refine s_iinc dX9_sizeOfSet_17 rfl (s_inc1 _) (by decide) rfl ?_
  refine q_goto (tgt := 4) dX9_sizeOfSet_20 (by decide) ?_
  refine q_iload_n dX9_sizeOfSet_4 rfl ?_
  refine q_iconst (v := nI 4) dX9_sizeOfSet_5 (by decide) ?_
  refine q_icmp_ge (tgt := 23) dX9_sizeOfSet_6 (by decide) (fun h => absurd h (by decide)) (fun _ => ?_)
  refine q_iload_n dX9_sizeOfSet_9 rfl ?_
  refine q_iload_n dX9_sizeOfSet_10 rfl ?_
  refine q_iload_n dX9_sizeOfSet_11 rfl ?_
  refine q_ishr dX9_sizeOfSet_12 (n_shr (by omega) (by decide)) ?_
  refine q_iconst (v := nI 1) dX9_sizeOfSet_13 (by decide) ?_
  refine q_iand dX9_sizeOfSet_14 (n_and _ _) ?_
  refine q_iadd dX9_sizeOfSet_15 (nI_add _ _) ?_
  refine s_istore_n dX9_sizeOfSet_16 (by decide) rfl ?_
  refine s_iinc dX9_sizeOfSet_17 rfl (s_inc1 _) (by decide) rfl ?_
  refine q_goto (tgt := 4) dX9_sizeOfSet_20 (by decide) ?_
  refine q_iload_n dX9_sizeOfSet_4 rfl ?_
  refine q_iconst (v := nI 4) dX9_sizeOfSet_5 (by decide) ?_
  refine q_icmp_ge (tgt := 23) dX9_sizeOfSet_6 (by decide) (fun h => absurd h (by decide)) (fun _ => ?_)
  refine q_iload_n dX9_sizeOfSet_9 rfl ?_
  refine q_iload_n dX9_sizeOfSet_10 rfl ?_
  refine q_iload_n dX9_sizeOfSet_11 rfl ?_
  refine q_ishr dX9_sizeOfSet_12 (n_shr (by omega) (by decide)) ?_
  refine q_iconst (v := nI 1) dX9_sizeOfSet_13 (by decide) ?_
  refine q_iand dX9_sizeOfSet_14 (n_and _ _) ?_
  refine q_iadd dX9_sizeOfSet_15 (nI_add _ _) ?_
  refine s_istore_n dX9_sizeOfSet_16 (by decide) rfl ?_
  refine s_iinc dX9_sizeOfSet_17 rfl (s_inc1 _) (by decide) rfl ?_
  refine q_goto (tgt := 4) dX9_sizeOfSet_20 (by decide) ?_
  refine q_iload_n dX9_sizeOfSet_4 rfl ?_
  refine q_iconst (v := nI 4) dX9_sizeOfSet_5 (by decide) ?_
  refine q_icmp_ge (tgt := 23) dX9_sizeOfSet_6 (by decide) (fun _ => ?_) (fun h => absurd h (by decide))
  refine q_iload_n dX9_sizeOfSet_23 rfl ?_
  exact q_ireturn dX9_sizeOfSet_24 rfl rfl ⟨congrArg (fun z => some (Value.int (nI z))) (by show 0 + (x >>> 0 &&& 1) + (x >>> 1 &&& 1) + (x >>> 2 &&& 1) + (x >>> 3 &&& 1) = ln_pop x; unfold ln_pop; omega), rfl, rfl⟩

set_option maxHeartbeats 4000000 in
set_option maxRecDepth 100000 in
theorem l_X9_openCell {T : q_T} {m : Nat} {G0 G : q_G} {I : md_I} {A : md_A} {sz : Nat} {p o : Nat} (hM : Mod T m G0 I A G) (hz : Pz A p) (ho : o + 100 ≤ 10400) (hs : Ps A p (fun x => A 10 (o + x))) : ∀ (c : Nat) (_ : Unit), ∀ x6 : Option Value, c ≤ A 1 p * A 2 p → q_R T mX9_openCell 1 22 8 [some (.ref m), some (.int (nI p)), some (.int (nI o)), some (.int (pz_best (pz_oc (fun x => A 10 (o + x)) c))), some (.int (nI (pz_least (pz_oc (fun x => A 10 (o + x)) c)))), some (.int (nI c)), x6] [] G sz 0 0 (fun v G' sz' => v = some (.int (pz_best (pz_oc (fun x => A 10 (o + x)) (A 1 p * A 2 p)))) ∧ G = G' ∧ sz = sz') := by
  refine q_indN (fun c _ => A 1 p * A 2 p - c) _ (fun c _ ih => ?_)
  intro x6 hc
  have hsz := pz_size hz
  refine q_iload dX9_openCell_8 rfl ?_
  refine q_aload_n dX9_openCell_10 rfl rfl ?_
  refine q_iload_n dX9_openCell_11 rfl ?_
  refine q_iv (As := [_]) dX9_openCell_12 ml_X9_108 mt_X9_sizeOf mi_X9_sizeOf se_X9_sizeOf hM.1 rfl rfl (Nat.le_of_ble_eq_true rfl) (Nat.le_of_ble_eq_true rfl) (Nat.zero_le _) (Nat.zero_le _) (Nat.le_of_ble_eq_true rfl) (q_C.mono (c_X9_sizeOf (w := A 1 p) (h := A 2 p) hM hz.1 rfl rfl) (fun v G1 sz1 hq => ?_))
  obtain ⟨rfl, rfl, rfl⟩ := hq
  refine n_icmp_ge (tgt := 61) dX9_openCell_15 (by decide) (by omega) (by omega) (fun c15 => ?_) (fun c15 => ?_)
  · obtain rfl : c = A 1 p * A 2 p := by omega
    refine q_iload_n dX9_openCell_61 rfl ?_
    exact q_ireturn dX9_openCell_62 rfl rfl ⟨rfl, rfl, rfl⟩
  · have hp4 : ln_pop (A 10 (o + c)) ≤ 4 := ln_pop_le (hs c c15)
    have hl5 : pz_least (pz_oc (fun x => A 10 (o + x)) c) ≤ 5 := by cases e : pz_oc (fun x => A 10 (o + x)) c with | none => exact Nat.le_refl _ | some z => obtain ⟨b, n⟩ := z; have h9 := pz_oc_lt c b n e; have h8 := ln_pop_le (hs b (by omega)); show n ≤ 5; rw [← h9.2.2]; exact Nat.le_trans h8 (by decide)
    refine q_aload_n dX9_openCell_18 rfl rfl ?_
    refine q_mga 10 10 dX9_openCell_19 hM fl_X9_38 rfl ?_
    refine q_iload_n dX9_openCell_22 rfl ?_
    refine q_iload dX9_openCell_23 rfl ?_
    refine q_iadd dX9_openCell_25 (nI_add _ _) ?_
    refine q_mld (k := 10) (v := nI (A 10 (o + c))) dX9_openCell_26 hM (by decide) rfl (show _ < (10400 : Nat) by omega) rfl (fun b26 => ?_)
    refine q_is (As := [_]) dX9_openCell_27 ml_X9_166 mt_X9_sizeOfSet ms_X9_sizeOfSet rfl (Nat.le_of_ble_eq_true rfl) (Nat.le_of_ble_eq_true rfl) (Nat.zero_le _) (Nat.zero_le _) (Nat.le_of_ble_eq_true rfl) (q_C.mono (c_X9_sizeOfSet (by omega)) (fun v G1 sz1 hq => ?_))
    obtain ⟨rfl, rfl, rfl⟩ := hq
    refine s_istore dX9_openCell_30 (by decide) rfl ?_
    refine q_iload dX9_openCell_32 rfl ?_
    refine q_iconst (v := nI 2) dX9_openCell_34 (by decide) ?_
    refine n_icmp_lt (tgt := 55) dX9_openCell_35 (by decide) (by omega) (by omega) (fun c35 => ?_) (fun c35 => ?_)
    · have hnot : ¬ (2 ≤ ln_pop (A 10 (o + c)) ∧ ln_pop (A 10 (o + c)) < pz_least (pz_oc (fun x => A 10 (o + x)) c)) := fun g => by omega
      refine s_iinc dX9_openCell_55 rfl (s_inc1 _) (by decide) rfl ?_
      refine q_goto (tgt := 8) dX9_openCell_58 (by decide) ?_
      have hsk : pz_oc (fun x => A 10 (o + x)) (c + 1) = pz_oc (fun x => A 10 (o + x)) c := by
        show (match pz_oc (fun x => A 10 (o + x)) c with | none => _ | some (b, n) => _) = _
        cases e : pz_oc (fun x => A 10 (o + x)) c with
        | none => dsimp only; rw [if_neg]; intro g; have g : 2 ≤ ln_pop (A 10 (o + c)) := g; rw [e] at hnot; have hnot : ¬ (2 ≤ ln_pop (A 10 (o + c)) ∧ ln_pop (A 10 (o + c)) < 5) := hnot; omega
        | some z => obtain ⟨b, n⟩ := z; dsimp only; rw [if_neg]; rw [e] at hnot; exact hnot
      have hgo := ih (c + 1) () (by omega) (some (.int (nI (ln_pop (A 10 (o + c)))))) (by omega)
      rw [hsk] at hgo
      exact hgo
    · refine q_iload dX9_openCell_38 rfl ?_
      refine q_iload dX9_openCell_40 rfl ?_
      refine n_icmp_lt (tgt := 48) dX9_openCell_42 (by decide) (by omega) (by omega) (fun c42 => ?_) (fun c42 => ?_)
      · refine q_iload dX9_openCell_48 rfl ?_
        refine s_istore_n dX9_openCell_50 (by decide) rfl ?_
        refine q_iload dX9_openCell_51 rfl ?_
        refine s_istore dX9_openCell_53 (by decide) rfl ?_
        refine s_iinc dX9_openCell_55 rfl (s_inc1 _) (by decide) rfl ?_
        refine q_goto (tgt := 8) dX9_openCell_58 (by decide) ?_
        have htk : pz_oc (fun x => A 10 (o + x)) (c + 1) = some (c, ln_pop (A 10 (o + c))) := by
          show (match pz_oc (fun x => A 10 (o + x)) c with | none => _ | some (b, n) => _) = _
          cases e : pz_oc (fun x => A 10 (o + x)) c with
          | none => dsimp only; exact if_pos c35
          | some z => obtain ⟨b, n⟩ := z; dsimp only; rw [e] at c42; exact if_pos ⟨c35, c42⟩
        have hgo := ih (c + 1) () (by omega) (some (.int (nI (ln_pop (A 10 (o + c)))))) (by omega)
        rw [htk] at hgo
        exact hgo
      · refine q_goto (tgt := 55) dX9_openCell_45 (by decide) ?_
        have hnot : ¬ (2 ≤ ln_pop (A 10 (o + c)) ∧ ln_pop (A 10 (o + c)) < pz_least (pz_oc (fun x => A 10 (o + x)) c)) := fun g => by omega
        refine s_iinc dX9_openCell_55 rfl (s_inc1 _) (by decide) rfl ?_
        refine q_goto (tgt := 8) dX9_openCell_58 (by decide) ?_
        have hsk : pz_oc (fun x => A 10 (o + x)) (c + 1) = pz_oc (fun x => A 10 (o + x)) c := by
          show (match pz_oc (fun x => A 10 (o + x)) c with | none => _ | some (b, n) => _) = _
          cases e : pz_oc (fun x => A 10 (o + x)) c with
          | none => dsimp only; rw [if_neg]; intro g; have g : 2 ≤ ln_pop (A 10 (o + c)) := g; rw [e] at hnot; have hnot : ¬ (2 ≤ ln_pop (A 10 (o + c)) ∧ ln_pop (A 10 (o + c)) < 5) := hnot; omega
          | some z => obtain ⟨b, n⟩ := z; dsimp only; rw [if_neg]; rw [e] at hnot; exact hnot
        have hgo := ih (c + 1) () (by omega) (some (.int (nI (ln_pop (A 10 (o + c)))))) (by omega)
        rw [hsk] at hgo
        exact hgo

set_option maxHeartbeats 4000000 in
set_option maxRecDepth 100000 in
theorem c_X9_openCell {T : q_T} {m : Nat} {G0 G : q_G} {I : md_I} {A : md_A} {sz : Nat} (hM : Mod T m G0 I A G) {p o : Nat} (hz : Pz A p) (ho : o + 100 ≤ 10400) (hs : Ps A p (fun x => A 10 (o + x))) : q_C T mX9_openCell 1 22 0 0 [.ref m, .int (nI p), .int (nI o)] G sz (fun v G' sz' => v = some (.int (pz_best (pz_oc (fun x => A 10 (o + x)) (A 1 p * A 2 p)))) ∧ G = G' ∧ sz = sz') := by
  refine q_C.of (by decide) rfl (by simp [Value.category]) (Nat.le_of_ble_eq_true rfl) ?_
  refine q_iconst (v := -1) dX9_openCell_0 (by decide) ?_
  refine s_istore_n dX9_openCell_1 (by decide) rfl ?_
  refine q_iconst (v := nI 5) dX9_openCell_2 (by decide) ?_
  refine s_istore dX9_openCell_3 (by decide) rfl ?_
  refine q_iconst (v := nI 0) dX9_openCell_5 (by decide) ?_
  refine s_istore dX9_openCell_6 (by decide) rfl ?_
  exact l_X9_openCell hM hz ho hs 0 () _ (Nat.zero_le _)
