theorem lw_stop {L t : Nat} (h5 : 5 * t ≤ L) (hL : L ≤ 2560) : nI L - nI 5 < nI (5 * t) ↔ L < 5 * t + 5 := by
  by_cases h : 5 ≤ L
  · rw [pk_sub h, Int32.lt_iff_toInt_lt, nI_toInt (by omega), nI_toInt (by omega)]; omega
  · have key : ∀ L, L < 5 → nI L - nI 5 < nI (5 * 0) := by decide +kernel
    obtain rfl : t = 0 := by omega
    exact ⟨fun _ => by omega, fun _ => key L (by omega)⟩

set_option maxHeartbeats 4000000 in
set_option maxRecDepth 100000 in
theorem lw_loop {T : q_T} {X b L : Nat} {xs : Nat → Int32} {E : q_E} (hD : Dig T) (hXs : T.2.2.2.2.1 b = some (.int, L, xs)) (hL : L ≤ 2560) (hE : ∀ G sz, E (some (.int (nI 1))) G sz) : ∀ (n t sz bc bs : Nat) (I : md_I) (A : md_A) (G : q_G), n + t = 512 → 5 * t ≤ L → 202 * n ≤ bc → 10403 * n ≤ bs → LW T X t I A G sz → q_R T mL_law 11 406 18 [some (.ref b), some (.ref X), some (.ref (X + 18)), some (.int (nI (5 * t)))] [] G sz bc bs E := by
  intro n
  induction n with
  | zero =>
    intro t sz bc bs I A G hn h5 hb1 hb2 hW
    refine q_iload_n dL_law_18 rfl ?_
    refine q_aload_n dL_law_19 rfl rfl ?_
    refine q_falen dL_law_20 hXs rfl ?_
    refine q_iconst (v := nI 5) dL_law_21 (by decide) ?_
    refine q_isub dL_law_22 rfl ?_
    refine q_icmp_gt (tgt := 1154) dL_law_23 (by decide) (fun _ => ?_) (fun h => absurd ((lw_stop h5 hL).mpr (by omega)) h)
    refine q_iconst (v := nI 1) dL_law_1154 (by decide) ?_
    exact q_ireturn dL_law_1155 rfl (by decide +kernel) (hE _ _)
  | succ n ih =>
    intro t sz bc bs I A G hn h5 hb1 hb2 hW
    refine q_iload_n dL_law_18 rfl ?_
    refine q_aload_n dL_law_19 rfl rfl ?_
    refine q_falen dL_law_20 hXs rfl ?_
    refine q_iconst (v := nI 5) dL_law_21 (by decide) ?_
    refine q_isub dL_law_22 rfl ?_
    refine q_icmp_gt (tgt := 1154) dL_law_23 (by decide) (fun _ => ?_) (fun hgo => ?_)
    · refine q_iconst (v := nI 1) dL_law_1154 (by decide) ?_
      exact q_ireturn dL_law_1155 rfl (by decide +kernel) (hE _ _)
    have hk : 5 * t + 5 ≤ L := Nat.le_of_not_lt (fun h => hgo ((lw_stop h5 hL).mpr h))
    have ht : t < 512 := by omega
    have h1 : 202 ≤ bc := by omega
    have h2 : 10403 ≤ bs := by omega
    have hx : ∀ (I2 : md_I) (A2 : md_A) (G2 : q_G) (sz2 : Nat), LW T X (t + 1) I2 A2 G2 sz2 → q_R T mL_law 11 406 1148 [some (.ref b), some (.ref X), some (.ref (X + 18)), some (.int (nI (5 * t)))] [] G2 sz2 (bc - 202) (bs - 10403) E := fun I2 A2 G2 sz2 hW2 => by
      refine s_iinc (v := nI (5 * (t + 1))) dL_law_1148 rfl (by rw [show 5 * (t + 1) = 5 * t + 5 by omega]; exact nI_add _ 5) (by decide) rfl ?_
      refine q_goto (tgt := 18) dL_law_1151 (by decide) ?_
      exact ih (t + 1) sz2 (bc - 202) (bs - 10403) I2 A2 G2 (by omega) (by omega) (by omega) (by omega) hW2
    refine q_aload_n dL_law_26 rfl rfl ?_
    refine q_iload_n dL_law_27 rfl ?_
    refine q_fiaload (k := 5 * t) dL_law_28 hXs rfl (by omega) (by omega) rfl ?_
    refine q_bipush (v := nI 31) dL_law_29 (by decide) ?_
    obtain ⟨j, hj, ej⟩ := pk_andE (xs (5 * t)) (m := nI 31) 5 (by decide)
    refine q_iand dL_law_31 ej ?_
    have hj : j < 32 := hj
    rcases (show j = 0 ∨ j = 1 ∨ j = 2 ∨ j = 3 ∨ j = 4 ∨ j = 5 ∨ j = 6 ∨ j = 7 ∨ j = 8 ∨ j = 9 ∨ j = 10 ∨ j = 11 ∨ j = 12 ∨ j = 13 ∨ j = 14 ∨ j = 15 ∨ j = 16 ∨ j = 17 ∨ j = 18 ∨ j = 19 ∨ j = 20 ∨ j = 21 ∨ j = 22 ∨ j = 23 ∨ j = 24 ∨ j = 25 ∨ j = 26 ∨ j = 27 ∨ j = 28 ∨ j = 29 ∨ j = 30 ∨ j = 31 by omega) with rfl | rfl | rfl | rfl | rfl | rfl | rfl | rfl | rfl | rfl | rfl | rfl | rfl | rfl | rfl | rfl | rfl | rfl | rfl | rfl | rfl | rfl | rfl | rfl | rfl | rfl | rfl | rfl | rfl | rfl | rfl | rfl
    · exact q_tableIn (off := 136) (tgt := 168) dL_law_32 (by decide) (by decide) (by decide) (by decide) (lc_puzzle hW ht hD hXs hk hL h1 h2 hx)
    · exact q_tableIn (off := 179) (tgt := 211) dL_law_32 (by decide) (by decide) (by decide) (by decide) (lc_run hW ht hD hXs hk hL h1 h2 hx)
    · exact q_tableIn (off := 232) (tgt := 264) dL_law_32 (by decide) (by decide) (by decide) (by decide) (lc_told hW ht hD hXs hk hL h1 h2 hx)
    · exact q_tableIn (off := 265) (tgt := 297) dL_law_32 (by decide) (by decide) (by decide) (by decide) (lc_clue hW ht hD hXs hk hL h1 h2 hx)
    · exact q_tableIn (off := 318) (tgt := 350) dL_law_32 (by decide) (by decide) (by decide) (by decide) (lc_fresh hW ht hD hXs hk hL h1 h2 hx)
    · exact q_tableIn (off := 341) (tgt := 373) dL_law_32 (by decide) (by decide) (by decide) (by decide) (lc_choose hW ht hD hXs hk hL h1 h2 hx)
    · exact q_tableIn (off := 384) (tgt := 416) dL_law_32 (by decide) (by decide) (by decide) (by decide) (lc_bar hW ht hD hXs hk hL h1 h2 hx)
    · exact q_tableIn (off := 427) (tgt := 459) dL_law_32 (by decide) (by decide) (by decide) (by decide) (lc_set hW ht hD hXs hk hL h1 h2 hx)
    · exact q_tableIn (off := 460) (tgt := 492) dL_law_32 (by decide) (by decide) (by decide) (by decide) (lc_step hW ht hD hXs hk hL h1 h2 hx)
    · exact q_tableIn (off := 493) (tgt := 525) dL_law_32 (by decide) (by decide) (by decide) (by decide) (lc_ways hW ht hD hXs hk hL h1 h2 hx)
    · exact q_tableIn (off := 526) (tgt := 558) dL_law_32 (by decide) (by decide) (by decide) (by decide) (lc_settle hW ht hD hXs hk hL h1 h2 hx)
    · exact q_tableIn (off := 549) (tgt := 581) dL_law_32 (by decide) (by decide) (by decide) (by decide) (lc_search hW ht hD hXs hk hL h1 h2 hx)
    · exact q_tableIn (off := 592) (tgt := 624) dL_law_32 (by decide) (by decide) (by decide) (by decide) (lc_found hW ht hD hXs hk hL h1 h2 hx)
    · exact q_tableIn (off := 615) (tgt := 647) dL_law_32 (by decide) (by decide) (by decide) (by decide) (lc_picture hW ht hD hXs hk hL h1 h2 hx)
    · exact q_tableIn (off := 648) (tgt := 680) dL_law_32 (by decide) (by decide) (by decide) (by decide) (lc_grade hW ht hD hXs hk hL h1 h2 hx)
    · exact q_tableIn (off := 671) (tgt := 703) dL_law_32 (by decide) (by decide) (by decide) (by decide) (lc_probes hW ht hD hXs hk hL h1 h2 hx)
    · exact q_tableIn (off := 684) (tgt := 716) dL_law_32 (by decide) (by decide) (by decide) (by decide) (lc_paint hW ht hD hXs hk hL h1 h2 hx)
    · exact q_tableIn (off := 727) (tgt := 759) dL_law_32 (by decide) (by decide) (by decide) (by decide) (lc_make hW ht hD hXs hk hL h1 h2 hx)
    · exact q_tableIn (off := 770) (tgt := 802) dL_law_32 (by decide) (by decide) (by decide) (by decide) (lc_turn hW ht hD hXs hk hL h1 h2 hx)
    · exact q_tableIn (off := 803) (tgt := 835) dL_law_32 (by decide) (by decide) (by decide) (by decide) (lc_same hW ht hD hXs hk hL h1 h2 hx)
    · exact q_tableIn (off := 836) (tgt := 868) dL_law_32 (by decide) (by decide) (by decide) (by decide) (lc_game hW ht hD hXs hk hL h1 h2 hx)
    · exact q_tableIn (off := 859) (tgt := 891) dL_law_32 (by decide) (by decide) (by decide) (by decide) (lc_mark hW ht hD hXs hk hL h1 h2 hx)
    · exact q_tableIn (off := 902) (tgt := 934) dL_law_32 (by decide) (by decide) (by decide) (by decide) (lc_marked hW ht hD hXs hk hL h1 h2 hx)
    · exact q_tableIn (off := 935) (tgt := 967) dL_law_32 (by decide) (by decide) (by decide) (by decide) (lc_undo hW ht hD hXs hk hL h1 h2 hx)
    · exact q_tableIn (off := 958) (tgt := 990) dL_law_32 (by decide) (by decide) (by decide) (by decide) (lc_redo hW ht hD hXs hk hL h1 h2 hx)
    · exact q_tableIn (off := 981) (tgt := 1013) dL_law_32 (by decide) (by decide) (by decide) (by decide) (lc_hint hW ht hD hXs hk hL h1 h2 hx)
    · exact q_tableIn (off := 1004) (tgt := 1036) dL_law_32 (by decide) (by decide) (by decide) (by decide) (lc_state hW ht hD hXs hk hL h1 h2 hx)
    · exact q_tableIn (off := 1037) (tgt := 1069) dL_law_32 (by decide) (by decide) (by decide) (by decide) (lc_write hW ht hD hXs hk hL h1 h2 hx)
    · exact q_tableIn (off := 1070) (tgt := 1102) dL_law_32 (by decide) (by decide) (by decide) (by decide) (lc_out hW ht hD hXs hk hL h1 h2 hx)
    · exact q_tableIn (off := 1093) (tgt := 1125) dL_law_32 (by decide) (by decide) (by decide) (by decide) (lc_count hW ht hD hXs hk hL h1 h2 hx)
    · exact q_tableOut (tgt := 1148) dL_law_32 (by decide) (by decide) (q_R.less (hx _ _ _ _ ⟨hW.1, hW.2.1, hW.2.2.more ht⟩) (by omega) (by omega))
    · exact q_tableOut (tgt := 1148) dL_law_32 (by decide) (by decide) (q_R.less (hx _ _ _ _ ⟨hW.1, hW.2.1, hW.2.2.more ht⟩) (by omega) (by omega))

set_option maxHeartbeats 4000000 in
set_option maxRecDepth 100000 in
theorem lw_begin {T : q_T} {b L sz bc bs : Nat} {G : q_G} {xs : Nat → Int32} {E : q_E} (hD : Dig T) (hXs : T.2.2.2.2.1 b = some (.int, L, xs)) (hL : L ≤ 2560) (hE : ∀ G sz, E (some (.int (nI 1))) G sz) (h1 : 103470 ≤ bc) (h2 : 5368634 ≤ bs) : q_R T mL_law 11 406 0 [some (.ref b), none, none, none] [] G sz bc bs E := by
  refine w_new dL_law_0 nw_L_7 (by omega) (by omega) (fun G1 hX hN1 => ?_)
  refine q_dup dL_law_3 rfl ?_
  refine q_ii (As := []) dL_law_4 ml_L_9 mt_X8_init rfl mi_X8_init rfl rfl (Nat.le_of_ble_eq_true rfl) (Nat.le_of_ble_eq_true rfl) (by omega) (by omega) (Nat.le_of_ble_eq_true rfl) (q_C.mono (c_X8_init hX) (fun v G2 sz1 hq => ?_))
  obtain ⟨rfl, rfl, hRI⟩ := hq
  refine s_astore_n dL_law_7 (by decide) rfl rfl ?_
  refine w_new dL_law_8 nw_L_10 (by omega) (by omega) (fun G3 hm hN3 => ?_)
  refine q_dup dL_law_11 rfl ?_
  refine q_ii (As := []) dL_law_12 ml_L_12 mt_X9_init rfl mi_X9_init rfl rfl (Nat.le_of_ble_eq_true rfl) (Nat.le_of_ble_eq_true rfl) (by omega) (by omega) (Nat.le_of_ble_eq_true rfl) (q_C.mono (c_X9_init hm) (fun v G4 sz4 hq => ?_))
  obtain ⟨rfl, rfl, hM⟩ := hq
  refine s_astore_n dL_law_15 (by decide) rfl rfl ?_
  refine q_iconst (v := nI (5 * 0)) dL_law_16 (by decide) ?_
  refine s_istore_n dL_law_17 (by decide) rfl ?_
  exact lw_loop hD hXs hL hE 512 0 _ _ _ _ _ _ rfl (Nat.zero_le _) (by omega) (by omega) ⟨⟨hM.1, hM.2.1, fun _ _ => rfl, hM.2.2.2⟩, (by rw [show sz + 18 + 28 = sz + 46 by omega]; exact hRI.rep (fun c hc => (hM.2.2.1 c (Or.inl hc)).trans (hN3 c (by omega)))), Inv.start⟩
