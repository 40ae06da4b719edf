set_option maxHeartbeats 4000000 in
set_option maxRecDepth 100000 in
theorem lc_probes {T : q_T} {X t b L sz bc bs : Nat} {I : md_I} {A : md_A} {G : q_G} {xs : Nat → Int32} {E : q_E} (hW : LW T X t I A G sz) (ht : t < 512) (hD : Dig T) (hXs : T.2.2.2.2.1 b = some (.int, L, xs)) (hk : 5 * t + 5 ≤ L) (hL : L ≤ 2560) (h1 : 202 ≤ bc) (h2 : 10403 ≤ bs) (hx : ∀ (I2 : md_I) (A2 : md_A) (G2 : q_G) (sz2 : Nat), LW T X (t + 1) I2 A2 G2 sz2 → q_R T mL_law 11 406 1148 [some (.ref b), some (.ref X), some (.ref (X + 18)), some (.int (nI (5 * t)))] [] G2 sz2 (bc - 202) (bs - 10403) E) : q_R T mL_law 11 406 703 [some (.ref b), some (.ref X), some (.ref (X + 18)), some (.int (nI (5 * t)))] [] G sz bc bs E := by
  obtain ⟨hM, ⟨pa, gq, lv, O, m, vb, R⟩, hI⟩ := hW
  refine q_aload_n dL_law_703 rfl rfl ?_
  refine q_iv (As := []) dL_law_704 ml_L_79 mt_X8_probes mi_X8_probes se_X8_probes R.2.1 rfl rfl (Nat.le_of_ble_eq_true rfl) (Nat.le_of_ble_eq_true rfl) (Nat.zero_le _) (Nat.zero_le _) (Nat.le_of_ble_eq_true rfl) (q_C.mono (c_X8_probes R hI) (fun v G1 sz1 hq => ?_))
  obtain ⟨rfl, rfl, z, rfl, hD1⟩ := hq
  refine q_aload_n dL_law_707 rfl rfl ?_
  refine q_iv (As := []) dL_law_708 ml_L_83 mt_X9_probes mi_X9_probes se_X9_probes hM.1 rfl rfl (Nat.le_of_ble_eq_true rfl) (Nat.le_of_ble_eq_true rfl) (Nat.zero_le _) (Nat.zero_le _) (Nat.le_of_ble_eq_true rfl) (q_C.mono (c_X9_probes hM) (fun v G2 sz2 hq => ?_))
  obtain ⟨rfl, rfl, z2, rfl, hD2⟩ := hq
  have hz : z = z2 := hD1.trans hD2.symm
  refine q_icmp_eq (tgt := 1148) dL_law_711 (by decide) (fun _ => ?_) (fun h => absurd hz h)
  exact q_R.less (hx _ _ _ _ (⟨hM, ⟨pa, gq, lv, O, m, vb, R⟩, hI.more ht⟩)) (by omega) (by omega)

set_option maxHeartbeats 4000000 in
set_option maxRecDepth 100000 in
theorem lc_paint {T : q_T} {X t b L sz bc bs : Nat} {I : md_I} {A : md_A} {G : q_G} {xs : Nat → Int32} {E : q_E} (hW : LW T X t I A G sz) (ht : t < 512) (hD : Dig T) (hXs : T.2.2.2.2.1 b = some (.int, L, xs)) (hk : 5 * t + 5 ≤ L) (hL : L ≤ 2560) (h1 : 202 ≤ bc) (h2 : 10403 ≤ bs) (hx : ∀ (I2 : md_I) (A2 : md_A) (G2 : q_G) (sz2 : Nat), LW T X (t + 1) I2 A2 G2 sz2 → q_R T mL_law 11 406 1148 [some (.ref b), some (.ref X), some (.ref (X + 18)), some (.int (nI (5 * t)))] [] G2 sz2 (bc - 202) (bs - 10403) E) : q_R T mL_law 11 406 716 [some (.ref b), some (.ref X), some (.ref (X + 18)), some (.int (nI (5 * t)))] [] G sz bc bs E := by
  obtain ⟨hM, ⟨pa, gq, lv, O, m, vb, R⟩, hI⟩ := hW
  refine q_aload_n dL_law_716 rfl rfl ?_
  refine q_aload_n dL_law_717 rfl rfl ?_
  refine q_iload_n dL_law_718 rfl ?_
  refine q_iconst (v := nI 1) dL_law_719 (by decide) ?_
  refine q_iadd dL_law_720 (nI_add _ _) ?_
  refine q_fiaload (k := 5 * t + 1) dL_law_721 hXs rfl (by omega) (by omega) rfl ?_
  refine q_aload_n dL_law_722 rfl rfl ?_
  refine q_iload_n dL_law_723 rfl ?_
  refine q_iconst (v := nI 2) dL_law_724 (by decide) ?_
  refine q_iadd dL_law_725 (nI_add _ _) ?_
  refine q_fiaload (k := 5 * t + 2) dL_law_726 hXs rfl (by omega) (by omega) rfl ?_
  refine q_aload_n dL_law_727 rfl rfl ?_
  refine q_iload_n dL_law_728 rfl ?_
  refine q_iconst (v := nI 3) dL_law_729 (by decide) ?_
  refine q_iadd dL_law_730 (nI_add _ _) ?_
  refine q_fiaload (k := 5 * t + 3) dL_law_731 hXs rfl (by omega) (by omega) rfl ?_
  refine q_iv (As := [_, _, _]) dL_law_732 ml_L_84 mt_X8_paint mi_X8_paint se_X8_paint R.2.1 rfl rfl (Nat.le_of_ble_eq_true rfl) (Nat.le_of_ble_eq_true rfl) (Nat.zero_le _) (Nat.zero_le _) (Nat.le_of_ble_eq_true rfl) (q_C.mono (c_X8_paint R hI _ _ _) (fun v G1 sz1 hq => ?_))
  obtain ⟨⟨hs1, hf1⟩, z, I2, A2, rfl, hD1, hR1⟩ := hq
  have hM := LW.mod hM hf1
  refine q_aload_n dL_law_735 rfl rfl ?_
  refine q_aload_n dL_law_736 rfl rfl ?_
  refine q_iload_n dL_law_737 rfl ?_
  refine q_iconst (v := nI 1) dL_law_738 (by decide) ?_
  refine q_iadd dL_law_739 (nI_add _ _) ?_
  refine q_fiaload (k := 5 * t + 1) dL_law_740 hXs rfl (by omega) (by omega) rfl ?_
  refine q_aload_n dL_law_741 rfl rfl ?_
  refine q_iload_n dL_law_742 rfl ?_
  refine q_iconst (v := nI 2) dL_law_743 (by decide) ?_
  refine q_iadd dL_law_744 (nI_add _ _) ?_
  refine q_fiaload (k := 5 * t + 2) dL_law_745 hXs rfl (by omega) (by omega) rfl ?_
  refine q_aload_n dL_law_746 rfl rfl ?_
  refine q_iload_n dL_law_747 rfl ?_
  refine q_iconst (v := nI 3) dL_law_748 (by decide) ?_
  refine q_iadd dL_law_749 (nI_add _ _) ?_
  refine q_fiaload (k := 5 * t + 3) dL_law_750 hXs rfl (by omega) (by omega) rfl ?_
  refine q_iv (As := [_, _, _]) dL_law_751 ml_L_87 mt_X9_paint mi_X9_paint se_X9_paint hM.1 rfl rfl (Nat.le_of_ble_eq_true rfl) (Nat.le_of_ble_eq_true rfl) (Nat.zero_le _) (Nat.zero_le _) (Nat.le_of_ble_eq_true rfl) (q_C.mono (c_X9_paint hM _ _ _) (fun v G2 sz2 hq => ?_))
  obtain ⟨rfl, I3, A3, hM3, z2, I4, A4, rfl, hD2, hper⟩ := hq
  obtain ⟨hz, rfl, rfl⟩ := dt_paint hD1 hD2
  have hz := hz.symm
  refine q_icmp_eq (tgt := 1148) dL_law_754 (by decide) (fun _ => ?_) (fun h => absurd hz h)
  exact q_R.less (hx _ _ _ _ (LW.step hR1 hM3 hper (iv_paint hI ht hD2))) (by omega) (by omega)

set_option maxHeartbeats 4000000 in
set_option maxRecDepth 100000 in
theorem lc_make {T : q_T} {X t b L sz bc bs : Nat} {I : md_I} {A : md_A} {G : q_G} {xs : Nat → Int32} {E : q_E} (hW : LW T X t I A G sz) (ht : t < 512) (hD : Dig T) (hXs : T.2.2.2.2.1 b = some (.int, L, xs)) (hk : 5 * t + 5 ≤ L) (hL : L ≤ 2560) (h1 : 202 ≤ bc) (h2 : 10403 ≤ bs) (hx : ∀ (I2 : md_I) (A2 : md_A) (G2 : q_G) (sz2 : Nat), LW T X (t + 1) I2 A2 G2 sz2 → q_R T mL_law 11 406 1148 [some (.ref b), some (.ref X), some (.ref (X + 18)), some (.int (nI (5 * t)))] [] G2 sz2 (bc - 202) (bs - 10403) E) : q_R T mL_law 11 406 759 [some (.ref b), some (.ref X), some (.ref (X + 18)), some (.int (nI (5 * t)))] [] G sz bc bs E := by
  obtain ⟨hM, ⟨pa, gq, lv, O, m, vb, R⟩, hI⟩ := hW
  refine q_aload_n dL_law_759 rfl rfl ?_
  refine q_aload_n dL_law_760 rfl rfl ?_
  refine q_iload_n dL_law_761 rfl ?_
  refine q_iconst (v := nI 1) dL_law_762 (by decide) ?_
  refine q_iadd dL_law_763 (nI_add _ _) ?_
  refine q_fiaload (k := 5 * t + 1) dL_law_764 hXs rfl (by omega) (by omega) rfl ?_
  refine q_aload_n dL_law_765 rfl rfl ?_
  refine q_iload_n dL_law_766 rfl ?_
  refine q_iconst (v := nI 2) dL_law_767 (by decide) ?_
  refine q_iadd dL_law_768 (nI_add _ _) ?_
  refine q_fiaload (k := 5 * t + 2) dL_law_769 hXs rfl (by omega) (by omega) rfl ?_
  refine q_aload_n dL_law_770 rfl rfl ?_
  refine q_iload_n dL_law_771 rfl ?_
  refine q_iconst (v := nI 3) dL_law_772 (by decide) ?_
  refine q_iadd dL_law_773 (nI_add _ _) ?_
  refine q_fiaload (k := 5 * t + 3) dL_law_774 hXs rfl (by omega) (by omega) rfl ?_
  refine q_iv (As := [_, _, _]) dL_law_775 ml_L_88 mt_X8_make mi_X8_make se_X8_make R.2.1 rfl rfl (Nat.le_of_ble_eq_true rfl) (Nat.le_of_ble_eq_true rfl) (by omega) (by omega) (Nat.le_of_ble_eq_true rfl) (q_C.mono (c_X8_make R hI _ _ _) (fun v G1 sz1 hq => ?_))
  obtain ⟨⟨hs1, hf1⟩, z, rfl, hU⟩ := hq
  have hM := LW.mod hM hf1
  refine q_aload_n dL_law_778 rfl rfl ?_
  refine q_aload_n dL_law_779 rfl rfl ?_
  refine q_iload_n dL_law_780 rfl ?_
  refine q_iconst (v := nI 1) dL_law_781 (by decide) ?_
  refine q_iadd dL_law_782 (nI_add _ _) ?_
  refine q_fiaload (k := 5 * t + 1) dL_law_783 hXs rfl (by omega) (by omega) rfl ?_
  refine q_aload_n dL_law_784 rfl rfl ?_
  refine q_iload_n dL_law_785 rfl ?_
  refine q_iconst (v := nI 2) dL_law_786 (by decide) ?_
  refine q_iadd dL_law_787 (nI_add _ _) ?_
  refine q_fiaload (k := 5 * t + 2) dL_law_788 hXs rfl (by omega) (by omega) rfl ?_
  refine q_aload_n dL_law_789 rfl rfl ?_
  refine q_iload_n dL_law_790 rfl ?_
  refine q_iconst (v := nI 3) dL_law_791 (by decide) ?_
  refine q_iadd dL_law_792 (nI_add _ _) ?_
  refine q_fiaload (k := 5 * t + 3) dL_law_793 hXs rfl (by omega) (by omega) rfl ?_
  refine q_iv (As := [_, _, _]) dL_law_794 ml_L_91 mt_X9_make mi_X9_make se_X9_make hM.1 rfl rfl (Nat.le_of_ble_eq_true rfl) (Nat.le_of_ble_eq_true rfl) (Nat.zero_le _) (Nat.zero_le _) (Nat.le_of_ble_eq_true rfl) (q_C.mono (c_X9_make hM hI _ _ _) (fun v G2 sz2 hq => ?_))
  obtain ⟨rfl, I3, A3, hM3, z2, I4, A4, rfl, hD2, hper⟩ := hq
  obtain ⟨hz, hR1⟩ := hU _ _ _ hD2
  have hz := hz.symm
  refine q_icmp_eq (tgt := 1148) dL_law_797 (by decide) (fun _ => ?_) (fun h => absurd hz h)
  exact q_R.less (hx _ _ _ _ (LW.step hR1 hM3 hper (iv_make hI ht hD2))) (by omega) (by omega)

set_option maxHeartbeats 4000000 in
set_option maxRecDepth 100000 in
theorem lc_turn {T : q_T} {X t b L sz bc bs : Nat} {I : md_I} {A : md_A} {G : q_G} {xs : Nat → Int32} {E : q_E} (hW : LW T X t I A G sz) (ht : t < 512) (hD : Dig T) (hXs : T.2.2.2.2.1 b = some (.int, L, xs)) (hk : 5 * t + 5 ≤ L) (hL : L ≤ 2560) (h1 : 202 ≤ bc) (h2 : 10403 ≤ bs) (hx : ∀ (I2 : md_I) (A2 : md_A) (G2 : q_G) (sz2 : Nat), LW T X (t + 1) I2 A2 G2 sz2 → q_R T mL_law 11 406 1148 [some (.ref b), some (.ref X), some (.ref (X + 18)), some (.int (nI (5 * t)))] [] G2 sz2 (bc - 202) (bs - 10403) E) : q_R T mL_law 11 406 802 [some (.ref b), some (.ref X), some (.ref (X + 18)), some (.int (nI (5 * t)))] [] G sz bc bs E := by
  obtain ⟨hM, ⟨pa, gq, lv, O, m, vb, R⟩, hI⟩ := hW
  refine q_aload_n dL_law_802 rfl rfl ?_
  refine q_aload_n dL_law_803 rfl rfl ?_
  refine q_iload_n dL_law_804 rfl ?_
  refine q_iconst (v := nI 1) dL_law_805 (by decide) ?_
  refine q_iadd dL_law_806 (nI_add _ _) ?_
  refine q_fiaload (k := 5 * t + 1) dL_law_807 hXs rfl (by omega) (by omega) rfl ?_
  refine q_aload_n dL_law_808 rfl rfl ?_
  refine q_iload_n dL_law_809 rfl ?_
  refine q_iconst (v := nI 2) dL_law_810 (by decide) ?_
  refine q_iadd dL_law_811 (nI_add _ _) ?_
  refine q_fiaload (k := 5 * t + 2) dL_law_812 hXs rfl (by omega) (by omega) rfl ?_
  refine q_iv (As := [_, _]) dL_law_813 ml_L_92 mt_X8_turn mi_X8_turn se_X8_turn R.2.1 rfl rfl (Nat.le_of_ble_eq_true rfl) (Nat.le_of_ble_eq_true rfl) (by omega) (by omega) (Nat.le_of_ble_eq_true rfl) (q_C.mono (c_X8_turn R hI _ _) (fun v G1 sz1 hq => ?_))
  obtain ⟨⟨hs1, hf1⟩, z, rfl, hU⟩ := hq
  have hM := LW.mod hM hf1
  refine q_aload_n dL_law_816 rfl rfl ?_
  refine q_aload_n dL_law_817 rfl rfl ?_
  refine q_iload_n dL_law_818 rfl ?_
  refine q_iconst (v := nI 1) dL_law_819 (by decide) ?_
  refine q_iadd dL_law_820 (nI_add _ _) ?_
  refine q_fiaload (k := 5 * t + 1) dL_law_821 hXs rfl (by omega) (by omega) rfl ?_
  refine q_aload_n dL_law_822 rfl rfl ?_
  refine q_iload_n dL_law_823 rfl ?_
  refine q_iconst (v := nI 2) dL_law_824 (by decide) ?_
  refine q_iadd dL_law_825 (nI_add _ _) ?_
  refine q_fiaload (k := 5 * t + 2) dL_law_826 hXs rfl (by omega) (by omega) rfl ?_
  refine q_iv (As := [_, _]) dL_law_827 ml_L_95 mt_X9_turn mi_X9_turn se_X9_turn hM.1 rfl rfl (Nat.le_of_ble_eq_true rfl) (Nat.le_of_ble_eq_true rfl) (Nat.zero_le _) (Nat.zero_le _) (Nat.le_of_ble_eq_true rfl) (q_C.mono (c_X9_turn hM hI _ _) (fun v G2 sz2 hq => ?_))
  obtain ⟨rfl, I3, A3, hM3, z2, I4, A4, rfl, hD2, hper⟩ := hq
  obtain ⟨hz, hR1⟩ := hU _ _ _ hD2
  have hz := hz.symm
  refine q_icmp_eq (tgt := 1148) dL_law_830 (by decide) (fun _ => ?_) (fun h => absurd hz h)
  exact q_R.less (hx _ _ _ _ (LW.step hR1 hM3 hper (iv_turn hI ht hD2))) (by omega) (by omega)

set_option maxHeartbeats 4000000 in
set_option maxRecDepth 100000 in
theorem lc_same {T : q_T} {X t b L sz bc bs : Nat} {I : md_I} {A : md_A} {G : q_G} {xs : Nat → Int32} {E : q_E} (hW : LW T X t I A G sz) (ht : t < 512) (hD : Dig T) (hXs : T.2.2.2.2.1 b = some (.int, L, xs)) (hk : 5 * t + 5 ≤ L) (hL : L ≤ 2560) (h1 : 202 ≤ bc) (h2 : 10403 ≤ bs) (hx : ∀ (I2 : md_I) (A2 : md_A) (G2 : q_G) (sz2 : Nat), LW T X (t + 1) I2 A2 G2 sz2 → q_R T mL_law 11 406 1148 [some (.ref b), some (.ref X), some (.ref (X + 18)), some (.int (nI (5 * t)))] [] G2 sz2 (bc - 202) (bs - 10403) E) : q_R T mL_law 11 406 835 [some (.ref b), some (.ref X), some (.ref (X + 18)), some (.int (nI (5 * t)))] [] G sz bc bs E := by
  obtain ⟨hM, ⟨pa, gq, lv, O, m, vb, R⟩, hI⟩ := hW
  refine q_aload_n dL_law_835 rfl rfl ?_
  refine q_aload_n dL_law_836 rfl rfl ?_
  refine q_iload_n dL_law_837 rfl ?_
  refine q_iconst (v := nI 1) dL_law_838 (by decide) ?_
  refine q_iadd dL_law_839 (nI_add _ _) ?_
  refine q_fiaload (k := 5 * t + 1) dL_law_840 hXs rfl (by omega) (by omega) rfl ?_
  refine q_aload_n dL_law_841 rfl rfl ?_
  refine q_iload_n dL_law_842 rfl ?_
  refine q_iconst (v := nI 2) dL_law_843 (by decide) ?_
  refine q_iadd dL_law_844 (nI_add _ _) ?_
  refine q_fiaload (k := 5 * t + 2) dL_law_845 hXs rfl (by omega) (by omega) rfl ?_
  refine q_iv (As := [_, _]) dL_law_846 ml_L_96 mt_X8_same mi_X8_same se_X8_same R.2.1 rfl rfl (Nat.le_of_ble_eq_true rfl) (Nat.le_of_ble_eq_true rfl) (Nat.zero_le _) (Nat.zero_le _) (Nat.le_of_ble_eq_true rfl) (q_C.mono (c_X8_same R hI _ _) (fun v G1 sz1 hq => ?_))
  obtain ⟨rfl, rfl, z, rfl, hD1⟩ := hq
  refine q_aload_n dL_law_849 rfl rfl ?_
  refine q_aload_n dL_law_850 rfl rfl ?_
  refine q_iload_n dL_law_851 rfl ?_
  refine q_iconst (v := nI 1) dL_law_852 (by decide) ?_
  refine q_iadd dL_law_853 (nI_add _ _) ?_
  refine q_fiaload (k := 5 * t + 1) dL_law_854 hXs rfl (by omega) (by omega) rfl ?_
  refine q_aload_n dL_law_855 rfl rfl ?_
  refine q_iload_n dL_law_856 rfl ?_
  refine q_iconst (v := nI 2) dL_law_857 (by decide) ?_
  refine q_iadd dL_law_858 (nI_add _ _) ?_
  refine q_fiaload (k := 5 * t + 2) dL_law_859 hXs rfl (by omega) (by omega) rfl ?_
  refine q_iv (As := [_, _]) dL_law_860 ml_L_99 mt_X9_same mi_X9_same se_X9_same hM.1 rfl rfl (Nat.le_of_ble_eq_true rfl) (Nat.le_of_ble_eq_true rfl) (Nat.zero_le _) (Nat.zero_le _) (Nat.le_of_ble_eq_true rfl) (q_C.mono (c_X9_same hM hI _ _) (fun v G2 sz2 hq => ?_))
  obtain ⟨rfl, rfl, z2, rfl, hD2⟩ := hq
  have hz : z = z2 := (dt_same hI hD1 hD2).symm
  refine q_icmp_eq (tgt := 1148) dL_law_863 (by decide) (fun _ => ?_) (fun h => absurd hz h)
  exact q_R.less (hx _ _ _ _ (⟨hM, ⟨pa, gq, lv, O, m, vb, R⟩, hI.more ht⟩)) (by omega) (by omega)

set_option maxHeartbeats 4000000 in
set_option maxRecDepth 100000 in
theorem lc_game {T : q_T} {X t b L sz bc bs : Nat} {I : md_I} {A : md_A} {G : q_G} {xs : Nat → Int32} {E : q_E} (hW : LW T X t I A G sz) (ht : t < 512) (hD : Dig T) (hXs : T.2.2.2.2.1 b = some (.int, L, xs)) (hk : 5 * t + 5 ≤ L) (hL : L ≤ 2560) (h1 : 202 ≤ bc) (h2 : 10403 ≤ bs) (hx : ∀ (I2 : md_I) (A2 : md_A) (G2 : q_G) (sz2 : Nat), LW T X (t + 1) I2 A2 G2 sz2 → q_R T mL_law 11 406 1148 [some (.ref b), some (.ref X), some (.ref (X + 18)), some (.int (nI (5 * t)))] [] G2 sz2 (bc - 202) (bs - 10403) E) : q_R T mL_law 11 406 868 [some (.ref b), some (.ref X), some (.ref (X + 18)), some (.int (nI (5 * t)))] [] G sz bc bs E := by
  obtain ⟨hM, ⟨pa, gq, lv, O, m, vb, R⟩, hI⟩ := hW
  refine q_aload_n dL_law_868 rfl rfl ?_
  refine q_aload_n dL_law_869 rfl rfl ?_
  refine q_iload_n dL_law_870 rfl ?_
  refine q_iconst (v := nI 1) dL_law_871 (by decide) ?_
  refine q_iadd dL_law_872 (nI_add _ _) ?_
  refine q_fiaload (k := 5 * t + 1) dL_law_873 hXs rfl (by omega) (by omega) rfl ?_
  refine q_iv (As := [_]) dL_law_874 ml_L_100 mt_X8_game mi_X8_game se_X8_game R.2.1 rfl rfl (Nat.le_of_ble_eq_true rfl) (Nat.le_of_ble_eq_true rfl) (by omega) (by omega) (Nat.le_of_ble_eq_true rfl) (q_C.mono (c_X8_game R hI _) (fun v G1 sz1 hq => ?_))
  obtain ⟨⟨hs1, hf1⟩, z, I2, A2, rfl, hD1, hR1⟩ := hq
  have hM := LW.mod hM hf1
  refine q_aload_n dL_law_877 rfl rfl ?_
  refine q_aload_n dL_law_878 rfl rfl ?_
  refine q_iload_n dL_law_879 rfl ?_
  refine q_iconst (v := nI 1) dL_law_880 (by decide) ?_
  refine q_iadd dL_law_881 (nI_add _ _) ?_
  refine q_fiaload (k := 5 * t + 1) dL_law_882 hXs rfl (by omega) (by omega) rfl ?_
  refine q_iv (As := [_]) dL_law_883 ml_L_103 mt_X9_game mi_X9_game se_X9_game hM.1 rfl rfl (Nat.le_of_ble_eq_true rfl) (Nat.le_of_ble_eq_true rfl) (Nat.zero_le _) (Nat.zero_le _) (Nat.le_of_ble_eq_true rfl) (q_C.mono (c_X9_game hM hI _) (fun v G2 sz2 hq => ?_))
  obtain ⟨rfl, I3, A3, hM3, z2, I4, A4, rfl, hD2, hper⟩ := hq
  obtain ⟨hz, rfl, rfl⟩ := dt_game hI hD1 hD2
  have hz := hz.symm
  refine q_icmp_eq (tgt := 1148) dL_law_886 (by decide) (fun _ => ?_) (fun h => absurd hz h)
  exact q_R.less (hx _ _ _ _ (LW.step hR1 hM3 hper (iv_game hI ht hD2))) (by omega) (by omega)

set_option maxHeartbeats 4000000 in
set_option maxRecDepth 100000 in
theorem lc_mark {T : q_T} {X t b L sz bc bs : Nat} {I : md_I} {A : md_A} {G : q_G} {xs : Nat → Int32} {E : q_E} (hW : LW T X t I A G sz) (ht : t < 512) (hD : Dig T) (hXs : T.2.2.2.2.1 b = some (.int, L, xs)) (hk : 5 * t + 5 ≤ L) (hL : L ≤ 2560) (h1 : 202 ≤ bc) (h2 : 10403 ≤ bs) (hx : ∀ (I2 : md_I) (A2 : md_A) (G2 : q_G) (sz2 : Nat), LW T X (t + 1) I2 A2 G2 sz2 → q_R T mL_law 11 406 1148 [some (.ref b), some (.ref X), some (.ref (X + 18)), some (.int (nI (5 * t)))] [] G2 sz2 (bc - 202) (bs - 10403) E) : q_R T mL_law 11 406 891 [some (.ref b), some (.ref X), some (.ref (X + 18)), some (.int (nI (5 * t)))] [] G sz bc bs E := by
  obtain ⟨hM, ⟨pa, gq, lv, O, m, vb, R⟩, hI⟩ := hW
  refine q_aload_n dL_law_891 rfl rfl ?_
  refine q_aload_n dL_law_892 rfl rfl ?_
  refine q_iload_n dL_law_893 rfl ?_
  refine q_iconst (v := nI 1) dL_law_894 (by decide) ?_
  refine q_iadd dL_law_895 (nI_add _ _) ?_
  refine q_fiaload (k := 5 * t + 1) dL_law_896 hXs rfl (by omega) (by omega) rfl ?_
  refine q_aload_n dL_law_897 rfl rfl ?_
  refine q_iload_n dL_law_898 rfl ?_
  refine q_iconst (v := nI 2) dL_law_899 (by decide) ?_
  refine q_iadd dL_law_900 (nI_add _ _) ?_
  refine q_fiaload (k := 5 * t + 2) dL_law_901 hXs rfl (by omega) (by omega) rfl ?_
  refine q_aload_n dL_law_902 rfl rfl ?_
  refine q_iload_n dL_law_903 rfl ?_
  refine q_iconst (v := nI 3) dL_law_904 (by decide) ?_
  refine q_iadd dL_law_905 (nI_add _ _) ?_
  refine q_fiaload (k := 5 * t + 3) dL_law_906 hXs rfl (by omega) (by omega) rfl ?_
  refine q_iv (As := [_, _, _]) dL_law_907 ml_L_104 mt_X8_mark mi_X8_mark se_X8_mark R.2.1 rfl rfl (Nat.le_of_ble_eq_true rfl) (Nat.le_of_ble_eq_true rfl) (Nat.zero_le _) (Nat.zero_le _) (Nat.le_of_ble_eq_true rfl) (q_C.mono (c_X8_mark R hI _ _ _) (fun v G1 sz1 hq => ?_))
  obtain ⟨⟨hs1, hf1⟩, z, I2, A2, rfl, hD1, hR1⟩ := hq
  have hM := LW.mod hM hf1
  refine q_aload_n dL_law_910 rfl rfl ?_
  refine q_aload_n dL_law_911 rfl rfl ?_
  refine q_iload_n dL_law_912 rfl ?_
  refine q_iconst (v := nI 1) dL_law_913 (by decide) ?_
  refine q_iadd dL_law_914 (nI_add _ _) ?_
  refine q_fiaload (k := 5 * t + 1) dL_law_915 hXs rfl (by omega) (by omega) rfl ?_
  refine q_aload_n dL_law_916 rfl rfl ?_
  refine q_iload_n dL_law_917 rfl ?_
  refine q_iconst (v := nI 2) dL_law_918 (by decide) ?_
  refine q_iadd dL_law_919 (nI_add _ _) ?_
  refine q_fiaload (k := 5 * t + 2) dL_law_920 hXs rfl (by omega) (by omega) rfl ?_
  refine q_aload_n dL_law_921 rfl rfl ?_
  refine q_iload_n dL_law_922 rfl ?_
  refine q_iconst (v := nI 3) dL_law_923 (by decide) ?_
  refine q_iadd dL_law_924 (nI_add _ _) ?_
  refine q_fiaload (k := 5 * t + 3) dL_law_925 hXs rfl (by omega) (by omega) rfl ?_
  refine q_iv (As := [_, _, _]) dL_law_926 ml_L_107 mt_X9_mark mi_X9_mark se_X9_mark hM.1 rfl rfl (Nat.le_of_ble_eq_true rfl) (Nat.le_of_ble_eq_true rfl) (Nat.zero_le _) (Nat.zero_le _) (Nat.le_of_ble_eq_true rfl) (q_C.mono (c_X9_mark hM hI _ _ _) (fun v G2 sz2 hq => ?_))
  obtain ⟨rfl, I3, A3, hM3, z2, I4, A4, rfl, hD2, hper⟩ := hq
  obtain ⟨hz, rfl, rfl⟩ := dt_mark hI hD1 hD2
  have hz := hz.symm
  refine q_icmp_eq (tgt := 1148) dL_law_929 (by decide) (fun _ => ?_) (fun h => absurd hz h)
  exact q_R.less (hx _ _ _ _ (LW.step hR1 hM3 hper (iv_mark hI ht hD2))) (by omega) (by omega)

set_option maxHeartbeats 4000000 in
set_option maxRecDepth 100000 in
theorem lc_marked {T : q_T} {X t b L sz bc bs : Nat} {I : md_I} {A : md_A} {G : q_G} {xs : Nat → Int32} {E : q_E} (hW : LW T X t I A G sz) (ht : t < 512) (hD : Dig T) (hXs : T.2.2.2.2.1 b = some (.int, L, xs)) (hk : 5 * t + 5 ≤ L) (hL : L ≤ 2560) (h1 : 202 ≤ bc) (h2 : 10403 ≤ bs) (hx : ∀ (I2 : md_I) (A2 : md_A) (G2 : q_G) (sz2 : Nat), LW T X (t + 1) I2 A2 G2 sz2 → q_R T mL_law 11 406 1148 [some (.ref b), some (.ref X), some (.ref (X + 18)), some (.int (nI (5 * t)))] [] G2 sz2 (bc - 202) (bs - 10403) E) : q_R T mL_law 11 406 934 [some (.ref b), some (.ref X), some (.ref (X + 18)), some (.int (nI (5 * t)))] [] G sz bc bs E := by
  obtain ⟨hM, ⟨pa, gq, lv, O, m, vb, R⟩, hI⟩ := hW
  refine q_aload_n dL_law_934 rfl rfl ?_
  refine q_aload_n dL_law_935 rfl rfl ?_
  refine q_iload_n dL_law_936 rfl ?_
  refine q_iconst (v := nI 1) dL_law_937 (by decide) ?_
  refine q_iadd dL_law_938 (nI_add _ _) ?_
  refine q_fiaload (k := 5 * t + 1) dL_law_939 hXs rfl (by omega) (by omega) rfl ?_
  refine q_aload_n dL_law_940 rfl rfl ?_
  refine q_iload_n dL_law_941 rfl ?_
  refine q_iconst (v := nI 2) dL_law_942 (by decide) ?_
  refine q_iadd dL_law_943 (nI_add _ _) ?_
  refine q_fiaload (k := 5 * t + 2) dL_law_944 hXs rfl (by omega) (by omega) rfl ?_
  refine q_iv (As := [_, _]) dL_law_945 ml_L_108 mt_X8_marked mi_X8_marked se_X8_marked R.2.1 rfl rfl (Nat.le_of_ble_eq_true rfl) (Nat.le_of_ble_eq_true rfl) (Nat.zero_le _) (Nat.zero_le _) (Nat.le_of_ble_eq_true rfl) (q_C.mono (c_X8_marked R hI _ _) (fun v G1 sz1 hq => ?_))
  obtain ⟨rfl, rfl, z, rfl, hD1⟩ := hq
  refine q_aload_n dL_law_948 rfl rfl ?_
  refine q_aload_n dL_law_949 rfl rfl ?_
  refine q_iload_n dL_law_950 rfl ?_
  refine q_iconst (v := nI 1) dL_law_951 (by decide) ?_
  refine q_iadd dL_law_952 (nI_add _ _) ?_
  refine q_fiaload (k := 5 * t + 1) dL_law_953 hXs rfl (by omega) (by omega) rfl ?_
  refine q_aload_n dL_law_954 rfl rfl ?_
  refine q_iload_n dL_law_955 rfl ?_
  refine q_iconst (v := nI 2) dL_law_956 (by decide) ?_
  refine q_iadd dL_law_957 (nI_add _ _) ?_
  refine q_fiaload (k := 5 * t + 2) dL_law_958 hXs rfl (by omega) (by omega) rfl ?_
  refine q_iv (As := [_, _]) dL_law_959 ml_L_111 mt_X9_marked mi_X9_marked se_X9_marked hM.1 rfl rfl (Nat.le_of_ble_eq_true rfl) (Nat.le_of_ble_eq_true rfl) (Nat.zero_le _) (Nat.zero_le _) (Nat.le_of_ble_eq_true rfl) (q_C.mono (c_X9_marked hM hI _ _) (fun v G2 sz2 hq => ?_))
  obtain ⟨rfl, rfl, z2, rfl, hD2⟩ := hq
  have hz : z = z2 := (dt_marked hI hD1 hD2).symm
  refine q_icmp_eq (tgt := 1148) dL_law_962 (by decide) (fun _ => ?_) (fun h => absurd hz h)
  exact q_R.less (hx _ _ _ _ (⟨hM, ⟨pa, gq, lv, O, m, vb, R⟩, hI.more ht⟩)) (by omega) (by omega)

set_option maxHeartbeats 4000000 in
set_option maxRecDepth 100000 in
theorem lc_undo {T : q_T} {X t b L sz bc bs : Nat} {I : md_I} {A : md_A} {G : q_G} {xs : Nat → Int32} {E : q_E} (hW : LW T X t I A G sz) (ht : t < 512) (hD : Dig T) (hXs : T.2.2.2.2.1 b = some (.int, L, xs)) (hk : 5 * t + 5 ≤ L) (hL : L ≤ 2560) (h1 : 202 ≤ bc) (h2 : 10403 ≤ bs) (hx : ∀ (I2 : md_I) (A2 : md_A) (G2 : q_G) (sz2 : Nat), LW T X (t + 1) I2 A2 G2 sz2 → q_R T mL_law 11 406 1148 [some (.ref b), some (.ref X), some (.ref (X + 18)), some (.int (nI (5 * t)))] [] G2 sz2 (bc - 202) (bs - 10403) E) : q_R T mL_law 11 406 967 [some (.ref b), some (.ref X), some (.ref (X + 18)), some (.int (nI (5 * t)))] [] G sz bc bs E := by
  obtain ⟨hM, ⟨pa, gq, lv, O, m, vb, R⟩, hI⟩ := hW
  refine q_aload_n dL_law_967 rfl rfl ?_
  refine q_aload_n dL_law_968 rfl rfl ?_
  refine q_iload_n dL_law_969 rfl ?_
  refine q_iconst (v := nI 1) dL_law_970 (by decide) ?_
  refine q_iadd dL_law_971 (nI_add _ _) ?_
  refine q_fiaload (k := 5 * t + 1) dL_law_972 hXs rfl (by omega) (by omega) rfl ?_
  refine q_iv (As := [_]) dL_law_973 ml_L_112 mt_X8_undo mi_X8_undo se_X8_undo R.2.1 rfl rfl (Nat.le_of_ble_eq_true rfl) (Nat.le_of_ble_eq_true rfl) (Nat.zero_le _) (Nat.zero_le _) (Nat.le_of_ble_eq_true rfl) (q_C.mono (c_X8_undo R hI _) (fun v G1 sz1 hq => ?_))
  obtain ⟨⟨hs1, hf1⟩, z, I2, A2, rfl, hD1, hR1⟩ := hq
  have hM := LW.mod hM hf1
  refine q_aload_n dL_law_976 rfl rfl ?_
  refine q_aload_n dL_law_977 rfl rfl ?_
  refine q_iload_n dL_law_978 rfl ?_
  refine q_iconst (v := nI 1) dL_law_979 (by decide) ?_
  refine q_iadd dL_law_980 (nI_add _ _) ?_
  refine q_fiaload (k := 5 * t + 1) dL_law_981 hXs rfl (by omega) (by omega) rfl ?_
  refine q_iv (As := [_]) dL_law_982 ml_L_115 mt_X9_undo mi_X9_undo se_X9_undo hM.1 rfl rfl (Nat.le_of_ble_eq_true rfl) (Nat.le_of_ble_eq_true rfl) (Nat.zero_le _) (Nat.zero_le _) (Nat.le_of_ble_eq_true rfl) (q_C.mono (c_X9_undo hM hI _) (fun v G2 sz2 hq => ?_))
  obtain ⟨rfl, I3, A3, hM3, z2, I4, A4, rfl, hD2, hper⟩ := hq
  obtain ⟨hz, rfl, rfl⟩ := dt_undo hI hD1 hD2
  have hz := hz.symm
  refine q_icmp_eq (tgt := 1148) dL_law_985 (by decide) (fun _ => ?_) (fun h => absurd hz h)
  exact q_R.less (hx _ _ _ _ (LW.step hR1 hM3 hper (iv_undo hI ht hD2))) (by omega) (by omega)

set_option maxHeartbeats 4000000 in
set_option maxRecDepth 100000 in
theorem lc_redo {T : q_T} {X t b L sz bc bs : Nat} {I : md_I} {A : md_A} {G : q_G} {xs : Nat → Int32} {E : q_E} (hW : LW T X t I A G sz) (ht : t < 512) (hD : Dig T) (hXs : T.2.2.2.2.1 b = some (.int, L, xs)) (hk : 5 * t + 5 ≤ L) (hL : L ≤ 2560) (h1 : 202 ≤ bc) (h2 : 10403 ≤ bs) (hx : ∀ (I2 : md_I) (A2 : md_A) (G2 : q_G) (sz2 : Nat), LW T X (t + 1) I2 A2 G2 sz2 → q_R T mL_law 11 406 1148 [some (.ref b), some (.ref X), some (.ref (X + 18)), some (.int (nI (5 * t)))] [] G2 sz2 (bc - 202) (bs - 10403) E) : q_R T mL_law 11 406 990 [some (.ref b), some (.ref X), some (.ref (X + 18)), some (.int (nI (5 * t)))] [] G sz bc bs E := by
  obtain ⟨hM, ⟨pa, gq, lv, O, m, vb, R⟩, hI⟩ := hW
  refine q_aload_n dL_law_990 rfl rfl ?_
  refine q_aload_n dL_law_991 rfl rfl ?_
  refine q_iload_n dL_law_992 rfl ?_
  refine q_iconst (v := nI 1) dL_law_993 (by decide) ?_
  refine q_iadd dL_law_994 (nI_add _ _) ?_
  refine q_fiaload (k := 5 * t + 1) dL_law_995 hXs rfl (by omega) (by omega) rfl ?_
  refine q_iv (As := [_]) dL_law_996 ml_L_116 mt_X8_redo mi_X8_redo se_X8_redo R.2.1 rfl rfl (Nat.le_of_ble_eq_true rfl) (Nat.le_of_ble_eq_true rfl) (Nat.zero_le _) (Nat.zero_le _) (Nat.le_of_ble_eq_true rfl) (q_C.mono (c_X8_redo R hI _) (fun v G1 sz1 hq => ?_))
  obtain ⟨⟨hs1, hf1⟩, z, I2, A2, rfl, hD1, hR1⟩ := hq
  have hM := LW.mod hM hf1
  refine q_aload_n dL_law_999 rfl rfl ?_
  refine q_aload_n dL_law_1000 rfl rfl ?_
  refine q_iload_n dL_law_1001 rfl ?_
  refine q_iconst (v := nI 1) dL_law_1002 (by decide) ?_
  refine q_iadd dL_law_1003 (nI_add _ _) ?_
  refine q_fiaload (k := 5 * t + 1) dL_law_1004 hXs rfl (by omega) (by omega) rfl ?_
  refine q_iv (As := [_]) dL_law_1005 ml_L_119 mt_X9_redo mi_X9_redo se_X9_redo hM.1 rfl rfl (Nat.le_of_ble_eq_true rfl) (Nat.le_of_ble_eq_true rfl) (Nat.zero_le _) (Nat.zero_le _) (Nat.le_of_ble_eq_true rfl) (q_C.mono (c_X9_redo hM hI _) (fun v G2 sz2 hq => ?_))
  obtain ⟨rfl, I3, A3, hM3, z2, I4, A4, rfl, hD2, hper⟩ := hq
  obtain ⟨hz, rfl, rfl⟩ := dt_redo hI hD1 hD2
  have hz := hz.symm
  refine q_icmp_eq (tgt := 1148) dL_law_1008 (by decide) (fun _ => ?_) (fun h => absurd hz h)
  exact q_R.less (hx _ _ _ _ (LW.step hR1 hM3 hper (iv_redo hI ht hD2))) (by omega) (by omega)

set_option maxHeartbeats 4000000 in
set_option maxRecDepth 100000 in
theorem lc_hint {T : q_T} {X t b L sz bc bs : Nat} {I : md_I} {A : md_A} {G : q_G} {xs : Nat → Int32} {E : q_E} (hW : LW T X t I A G sz) (ht : t < 512) (hD : Dig T) (hXs : T.2.2.2.2.1 b = some (.int, L, xs)) (hk : 5 * t + 5 ≤ L) (hL : L ≤ 2560) (h1 : 202 ≤ bc) (h2 : 10403 ≤ bs) (hx : ∀ (I2 : md_I) (A2 : md_A) (G2 : q_G) (sz2 : Nat), LW T X (t + 1) I2 A2 G2 sz2 → q_R T mL_law 11 406 1148 [some (.ref b), some (.ref X), some (.ref (X + 18)), some (.int (nI (5 * t)))] [] G2 sz2 (bc - 202) (bs - 10403) E) : q_R T mL_law 11 406 1013 [some (.ref b), some (.ref X), some (.ref (X + 18)), some (.int (nI (5 * t)))] [] G sz bc bs E := by
  obtain ⟨hM, ⟨pa, gq, lv, O, m, vb, R⟩, hI⟩ := hW
  refine q_aload_n dL_law_1013 rfl rfl ?_
  refine q_aload_n dL_law_1014 rfl rfl ?_
  refine q_iload_n dL_law_1015 rfl ?_
  refine q_iconst (v := nI 1) dL_law_1016 (by decide) ?_
  refine q_iadd dL_law_1017 (nI_add _ _) ?_
  refine q_fiaload (k := 5 * t + 1) dL_law_1018 hXs rfl (by omega) (by omega) rfl ?_
  refine q_iv (As := [_]) dL_law_1019 ml_L_120 mt_X8_hint mi_X8_hint se_X8_hint R.2.1 rfl rfl (Nat.le_of_ble_eq_true rfl) (Nat.le_of_ble_eq_true rfl) (Nat.zero_le _) (Nat.zero_le _) (Nat.le_of_ble_eq_true rfl) (q_C.mono (c_X8_hint R hI _) (fun v G1 sz1 hq => ?_))
  obtain ⟨⟨hs1, hf1⟩, z, I2, A2, rfl, hD1, hR1⟩ := hq
  have hM := LW.mod hM hf1
  refine q_aload_n dL_law_1022 rfl rfl ?_
  refine q_aload_n dL_law_1023 rfl rfl ?_
  refine q_iload_n dL_law_1024 rfl ?_
  refine q_iconst (v := nI 1) dL_law_1025 (by decide) ?_
  refine q_iadd dL_law_1026 (nI_add _ _) ?_
  refine q_fiaload (k := 5 * t + 1) dL_law_1027 hXs rfl (by omega) (by omega) rfl ?_
  refine q_iv (As := [_]) dL_law_1028 ml_L_123 mt_X9_hint mi_X9_hint se_X9_hint hM.1 rfl rfl (Nat.le_of_ble_eq_true rfl) (Nat.le_of_ble_eq_true rfl) (Nat.zero_le _) (Nat.zero_le _) (Nat.le_of_ble_eq_true rfl) (q_C.mono (c_X9_hint hM hI _) (fun v G2 sz2 hq => ?_))
  obtain ⟨rfl, I3, A3, hM3, z2, I4, A4, rfl, hD2, hper⟩ := hq
  obtain ⟨hz, rfl, rfl⟩ := dt_hint hI hD1 hD2
  have hz := hz.symm
  refine q_icmp_eq (tgt := 1148) dL_law_1031 (by decide) (fun _ => ?_) (fun h => absurd hz h)
  exact q_R.less (hx _ _ _ _ (LW.step hR1 hM3 hper (iv_hint hI ht hD2))) (by omega) (by omega)

set_option maxHeartbeats 4000000 in
set_option maxRecDepth 100000 in
theorem lc_state {T : q_T} {X t b L sz bc bs : Nat} {I : md_I} {A : md_A} {G : q_G} {xs : Nat → Int32} {E : q_E} (hW : LW T X t I A G sz) (ht : t < 512) (hD : Dig T) (hXs : T.2.2.2.2.1 b = some (.int, L, xs)) (hk : 5 * t + 5 ≤ L) (hL : L ≤ 2560) (h1 : 202 ≤ bc) (h2 : 10403 ≤ bs) (hx : ∀ (I2 : md_I) (A2 : md_A) (G2 : q_G) (sz2 : Nat), LW T X (t + 1) I2 A2 G2 sz2 → q_R T mL_law 11 406 1148 [some (.ref b), some (.ref X), some (.ref (X + 18)), some (.int (nI (5 * t)))] [] G2 sz2 (bc - 202) (bs - 10403) E) : q_R T mL_law 11 406 1036 [some (.ref b), some (.ref X), some (.ref (X + 18)), some (.int (nI (5 * t)))] [] G sz bc bs E := by
  obtain ⟨hM, ⟨pa, gq, lv, O, m, vb, R⟩, hI⟩ := hW
  refine q_aload_n dL_law_1036 rfl rfl ?_
  refine q_aload_n dL_law_1037 rfl rfl ?_
  refine q_iload_n dL_law_1038 rfl ?_
  refine q_iconst (v := nI 1) dL_law_1039 (by decide) ?_
  refine q_iadd dL_law_1040 (nI_add _ _) ?_
  refine q_fiaload (k := 5 * t + 1) dL_law_1041 hXs rfl (by omega) (by omega) rfl ?_
  refine q_aload_n dL_law_1042 rfl rfl ?_
  refine q_iload_n dL_law_1043 rfl ?_
  refine q_iconst (v := nI 2) dL_law_1044 (by decide) ?_
  refine q_iadd dL_law_1045 (nI_add _ _) ?_
  refine q_fiaload (k := 5 * t + 2) dL_law_1046 hXs rfl (by omega) (by omega) rfl ?_
  refine q_iv (As := [_, _]) dL_law_1047 ml_L_124 mt_X8_state mi_X8_state se_X8_state R.2.1 rfl rfl (Nat.le_of_ble_eq_true rfl) (Nat.le_of_ble_eq_true rfl) (Nat.zero_le _) (Nat.zero_le _) (Nat.le_of_ble_eq_true rfl) (q_C.mono (c_X8_state R hI _ _) (fun v G1 sz1 hq => ?_))
  obtain ⟨⟨hs1, hf1⟩, z, I2, A2, rfl, hD1, hR1⟩ := hq
  have hM := LW.mod hM hf1
  refine q_aload_n dL_law_1050 rfl rfl ?_
  refine q_aload_n dL_law_1051 rfl rfl ?_
  refine q_iload_n dL_law_1052 rfl ?_
  refine q_iconst (v := nI 1) dL_law_1053 (by decide) ?_
  refine q_iadd dL_law_1054 (nI_add _ _) ?_
  refine q_fiaload (k := 5 * t + 1) dL_law_1055 hXs rfl (by omega) (by omega) rfl ?_
  refine q_aload_n dL_law_1056 rfl rfl ?_
  refine q_iload_n dL_law_1057 rfl ?_
  refine q_iconst (v := nI 2) dL_law_1058 (by decide) ?_
  refine q_iadd dL_law_1059 (nI_add _ _) ?_
  refine q_fiaload (k := 5 * t + 2) dL_law_1060 hXs rfl (by omega) (by omega) rfl ?_
  refine q_iv (As := [_, _]) dL_law_1061 ml_L_127 mt_X9_state mi_X9_state se_X9_state hM.1 rfl rfl (Nat.le_of_ble_eq_true rfl) (Nat.le_of_ble_eq_true rfl) (Nat.zero_le _) (Nat.zero_le _) (Nat.le_of_ble_eq_true rfl) (q_C.mono (c_X9_state hM hI _ _) (fun v G2 sz2 hq => ?_))
  obtain ⟨rfl, I3, A3, hM3, z2, rfl, hD2, hper⟩ := hq
  obtain ⟨rfl, rfl, hD1⟩ := hD1
  have hz : z = z2 := (dt_state hI hD1 hD2).symm
  refine q_icmp_eq (tgt := 1148) dL_law_1064 (by decide) (fun _ => ?_) (fun h => absurd hz h)
  exact q_R.less (hx _ _ _ _ (LW.step hR1 hM3 hper (hI.more ht))) (by omega) (by omega)

set_option maxHeartbeats 4000000 in
set_option maxRecDepth 100000 in
theorem lc_write {T : q_T} {X t b L sz bc bs : Nat} {I : md_I} {A : md_A} {G : q_G} {xs : Nat → Int32} {E : q_E} (hW : LW T X t I A G sz) (ht : t < 512) (hD : Dig T) (hXs : T.2.2.2.2.1 b = some (.int, L, xs)) (hk : 5 * t + 5 ≤ L) (hL : L ≤ 2560) (h1 : 202 ≤ bc) (h2 : 10403 ≤ bs) (hx : ∀ (I2 : md_I) (A2 : md_A) (G2 : q_G) (sz2 : Nat), LW T X (t + 1) I2 A2 G2 sz2 → q_R T mL_law 11 406 1148 [some (.ref b), some (.ref X), some (.ref (X + 18)), some (.int (nI (5 * t)))] [] G2 sz2 (bc - 202) (bs - 10403) E) : q_R T mL_law 11 406 1069 [some (.ref b), some (.ref X), some (.ref (X + 18)), some (.int (nI (5 * t)))] [] G sz bc bs E := by
  obtain ⟨hM, ⟨pa, gq, lv, O, m, vb, R⟩, hI⟩ := hW
  refine q_aload_n dL_law_1069 rfl rfl ?_
  refine q_aload_n dL_law_1070 rfl rfl ?_
  refine q_iload_n dL_law_1071 rfl ?_
  refine q_iconst (v := nI 1) dL_law_1072 (by decide) ?_
  refine q_iadd dL_law_1073 (nI_add _ _) ?_
  refine q_fiaload (k := 5 * t + 1) dL_law_1074 hXs rfl (by omega) (by omega) rfl ?_
  refine q_aload_n dL_law_1075 rfl rfl ?_
  refine q_iload_n dL_law_1076 rfl ?_
  refine q_iconst (v := nI 2) dL_law_1077 (by decide) ?_
  refine q_iadd dL_law_1078 (nI_add _ _) ?_
  refine q_fiaload (k := 5 * t + 2) dL_law_1079 hXs rfl (by omega) (by omega) rfl ?_
  refine q_iv (As := [_, _]) dL_law_1080 ml_L_128 mt_X8_write mi_X8_write se_X8_write R.2.1 rfl rfl (Nat.le_of_ble_eq_true rfl) (Nat.le_of_ble_eq_true rfl) (by omega) (by omega) (Nat.le_of_ble_eq_true rfl) (q_C.mono (c_X8_write R hI hD _ _) (fun v G1 sz1 hq => ?_))
  obtain ⟨⟨hs1, hf1⟩, z, I2, A2, rfl, hD1, hR1⟩ := hq
  have hM := LW.mod hM hf1
  refine q_aload_n dL_law_1083 rfl rfl ?_
  refine q_aload_n dL_law_1084 rfl rfl ?_
  refine q_iload_n dL_law_1085 rfl ?_
  refine q_iconst (v := nI 1) dL_law_1086 (by decide) ?_
  refine q_iadd dL_law_1087 (nI_add _ _) ?_
  refine q_fiaload (k := 5 * t + 1) dL_law_1088 hXs rfl (by omega) (by omega) rfl ?_
  refine q_aload_n dL_law_1089 rfl rfl ?_
  refine q_iload_n dL_law_1090 rfl ?_
  refine q_iconst (v := nI 2) dL_law_1091 (by decide) ?_
  refine q_iadd dL_law_1092 (nI_add _ _) ?_
  refine q_fiaload (k := 5 * t + 2) dL_law_1093 hXs rfl (by omega) (by omega) rfl ?_
  refine q_iv (As := [_, _]) dL_law_1094 ml_L_131 mt_X9_write mi_X9_write se_X9_write hM.1 rfl rfl (Nat.le_of_ble_eq_true rfl) (Nat.le_of_ble_eq_true rfl) (Nat.zero_le _) (Nat.zero_le _) (Nat.le_of_ble_eq_true rfl) (q_C.mono (c_X9_write hM hI _ _) (fun v G2 sz2 hq => ?_))
  obtain ⟨rfl, I3, A3, hM3, z2, I4, A4, rfl, hD2, hper⟩ := hq
  obtain ⟨hz, rfl, rfl⟩ := dt_write hI hD1 hD2
  have hz := hz.symm
  refine q_icmp_eq (tgt := 1148) dL_law_1097 (by decide) (fun _ => ?_) (fun h => absurd hz h)
  exact q_R.less (hx _ _ _ _ (LW.step hR1 hM3 hper (iv_write hI ht hD2))) (by omega) (by omega)

set_option maxHeartbeats 4000000 in
set_option maxRecDepth 100000 in
theorem lc_out {T : q_T} {X t b L sz bc bs : Nat} {I : md_I} {A : md_A} {G : q_G} {xs : Nat → Int32} {E : q_E} (hW : LW T X t I A G sz) (ht : t < 512) (hD : Dig T) (hXs : T.2.2.2.2.1 b = some (.int, L, xs)) (hk : 5 * t + 5 ≤ L) (hL : L ≤ 2560) (h1 : 202 ≤ bc) (h2 : 10403 ≤ bs) (hx : ∀ (I2 : md_I) (A2 : md_A) (G2 : q_G) (sz2 : Nat), LW T X (t + 1) I2 A2 G2 sz2 → q_R T mL_law 11 406 1148 [some (.ref b), some (.ref X), some (.ref (X + 18)), some (.int (nI (5 * t)))] [] G2 sz2 (bc - 202) (bs - 10403) E) : q_R T mL_law 11 406 1102 [some (.ref b), some (.ref X), some (.ref (X + 18)), some (.int (nI (5 * t)))] [] G sz bc bs E := by
  obtain ⟨hM, ⟨pa, gq, lv, O, m, vb, R⟩, hI⟩ := hW
  refine q_aload_n dL_law_1102 rfl rfl ?_
  refine q_aload_n dL_law_1103 rfl rfl ?_
  refine q_iload_n dL_law_1104 rfl ?_
  refine q_iconst (v := nI 1) dL_law_1105 (by decide) ?_
  refine q_iadd dL_law_1106 (nI_add _ _) ?_
  refine q_fiaload (k := 5 * t + 1) dL_law_1107 hXs rfl (by omega) (by omega) rfl ?_
  refine q_iv (As := [_]) dL_law_1108 ml_L_132 mt_X8_out mi_X8_out se_X8_out R.2.1 rfl rfl (Nat.le_of_ble_eq_true rfl) (Nat.le_of_ble_eq_true rfl) (Nat.zero_le _) (Nat.zero_le _) (Nat.le_of_ble_eq_true rfl) (q_C.mono (c_X8_out R hI _) (fun v G1 sz1 hq => ?_))
  obtain ⟨rfl, rfl, z, rfl, hD1⟩ := hq
  refine q_aload_n dL_law_1111 rfl rfl ?_
  refine q_aload_n dL_law_1112 rfl rfl ?_
  refine q_iload_n dL_law_1113 rfl ?_
  refine q_iconst (v := nI 1) dL_law_1114 (by decide) ?_
  refine q_iadd dL_law_1115 (nI_add _ _) ?_
  refine q_fiaload (k := 5 * t + 1) dL_law_1116 hXs rfl (by omega) (by omega) rfl ?_
  refine q_iv (As := [_]) dL_law_1117 ml_L_135 mt_X9_out mi_X9_out se_X9_out hM.1 rfl rfl (Nat.le_of_ble_eq_true rfl) (Nat.le_of_ble_eq_true rfl) (Nat.zero_le _) (Nat.zero_le _) (Nat.le_of_ble_eq_true rfl) (q_C.mono (c_X9_out hM hI _) (fun v G2 sz2 hq => ?_))
  obtain ⟨rfl, rfl, z2, rfl, hD2⟩ := hq
  have hz : z = z2 := (dt_out hI hD1 hD2).symm
  refine q_icmp_eq (tgt := 1148) dL_law_1120 (by decide) (fun _ => ?_) (fun h => absurd hz h)
  exact q_R.less (hx _ _ _ _ (⟨hM, ⟨pa, gq, lv, O, m, vb, R⟩, hI.more ht⟩)) (by omega) (by omega)

set_option maxHeartbeats 4000000 in
set_option maxRecDepth 100000 in
theorem lc_count {T : q_T} {X t b L sz bc bs : Nat} {I : md_I} {A : md_A} {G : q_G} {xs : Nat → Int32} {E : q_E} (hW : LW T X t I A G sz) (ht : t < 512) (hD : Dig T) (hXs : T.2.2.2.2.1 b = some (.int, L, xs)) (hk : 5 * t + 5 ≤ L) (hL : L ≤ 2560) (h1 : 202 ≤ bc) (h2 : 10403 ≤ bs) (hx : ∀ (I2 : md_I) (A2 : md_A) (G2 : q_G) (sz2 : Nat), LW T X (t + 1) I2 A2 G2 sz2 → q_R T mL_law 11 406 1148 [some (.ref b), some (.ref X), some (.ref (X + 18)), some (.int (nI (5 * t)))] [] G2 sz2 (bc - 202) (bs - 10403) E) : q_R T mL_law 11 406 1125 [some (.ref b), some (.ref X), some (.ref (X + 18)), some (.int (nI (5 * t)))] [] G sz bc bs E := by
  obtain ⟨hM, ⟨pa, gq, lv, O, m, vb, R⟩, hI⟩ := hW
  refine q_aload_n dL_law_1125 rfl rfl ?_
  refine q_aload_n dL_law_1126 rfl rfl ?_
  refine q_iload_n dL_law_1127 rfl ?_
  refine q_iconst (v := nI 1) dL_law_1128 (by decide) ?_
  refine q_iadd dL_law_1129 (nI_add _ _) ?_
  refine q_fiaload (k := 5 * t + 1) dL_law_1130 hXs rfl (by omega) (by omega) rfl ?_
  refine q_iv (As := [_]) dL_law_1131 ml_L_136 mt_X8_count mi_X8_count se_X8_count R.2.1 rfl rfl (Nat.le_of_ble_eq_true rfl) (Nat.le_of_ble_eq_true rfl) (Nat.zero_le _) (Nat.zero_le _) (Nat.le_of_ble_eq_true rfl) (q_C.mono (c_X8_count R hI _) (fun v G1 sz1 hq => ?_))
  obtain ⟨rfl, rfl, z, rfl, hD1⟩ := hq
  refine q_aload_n dL_law_1134 rfl rfl ?_
  refine q_aload_n dL_law_1135 rfl rfl ?_
  refine q_iload_n dL_law_1136 rfl ?_
  refine q_iconst (v := nI 1) dL_law_1137 (by decide) ?_
  refine q_iadd dL_law_1138 (nI_add _ _) ?_
  refine q_fiaload (k := 5 * t + 1) dL_law_1139 hXs rfl (by omega) (by omega) rfl ?_
  refine q_iv (As := [_]) dL_law_1140 ml_L_139 mt_X9_count mi_X9_count se_X9_count hM.1 rfl rfl (Nat.le_of_ble_eq_true rfl) (Nat.le_of_ble_eq_true rfl) (Nat.zero_le _) (Nat.zero_le _) (Nat.le_of_ble_eq_true rfl) (q_C.mono (c_X9_count hM _) (fun v G2 sz2 hq => ?_))
  obtain ⟨rfl, rfl, z2, rfl, hD2⟩ := hq
  have hz : z = z2 := hD1.trans hD2.symm
  refine q_icmp_eq (tgt := 1148) dL_law_1143 (by decide) (fun _ => ?_) (fun h => absurd hz h)
  exact q_R.less (hx _ _ _ _ (⟨hM, ⟨pa, gq, lv, O, m, vb, R⟩, hI.more ht⟩)) (by omega) (by omega)
