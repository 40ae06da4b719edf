/-- which line becomes line ln when a puzzle of w by h is turned by how -/
def tn_src (w h how ln : Nat) : Nat := if how &&& 4 = 0 then (if ln < h then (if how &&& 2 = 0 then ln else h - 1 - ln) else h + (if how &&& 1 = 0 then ln - h else w - 1 - (ln - h))) else (if ln < w then h + (if how &&& 1 = 0 then ln else w - 1 - ln) else (if how &&& 2 = 0 then ln - w else h - 1 - (ln - w)))
theorem tn_src_lt {w h how ln : Nat} (hw : 1 ≤ w) (hh : 1 ≤ h) (hl : ln < w + h) : tn_src w h how ln < w + h := by
  unfold tn_src
  (repeat' split) <;> omega
/-- whether its runs are read from the end -/
def tn_rd (h how src : Nat) : Nat := if src < h then (if how &&& 1 = 0 then 0 else 1) else (if how &&& 2 = 0 then 0 else 1)
def tn_ix (n rd k : Nat) : Nat := if rd = 0 then k else n - 1 - k
def tn_w (A : md_A) (p how : Nat) : Nat := if how &&& 4 = 0 then A 1 p else A 2 p
def tn_h (A : md_A) (p how : Nat) : Nat := if how &&& 4 = 0 then A 2 p else A 1 p
def tn_at (A : md_A) (p how ln : Nat) : Nat := tn_src (A 1 p) (A 2 p) how ln
/-- run k of line ln of puzzle p turned by how -/
def tn_c (A : md_A) (p how ln k : Nat) : Nat := pz_c A p (tn_at A p how ln) (tn_ix (pz_n A p (tn_at A p how ln)) (tn_rd (A 2 p) how (tn_at A p how ln)) k)
def tn_l (A : md_A) (p how ln k : Nat) : Nat := pz_l A p (tn_at A p how ln) (tn_ix (pz_n A p (tn_at A p how ln)) (tn_rd (A 2 p) how (tn_at A p how ln)) k)
def tn_same (A : md_A) (p q how : Nat) : Prop := A 1 q = tn_w A p how ∧ A 2 q = tn_h A p how ∧ A 3 p = A 3 q ∧ ∀ ln, ln < A 1 q + A 2 q → pz_n A q ln = pz_n A p (tn_at A p how ln) ∧ ∀ k, k < pz_n A q ln → pz_c A q ln k = tn_c A p how ln k ∧ pz_l A q ln k = tn_l A p how ln k
def D_same (I : md_I) (A : md_A) (x y z : Int32) : Prop := (∃ p q, p < I 0 ∧ x = nI p ∧ q < I 0 ∧ y = nI q ∧ ((∃ how, how < 8 ∧ tn_same A p q how ∧ (∀ k, k < how → ¬ tn_same A p q k) ∧ z = nI how) ∨ ((∀ k, k < 8 → ¬ tn_same A p q k) ∧ z = -1))) ∨ (¬ (∃ p q, p < I 0 ∧ x = nI p ∧ q < I 0 ∧ y = nI q) ∧ z = -1)

set_option maxHeartbeats 4000000 in
set_option maxRecDepth 100000 in
theorem c_X9_source {T : q_T} {m : Nat} {G0 G : q_G} {I : md_I} {A : md_A} {sz : Nat} (hM : Mod T m G0 I A G) {p w h how ln : Nat} (hp : p < 30) (hw : A 1 p = w) (hh : A 2 p = h) (hw2 : 1 ≤ w ∧ w ≤ 10) (hh2 : 1 ≤ h ∧ h ≤ 10) (hln : ln < w + h) : q_C T mX9_source 0 0 0 0 [.ref m, .int (nI p), .int (nI how), .int (nI ln)] G sz (fun v G' sz' => v = some (.int (nI (tn_src w h how ln))) ∧ G = G' ∧ sz = sz') := by
  refine q_C.of (by decide) rfl (by simp [Value.category]) (Nat.le_of_ble_eq_true rfl) ?_
  refine q_iload_n dX9_source_0 rfl ?_
  refine q_iconst (v := nI 4) dX9_source_1 (by decide) ?_
  refine q_iand dX9_source_2 (n_and _ _) ?_
  refine n_if_eq (tgt := 10) dX9_source_3 (by decide) (Nat.lt_of_le_of_lt Nat.and_le_right (by decide)) (fun c3 => ?_) (fun c3 => ?_)
  · refine q_iconst (v := nI 0) dX9_source_10 (by decide) ?_
    refine s_istore dX9_source_11 (by decide) rfl ?_
    refine q_iload dX9_source_13 rfl ?_
    refine q_if_eq (tgt := 27) dX9_source_15 (by decide) (fun _ => ?_) (fun h => absurd h (by decide))
    refine q_aload_n dX9_source_27 rfl rfl ?_
    refine q_mga 2 2 dX9_source_28 hM fl_X9_13 rfl ?_
    refine q_iload_n dX9_source_31 rfl ?_
    refine q_mld (k := 2) (v := nI h) dX9_source_32 hM (by decide) rfl (show _ < (30 : Nat) by omega) (congrArg nI hh) (fun b32 => ?_)
    refine s_istore dX9_source_33 (by decide) rfl ?_
    refine q_iload_n dX9_source_35 rfl ?_
    refine q_iload dX9_source_36 rfl ?_
    refine n_icmp_ge (tgt := 45) dX9_source_38 (by decide) (by omega) (by omega) (fun c38 => ?_) (fun c38 => ?_)
    · refine q_iconst (v := nI 0) dX9_source_45 (by decide) ?_
      refine q_iload dX9_source_46 rfl ?_
      refine q_icmp_eq (tgt := 55) dX9_source_48 (by decide) (fun _ => ?_) (fun h => absurd h (by decide))
      refine q_iconst (v := nI 0) dX9_source_55 (by decide) ?_
      refine s_istore dX9_source_56 (by decide) rfl ?_
      refine q_iload_n dX9_source_58 rfl ?_
      refine q_iload dX9_source_59 rfl ?_
      refine n_icmp_ge (tgt := 68) dX9_source_61 (by decide) (by omega) (by omega) (fun c61 => ?_) (fun c61 => ?_)
      · refine q_iload_n dX9_source_68 rfl ?_
        refine q_iload dX9_source_69 rfl ?_
        refine q_isub dX9_source_71 (pk_sub (by omega)) ?_
        refine s_istore dX9_source_72 (by decide) rfl ?_
        refine q_iload dX9_source_74 rfl ?_
        refine q_if_eq (tgt := 102) dX9_source_76 (by decide) (fun _ => ?_) (fun h => absurd h (by decide))
        refine q_aload_n dX9_source_102 rfl rfl ?_
        refine q_mga 2 2 dX9_source_103 hM fl_X9_13 rfl ?_
        refine q_iload_n dX9_source_106 rfl ?_
        refine q_mld (k := 2) (v := nI h) dX9_source_107 hM (by decide) rfl (show _ < (30 : Nat) by omega) (congrArg nI hh) (fun b107 => ?_)
        refine q_iload_n dX9_source_108 rfl ?_
        refine q_iconst (v := nI 1) dX9_source_109 (by decide) ?_
        refine q_iand dX9_source_110 (n_and _ _) ?_
        refine n_if_eq (tgt := 128) dX9_source_111 (by decide) (Nat.lt_of_le_of_lt Nat.and_le_right (by decide)) (fun c111 => ?_) (fun c111 => ?_)
        · refine q_iload dX9_source_128 rfl ?_
          refine q_iadd dX9_source_130 (nI_add _ _) ?_
          exact q_ireturn dX9_source_131 rfl rfl ⟨congrArg (fun z => some (Value.int (nI z))) (by unfold tn_src; (repeat' split) <;> omega), rfl, rfl⟩
        · refine q_aload_n dX9_source_114 rfl rfl ?_
          refine q_mga 1 1 dX9_source_115 hM fl_X9_9 rfl ?_
          refine q_iload_n dX9_source_118 rfl ?_
          refine q_mld (k := 1) (v := nI w) dX9_source_119 hM (by decide) rfl (show _ < (30 : Nat) by omega) (congrArg nI hw) (fun b119 => ?_)
          refine q_iconst (v := nI 1) dX9_source_120 (by decide) ?_
          refine q_isub dX9_source_121 (pk_sub (by omega)) ?_
          refine q_iload dX9_source_122 rfl ?_
          refine q_isub dX9_source_124 (pk_sub (by omega)) ?_
          refine q_goto (tgt := 130) dX9_source_125 (by decide) ?_
          refine q_iadd dX9_source_130 (nI_add _ _) ?_
          exact q_ireturn dX9_source_131 rfl rfl ⟨congrArg (fun z => some (Value.int (nI z))) (by unfold tn_src; (repeat' split) <;> omega), rfl, rfl⟩
      · refine q_iload_n dX9_source_64 rfl ?_
        refine q_goto (tgt := 72) dX9_source_65 (by decide) ?_
        refine s_istore dX9_source_72 (by decide) rfl ?_
        refine q_iload dX9_source_74 rfl ?_
        refine q_if_eq (tgt := 102) dX9_source_76 (by decide) (fun _ => ?_) (fun h => absurd h (by decide))
        refine q_aload_n dX9_source_102 rfl rfl ?_
        refine q_mga 2 2 dX9_source_103 hM fl_X9_13 rfl ?_
        refine q_iload_n dX9_source_106 rfl ?_
        refine q_mld (k := 2) (v := nI h) dX9_source_107 hM (by decide) rfl (show _ < (30 : Nat) by omega) (congrArg nI hh) (fun b107 => ?_)
        refine q_iload_n dX9_source_108 rfl ?_
        refine q_iconst (v := nI 1) dX9_source_109 (by decide) ?_
        refine q_iand dX9_source_110 (n_and _ _) ?_
        refine n_if_eq (tgt := 128) dX9_source_111 (by decide) (Nat.lt_of_le_of_lt Nat.and_le_right (by decide)) (fun c111 => ?_) (fun c111 => ?_)
        · refine q_iload dX9_source_128 rfl ?_
          refine q_iadd dX9_source_130 (nI_add _ _) ?_
          exact q_ireturn dX9_source_131 rfl rfl ⟨congrArg (fun z => some (Value.int (nI z))) (by unfold tn_src; (repeat' split) <;> omega), rfl, rfl⟩
        · refine q_aload_n dX9_source_114 rfl rfl ?_
          refine q_mga 1 1 dX9_source_115 hM fl_X9_9 rfl ?_
          refine q_iload_n dX9_source_118 rfl ?_
          refine q_mld (k := 1) (v := nI w) dX9_source_119 hM (by decide) rfl (show _ < (30 : Nat) by omega) (congrArg nI hw) (fun b119 => ?_)
          refine q_iconst (v := nI 1) dX9_source_120 (by decide) ?_
          refine q_isub dX9_source_121 (pk_sub (by omega)) ?_
          refine q_iload dX9_source_122 rfl ?_
          refine q_isub dX9_source_124 (pk_sub (by omega)) ?_
          refine q_goto (tgt := 130) dX9_source_125 (by decide) ?_
          refine q_iadd dX9_source_130 (nI_add _ _) ?_
          exact q_ireturn dX9_source_131 rfl rfl ⟨congrArg (fun z => some (Value.int (nI z))) (by unfold tn_src; (repeat' split) <;> omega), rfl, rfl⟩
    · refine q_iconst (v := nI 1) dX9_source_41 (by decide) ?_
      refine q_goto (tgt := 46) dX9_source_42 (by decide) ?_
      refine q_iload dX9_source_46 rfl ?_
      refine q_icmp_eq (tgt := 55) dX9_source_48 (by decide) (fun h => absurd h (by decide)) (fun _ => ?_)
      refine q_iconst (v := nI 1) dX9_source_51 (by decide) ?_
      refine q_goto (tgt := 56) dX9_source_52 (by decide) ?_
      refine s_istore dX9_source_56 (by decide) rfl ?_
      refine q_iload_n dX9_source_58 rfl ?_
      refine q_iload dX9_source_59 rfl ?_
      refine n_icmp_ge (tgt := 68) dX9_source_61 (by decide) (by omega) (by omega) (fun c61 => ?_) (fun c61 => ?_)
      · refine q_iload_n dX9_source_68 rfl ?_
        refine q_iload dX9_source_69 rfl ?_
        refine q_isub dX9_source_71 (pk_sub (by omega)) ?_
        refine s_istore dX9_source_72 (by decide) rfl ?_
        refine q_iload dX9_source_74 rfl ?_
        refine q_if_eq (tgt := 102) dX9_source_76 (by decide) (fun h => absurd h (by decide)) (fun _ => ?_)
        refine q_iload_n dX9_source_79 rfl ?_
        refine q_iconst (v := nI 2) dX9_source_80 (by decide) ?_
        refine q_iand dX9_source_81 (n_and _ _) ?_
        refine n_if_eq (tgt := 99) dX9_source_82 (by decide) (Nat.lt_of_le_of_lt Nat.and_le_right (by decide)) (fun c82 => ?_) (fun c82 => ?_)
        · refine q_iload dX9_source_99 rfl ?_
          exact q_ireturn dX9_source_101 rfl rfl ⟨congrArg (fun z => some (Value.int (nI z))) (by unfold tn_src; (repeat' split) <;> omega), rfl, rfl⟩
        · refine q_aload_n dX9_source_85 rfl rfl ?_
          refine q_mga 2 2 dX9_source_86 hM fl_X9_13 rfl ?_
          refine q_iload_n dX9_source_89 rfl ?_
          refine q_mld (k := 2) (v := nI h) dX9_source_90 hM (by decide) rfl (show _ < (30 : Nat) by omega) (congrArg nI hh) (fun b90 => ?_)
          refine q_iconst (v := nI 1) dX9_source_91 (by decide) ?_
          refine q_isub dX9_source_92 (pk_sub (by omega)) ?_
          refine q_iload dX9_source_93 rfl ?_
          refine q_isub dX9_source_95 (pk_sub (by omega)) ?_
          refine q_goto (tgt := 101) dX9_source_96 (by decide) ?_
          exact q_ireturn dX9_source_101 rfl rfl ⟨congrArg (fun z => some (Value.int (nI z))) (by unfold tn_src; (repeat' split) <;> omega), rfl, rfl⟩
      · refine q_iload_n dX9_source_64 rfl ?_
        refine q_goto (tgt := 72) dX9_source_65 (by decide) ?_
        refine s_istore dX9_source_72 (by decide) rfl ?_
        refine q_iload dX9_source_74 rfl ?_
        refine q_if_eq (tgt := 102) dX9_source_76 (by decide) (fun h => absurd h (by decide)) (fun _ => ?_)
        refine q_iload_n dX9_source_79 rfl ?_
        refine q_iconst (v := nI 2) dX9_source_80 (by decide) ?_
        refine q_iand dX9_source_81 (n_and _ _) ?_
        refine n_if_eq (tgt := 99) dX9_source_82 (by decide) (Nat.lt_of_le_of_lt Nat.and_le_right (by decide)) (fun c82 => ?_) (fun c82 => ?_)
        · refine q_iload dX9_source_99 rfl ?_
          exact q_ireturn dX9_source_101 rfl rfl ⟨congrArg (fun z => some (Value.int (nI z))) (by unfold tn_src; (repeat' split) <;> omega), rfl, rfl⟩
        · refine q_aload_n dX9_source_85 rfl rfl ?_
          refine q_mga 2 2 dX9_source_86 hM fl_X9_13 rfl ?_
          refine q_iload_n dX9_source_89 rfl ?_
          refine q_mld (k := 2) (v := nI h) dX9_source_90 hM (by decide) rfl (show _ < (30 : Nat) by omega) (congrArg nI hh) (fun b90 => ?_)
          refine q_iconst (v := nI 1) dX9_source_91 (by decide) ?_
          refine q_isub dX9_source_92 (pk_sub (by omega)) ?_
          refine q_iload dX9_source_93 rfl ?_
          refine q_isub dX9_source_95 (pk_sub (by omega)) ?_
          refine q_goto (tgt := 101) dX9_source_96 (by decide) ?_
          exact q_ireturn dX9_source_101 rfl rfl ⟨congrArg (fun z => some (Value.int (nI z))) (by unfold tn_src; (repeat' split) <;> omega), rfl, rfl⟩
  · refine q_iconst (v := nI 1) dX9_source_6 (by decide) ?_
    refine q_goto (tgt := 11) dX9_source_7 (by decide) ?_
    refine s_istore dX9_source_11 (by decide) rfl ?_
    refine q_iload dX9_source_13 rfl ?_
    refine q_if_eq (tgt := 27) dX9_source_15 (by decide) (fun h => absurd h (by decide)) (fun _ => ?_)
    refine q_aload_n dX9_source_18 rfl rfl ?_
    refine q_mga 1 1 dX9_source_19 hM fl_X9_9 rfl ?_
    refine q_iload_n dX9_source_22 rfl ?_
    refine q_mld (k := 1) (v := nI w) dX9_source_23 hM (by decide) rfl (show _ < (30 : Nat) by omega) (congrArg nI hw) (fun b23 => ?_)
    refine q_goto (tgt := 33) dX9_source_24 (by decide) ?_
    refine s_istore dX9_source_33 (by decide) rfl ?_
    refine q_iload_n dX9_source_35 rfl ?_
    refine q_iload dX9_source_36 rfl ?_
    refine n_icmp_ge (tgt := 45) dX9_source_38 (by decide) (by omega) (by omega) (fun c38 => ?_) (fun c38 => ?_)
    · refine q_iconst (v := nI 0) dX9_source_45 (by decide) ?_
      refine q_iload dX9_source_46 rfl ?_
      refine q_icmp_eq (tgt := 55) dX9_source_48 (by decide) (fun h => absurd h (by decide)) (fun _ => ?_)
      refine q_iconst (v := nI 1) dX9_source_51 (by decide) ?_
      refine q_goto (tgt := 56) dX9_source_52 (by decide) ?_
      refine s_istore dX9_source_56 (by decide) rfl ?_
      refine q_iload_n dX9_source_58 rfl ?_
      refine q_iload dX9_source_59 rfl ?_
      refine n_icmp_ge (tgt := 68) dX9_source_61 (by decide) (by omega) (by omega) (fun c61 => ?_) (fun c61 => ?_)
      · refine q_iload_n dX9_source_68 rfl ?_
        refine q_iload dX9_source_69 rfl ?_
        refine q_isub dX9_source_71 (pk_sub (by omega)) ?_
        refine s_istore dX9_source_72 (by decide) rfl ?_
        refine q_iload dX9_source_74 rfl ?_
        refine q_if_eq (tgt := 102) dX9_source_76 (by decide) (fun h => absurd h (by decide)) (fun _ => ?_)
        refine q_iload_n dX9_source_79 rfl ?_
        refine q_iconst (v := nI 2) dX9_source_80 (by decide) ?_
        refine q_iand dX9_source_81 (n_and _ _) ?_
        refine n_if_eq (tgt := 99) dX9_source_82 (by decide) (Nat.lt_of_le_of_lt Nat.and_le_right (by decide)) (fun c82 => ?_) (fun c82 => ?_)
        · refine q_iload dX9_source_99 rfl ?_
          exact q_ireturn dX9_source_101 rfl rfl ⟨congrArg (fun z => some (Value.int (nI z))) (by unfold tn_src; (repeat' split) <;> omega), rfl, rfl⟩
        · refine q_aload_n dX9_source_85 rfl rfl ?_
          refine q_mga 2 2 dX9_source_86 hM fl_X9_13 rfl ?_
          refine q_iload_n dX9_source_89 rfl ?_
          refine q_mld (k := 2) (v := nI h) dX9_source_90 hM (by decide) rfl (show _ < (30 : Nat) by omega) (congrArg nI hh) (fun b90 => ?_)
          refine q_iconst (v := nI 1) dX9_source_91 (by decide) ?_
          refine q_isub dX9_source_92 (pk_sub (by omega)) ?_
          refine q_iload dX9_source_93 rfl ?_
          refine q_isub dX9_source_95 (pk_sub (by omega)) ?_
          refine q_goto (tgt := 101) dX9_source_96 (by decide) ?_
          exact q_ireturn dX9_source_101 rfl rfl ⟨congrArg (fun z => some (Value.int (nI z))) (by unfold tn_src; (repeat' split) <;> omega), rfl, rfl⟩
      · refine q_iload_n dX9_source_64 rfl ?_
        refine q_goto (tgt := 72) dX9_source_65 (by decide) ?_
        refine s_istore dX9_source_72 (by decide) rfl ?_
        refine q_iload dX9_source_74 rfl ?_
        refine q_if_eq (tgt := 102) dX9_source_76 (by decide) (fun h => absurd h (by decide)) (fun _ => ?_)
        refine q_iload_n dX9_source_79 rfl ?_
        refine q_iconst (v := nI 2) dX9_source_80 (by decide) ?_
        refine q_iand dX9_source_81 (n_and _ _) ?_
        refine n_if_eq (tgt := 99) dX9_source_82 (by decide) (Nat.lt_of_le_of_lt Nat.and_le_right (by decide)) (fun c82 => ?_) (fun c82 => ?_)
        · refine q_iload dX9_source_99 rfl ?_
          exact q_ireturn dX9_source_101 rfl rfl ⟨congrArg (fun z => some (Value.int (nI z))) (by unfold tn_src; (repeat' split) <;> omega), rfl, rfl⟩
        · refine q_aload_n dX9_source_85 rfl rfl ?_
          refine q_mga 2 2 dX9_source_86 hM fl_X9_13 rfl ?_
          refine q_iload_n dX9_source_89 rfl ?_
          refine q_mld (k := 2) (v := nI h) dX9_source_90 hM (by decide) rfl (show _ < (30 : Nat) by omega) (congrArg nI hh) (fun b90 => ?_)
          refine q_iconst (v := nI 1) dX9_source_91 (by decide) ?_
          refine q_isub dX9_source_92 (pk_sub (by omega)) ?_
          refine q_iload dX9_source_93 rfl ?_
          refine q_isub dX9_source_95 (pk_sub (by omega)) ?_
          refine q_goto (tgt := 101) dX9_source_96 (by decide) ?_
          exact q_ireturn dX9_source_101 rfl rfl ⟨congrArg (fun z => some (Value.int (nI z))) (by unfold tn_src; (repeat' split) <;> omega), rfl, rfl⟩
    · refine q_iconst (v := nI 1) dX9_source_41 (by decide) ?_
      refine q_goto (tgt := 46) dX9_source_42 (by decide) ?_
      refine q_iload dX9_source_46 rfl ?_
      refine q_icmp_eq (tgt := 55) dX9_source_48 (by decide) (fun _ => ?_) (fun h => absurd h (by decide))
      refine q_iconst (v := nI 0) dX9_source_55 (by decide) ?_
      refine s_istore dX9_source_56 (by decide) rfl ?_
      refine q_iload_n dX9_source_58 rfl ?_
      refine q_iload dX9_source_59 rfl ?_
      refine n_icmp_ge (tgt := 68) dX9_source_61 (by decide) (by omega) (by omega) (fun c61 => ?_) (fun c61 => ?_)
      · refine q_iload_n dX9_source_68 rfl ?_
        refine q_iload dX9_source_69 rfl ?_
        refine q_isub dX9_source_71 (pk_sub (by omega)) ?_
        refine s_istore dX9_source_72 (by decide) rfl ?_
        refine q_iload dX9_source_74 rfl ?_
        refine q_if_eq (tgt := 102) dX9_source_76 (by decide) (fun _ => ?_) (fun h => absurd h (by decide))
        refine q_aload_n dX9_source_102 rfl rfl ?_
        refine q_mga 2 2 dX9_source_103 hM fl_X9_13 rfl ?_
        refine q_iload_n dX9_source_106 rfl ?_
        refine q_mld (k := 2) (v := nI h) dX9_source_107 hM (by decide) rfl (show _ < (30 : Nat) by omega) (congrArg nI hh) (fun b107 => ?_)
        refine q_iload_n dX9_source_108 rfl ?_
        refine q_iconst (v := nI 1) dX9_source_109 (by decide) ?_
        refine q_iand dX9_source_110 (n_and _ _) ?_
        refine n_if_eq (tgt := 128) dX9_source_111 (by decide) (Nat.lt_of_le_of_lt Nat.and_le_right (by decide)) (fun c111 => ?_) (fun c111 => ?_)
        · refine q_iload dX9_source_128 rfl ?_
          refine q_iadd dX9_source_130 (nI_add _ _) ?_
          exact q_ireturn dX9_source_131 rfl rfl ⟨congrArg (fun z => some (Value.int (nI z))) (by unfold tn_src; (repeat' split) <;> omega), rfl, rfl⟩
        · refine q_aload_n dX9_source_114 rfl rfl ?_
          refine q_mga 1 1 dX9_source_115 hM fl_X9_9 rfl ?_
          refine q_iload_n dX9_source_118 rfl ?_
          refine q_mld (k := 1) (v := nI w) dX9_source_119 hM (by decide) rfl (show _ < (30 : Nat) by omega) (congrArg nI hw) (fun b119 => ?_)
          refine q_iconst (v := nI 1) dX9_source_120 (by decide) ?_
          refine q_isub dX9_source_121 (pk_sub (by omega)) ?_
          refine q_iload dX9_source_122 rfl ?_
          refine q_isub dX9_source_124 (pk_sub (by omega)) ?_
          refine q_goto (tgt := 130) dX9_source_125 (by decide) ?_
          refine q_iadd dX9_source_130 (nI_add _ _) ?_
          exact q_ireturn dX9_source_131 rfl rfl ⟨congrArg (fun z => some (Value.int (nI z))) (by unfold tn_src; (repeat' split) <;> omega), rfl, rfl⟩
      · refine q_iload_n dX9_source_64 rfl ?_
        refine q_goto (tgt := 72) dX9_source_65 (by decide) ?_
        refine s_istore dX9_source_72 (by decide) rfl ?_
        refine q_iload dX9_source_74 rfl ?_
        refine q_if_eq (tgt := 102) dX9_source_76 (by decide) (fun _ => ?_) (fun h => absurd h (by decide))
        refine q_aload_n dX9_source_102 rfl rfl ?_
        refine q_mga 2 2 dX9_source_103 hM fl_X9_13 rfl ?_
        refine q_iload_n dX9_source_106 rfl ?_
        refine q_mld (k := 2) (v := nI h) dX9_source_107 hM (by decide) rfl (show _ < (30 : Nat) by omega) (congrArg nI hh) (fun b107 => ?_)
        refine q_iload_n dX9_source_108 rfl ?_
        refine q_iconst (v := nI 1) dX9_source_109 (by decide) ?_
        refine q_iand dX9_source_110 (n_and _ _) ?_
        refine n_if_eq (tgt := 128) dX9_source_111 (by decide) (Nat.lt_of_le_of_lt Nat.and_le_right (by decide)) (fun c111 => ?_) (fun c111 => ?_)
        · refine q_iload dX9_source_128 rfl ?_
          refine q_iadd dX9_source_130 (nI_add _ _) ?_
          exact q_ireturn dX9_source_131 rfl rfl ⟨congrArg (fun z => some (Value.int (nI z))) (by unfold tn_src; (repeat' split) <;> omega), rfl, rfl⟩
        · refine q_aload_n dX9_source_114 rfl rfl ?_
          refine q_mga 1 1 dX9_source_115 hM fl_X9_9 rfl ?_
          refine q_iload_n dX9_source_118 rfl ?_
          refine q_mld (k := 1) (v := nI w) dX9_source_119 hM (by decide) rfl (show _ < (30 : Nat) by omega) (congrArg nI hw) (fun b119 => ?_)
          refine q_iconst (v := nI 1) dX9_source_120 (by decide) ?_
          refine q_isub dX9_source_121 (pk_sub (by omega)) ?_
          refine q_iload dX9_source_122 rfl ?_
          refine q_isub dX9_source_124 (pk_sub (by omega)) ?_
          refine q_goto (tgt := 130) dX9_source_125 (by decide) ?_
          refine q_iadd dX9_source_130 (nI_add _ _) ?_
          exact q_ireturn dX9_source_131 rfl rfl ⟨congrArg (fun z => some (Value.int (nI z))) (by unfold tn_src; (repeat' split) <;> omega), rfl, rfl⟩

set_option maxHeartbeats 4000000 in
set_option maxRecDepth 100000 in
theorem c_X9_isRound {T : q_T} {m : Nat} {G0 G : q_G} {I : md_I} {A : md_A} {sz : Nat} (hM : Mod T m G0 I A G) {p h how src : Nat} (hp : p < 30) (hh : A 2 p = h) (hh2 : h ≤ 10) (hs : src < 100) : q_C T mX9_isRound 0 0 0 0 [.ref m, .int (nI p), .int (nI how), .int (nI src)] G sz (fun v G' sz' => v = some (.int (nI (tn_rd h how src))) ∧ G = G' ∧ sz = sz') := by
  refine q_C.of (by decide) rfl (by simp [Value.category]) (Nat.le_of_ble_eq_true rfl) ?_
  refine q_iload_n dX9_isRound_0 rfl ?_
  refine q_aload_n dX9_isRound_1 rfl rfl ?_
  refine q_mga 2 2 dX9_isRound_2 hM fl_X9_13 rfl ?_
  refine q_iload_n dX9_isRound_5 rfl ?_
  refine q_mld (k := 2) (v := nI h) dX9_isRound_6 hM (by decide) rfl (show _ < (30 : Nat) by omega) (congrArg nI hh) (fun b6 => ?_)
  refine n_icmp_ge (tgt := 24) dX9_isRound_7 (by decide) (by omega) (by omega) (fun c7 => ?_) (fun c7 => ?_)
  · refine q_iload_n dX9_isRound_24 rfl ?_
    refine q_iconst (v := nI 2) dX9_isRound_25 (by decide) ?_
    refine q_iand dX9_isRound_26 (n_and _ _) ?_
    refine n_if_eq (tgt := 34) dX9_isRound_27 (by decide) (Nat.lt_of_le_of_lt Nat.and_le_right (by decide)) (fun c27 => ?_) (fun c27 => ?_)
    · refine q_iconst (v := nI 0) dX9_isRound_34 (by decide) ?_
      exact q_ireturn dX9_isRound_35 rfl (by decide +kernel) ⟨congrArg (fun z => some (Value.int (nI z))) (by unfold tn_rd; (repeat' split) <;> omega), rfl, rfl⟩
    · refine q_iconst (v := nI 1) dX9_isRound_30 (by decide) ?_
      refine q_goto (tgt := 35) dX9_isRound_31 (by decide) ?_
      exact q_ireturn dX9_isRound_35 rfl (by decide +kernel) ⟨congrArg (fun z => some (Value.int (nI z))) (by unfold tn_rd; (repeat' split) <;> omega), rfl, rfl⟩
  · refine q_iload_n dX9_isRound_10 rfl ?_
    refine q_iconst (v := nI 1) dX9_isRound_11 (by decide) ?_
    refine q_iand dX9_isRound_12 (n_and _ _) ?_
    refine n_if_eq (tgt := 20) dX9_isRound_13 (by decide) (Nat.lt_of_le_of_lt Nat.and_le_right (by decide)) (fun c13 => ?_) (fun c13 => ?_)
    · refine q_iconst (v := nI 0) dX9_isRound_20 (by decide) ?_
      refine q_goto (tgt := 35) dX9_isRound_21 (by decide) ?_
      exact q_ireturn dX9_isRound_35 rfl (by decide +kernel) ⟨congrArg (fun z => some (Value.int (nI z))) (by unfold tn_rd; (repeat' split) <;> omega), rfl, rfl⟩
    · refine q_iconst (v := nI 1) dX9_isRound_16 (by decide) ?_
      refine q_goto (tgt := 35) dX9_isRound_17 (by decide) ?_
      exact q_ireturn dX9_isRound_35 rfl (by decide +kernel) ⟨congrArg (fun z => some (Value.int (nI z))) (by unfold tn_rd; (repeat' split) <;> omega), rfl, rfl⟩

set_option maxHeartbeats 4000000 in
set_option maxRecDepth 100000 in
theorem l_X9_isSame2 {T : q_T} {m : Nat} {G0 G : q_G} {I : md_I} {A : md_A} {sz t : Nat} {E : q_E} {p q how : Nat} (hM : Mod T m G0 I A G) (hI : Inv t I A) (hp : p < I 0) (hq0 : q < I 0) (e1 : A 1 q = tn_w A p how) (e2 : A 2 q = tn_h A p how) {ln : Nat} {x4 : Option Value} (hln : ln < A 1 q + A 2 q) (hne : pz_n A q ln = pz_n A p (tn_at A p how ln)) (hx : ∀ x9 : Option Value, (∀ i, i < pz_n A p (tn_at A p how ln) → pz_c A q ln i = tn_c A p how ln i ∧ pz_l A q ln i = tn_l A p how ln i) → q_R T mX9_isSame 1 27 245 [some (.ref m), some (.int (nI p)), some (.int (nI q)), some (.int (nI how)), x4, some (.int (nI ln)), some (.int (nI (tn_at A p how ln))), some (.int (nI (pz_n A p (tn_at A p how ln)))), some (.int (nI (pz_n A p (tn_at A p how ln)))), x9] [] G sz 0 0 E) (hno : ∀ k, k < pz_n A p (tn_at A p how ln) → ¬ (pz_c A q ln k = tn_c A p how ln k ∧ pz_l A q ln k = tn_l A p how ln k) → E (some (.int (nI 0))) G sz) : ∀ (k : Nat) (_ : Unit), ∀ x9 : Option Value, k ≤ pz_n A p (tn_at A p how ln) → (∀ i, i < k → pz_c A q ln i = tn_c A p how ln i ∧ pz_l A q ln i = tn_l A p how ln i) → q_R T mX9_isSame 1 27 147 [some (.ref m), some (.int (nI p)), some (.int (nI q)), some (.int (nI how)), x4, some (.int (nI ln)), some (.int (nI (tn_at A p how ln))), some (.int (nI (pz_n A p (tn_at A p how ln)))), some (.int (nI k)), x9] [] G sz 0 0 E := by
  refine q_indN (fun k _ => pz_n A p (tn_at A p how ln) - k) _ (fun k _ ih => ?_)
  intro x9 hk hall
  have hp30 := hI.1
  have hwp := hI.puz p hp
  have hwq := hI.puz q hq0
  have hlq : A 1 q + A 2 q = A 1 p + A 2 p := by rw [e1, e2]; unfold tn_w tn_h; split <;> omega
  have hsl : tn_at A p how ln < A 1 p + A 2 p := tn_src_lt hwp.1 hwp.2.2.1 (by omega)
  have hn10 := ((hI.2.1 p hp).1.2.2.2.2 _ hsl).1
  refine q_iload dX9_isSame_147 rfl ?_
  refine q_iload dX9_isSame_149 rfl ?_
  refine n_icmp_ge (tgt := 245) dX9_isSame_151 (by decide) (by omega) (by omega) (fun c151 => ?_) (fun c151 => ?_)
  · obtain rfl : k = pz_n A p (tn_at A p how ln) := by omega
    exact hx _ hall
  · refine q_aload_n dX9_isSame_154 rfl rfl ?_
    refine q_iload_n dX9_isSame_155 rfl ?_
    refine q_iload dX9_isSame_156 rfl ?_
    refine q_iv (As := [_, _]) dX9_isSame_158 ml_X9_121 mt_X9_runAt mi_X9_runAt se_X9_runAt hM.1 rfl rfl (Nat.le_of_ble_eq_true rfl) (Nat.le_of_ble_eq_true rfl) (Nat.zero_le _) (Nat.zero_le _) (Nat.le_of_ble_eq_true rfl) (q_C.mono (c_X9_runAt hM _ _) (fun v G1 sz1 hq => ?_))
    obtain ⟨rfl, rfl, rfl⟩ := hq
    refine q_aload_n dX9_isSame_161 rfl rfl ?_
    refine q_iload_n dX9_isSame_162 rfl ?_
    refine q_iload_n dX9_isSame_163 rfl ?_
    refine q_iload dX9_isSame_164 rfl ?_
    refine q_iv (As := [_, _, _]) dX9_isSame_166 ml_X9_207 mt_X9_isRound mi_X9_isRound se_X9_isRound hM.1 rfl rfl (Nat.le_of_ble_eq_true rfl) (Nat.le_of_ble_eq_true rfl) (Nat.zero_le _) (Nat.zero_le _) (Nat.le_of_ble_eq_true rfl) (q_C.mono (c_X9_isRound (h := A 2 p) hM (by omega) rfl (by omega) (show tn_at A p how ln < 100 by omega)) (fun v G1 sz1 hq => ?_))
    obtain ⟨rfl, rfl, rfl⟩ := hq
    have hrd1 : tn_rd (A 2 p) how (tn_at A p how ln) ≤ 1 := by unfold tn_rd; (repeat' split) <;> omega
    refine n_if_eq (tgt := 182) dX9_isSame_169 (by decide) (by omega) (fun c169 => ?_) (fun c169 => ?_)
    · refine q_iload dX9_isSame_182 rfl ?_
      refine q_iadd dX9_isSame_184 (nI_add _ _) ?_
      have hix : 10 * (20 * p + tn_at A p how ln) + k = 10 * (20 * p + tn_at A p how ln) + tn_ix (pz_n A p (tn_at A p how ln)) (tn_rd (A 2 p) how (tn_at A p how ln)) k := by unfold tn_ix; rw [if_pos c169]
      have hixl : tn_ix (pz_n A p (tn_at A p how ln)) (tn_rd (A 2 p) how (tn_at A p how ln)) k < pz_n A p (tn_at A p how ln) := by unfold tn_ix; split <;> omega
      refine s_istore dX9_isSame_185 (by decide) rfl ?_
      refine q_aload_n dX9_isSame_187 rfl rfl ?_
      refine q_mga 6 6 dX9_isSame_188 hM fl_X9_26 rfl ?_
      refine q_aload_n dX9_isSame_191 rfl rfl ?_
      refine q_iload_n dX9_isSame_192 rfl ?_
      refine q_iload dX9_isSame_193 rfl ?_
      refine q_iv (As := [_, _]) dX9_isSame_195 ml_X9_121 mt_X9_runAt mi_X9_runAt se_X9_runAt hM.1 rfl rfl (Nat.le_of_ble_eq_true rfl) (Nat.le_of_ble_eq_true rfl) (Nat.zero_le _) (Nat.zero_le _) (Nat.le_of_ble_eq_true rfl) (q_C.mono (c_X9_runAt hM _ _) (fun v G1 sz1 hq => ?_))
      obtain ⟨rfl, rfl, rfl⟩ := hq
      refine q_iload dX9_isSame_198 rfl ?_
      refine q_iadd dX9_isSame_200 (nI_add _ _) ?_
      refine q_mld (k := 6) (v := nI (pz_c A q ln k)) dX9_isSame_201 hM (by decide) rfl (show _ < (6000 : Nat) by omega) rfl (fun b201 => ?_)
      refine q_aload_n dX9_isSame_202 rfl rfl ?_
      refine q_mga 6 6 dX9_isSame_203 hM fl_X9_26 rfl ?_
      refine q_iload dX9_isSame_206 rfl ?_
      refine q_mld (k := 6) (v := nI (tn_c A p how ln k)) dX9_isSame_208 hM (by decide) rfl (show _ < (6000 : Nat) by omega) (congrArg nI (by rw [hix]; rfl)) (fun b208 => ?_)
      refine n_icmp_ne (tgt := 237) dX9_isSame_209 (by decide) (by have : pz_c A q ln k ≤ 100000 := hM.2.2.2.2 6 _; omega) (by have : tn_c A p how ln k ≤ 100000 := hM.2.2.2.2 6 _; omega) (fun c209 => ?_) (fun c209 => ?_)
      · refine q_iconst (v := nI 0) dX9_isSame_237 (by decide) ?_
        exact q_ireturn dX9_isSame_238 rfl (by decide +kernel) (hno k (by omega) (fun h => c209 h.1))
      · refine q_aload_n dX9_isSame_212 rfl rfl ?_
        refine q_mga 7 7 dX9_isSame_213 hM fl_X9_29 rfl ?_
        refine q_aload_n dX9_isSame_216 rfl rfl ?_
        refine q_iload_n dX9_isSame_217 rfl ?_
        refine q_iload dX9_isSame_218 rfl ?_
        refine q_iv (As := [_, _]) dX9_isSame_220 ml_X9_121 mt_X9_runAt mi_X9_runAt se_X9_runAt hM.1 rfl rfl (Nat.le_of_ble_eq_true rfl) (Nat.le_of_ble_eq_true rfl) (Nat.zero_le _) (Nat.zero_le _) (Nat.le_of_ble_eq_true rfl) (q_C.mono (c_X9_runAt hM _ _) (fun v G1 sz1 hq => ?_))
        obtain ⟨rfl, rfl, rfl⟩ := hq
        refine q_iload dX9_isSame_223 rfl ?_
        refine q_iadd dX9_isSame_225 (nI_add _ _) ?_
        refine q_mld (k := 7) (v := nI (pz_l A q ln k)) dX9_isSame_226 hM (by decide) rfl (show _ < (6000 : Nat) by omega) rfl (fun b226 => ?_)
        refine q_aload_n dX9_isSame_227 rfl rfl ?_
        refine q_mga 7 7 dX9_isSame_228 hM fl_X9_29 rfl ?_
        refine q_iload dX9_isSame_231 rfl ?_
        refine q_mld (k := 7) (v := nI (tn_l A p how ln k)) dX9_isSame_233 hM (by decide) rfl (show _ < (6000 : Nat) by omega) (congrArg nI (by rw [hix]; rfl)) (fun b233 => ?_)
        refine n_icmp_eq (tgt := 239) dX9_isSame_234 (by decide) (by have : pz_l A q ln k ≤ 100000 := hM.2.2.2.2 7 _; omega) (by have : tn_l A p how ln k ≤ 100000 := hM.2.2.2.2 7 _; omega) (fun c234 => ?_) (fun c234 => ?_)
        · refine s_iinc dX9_isSame_239 rfl (s_inc1 _) (by decide) rfl ?_
          refine q_goto (tgt := 147) dX9_isSame_242 (by decide) ?_
          exact ih (k + 1) () (by omega) _ (by omega) (fun i hi => by rcases Nat.lt_or_ge i k with h | h; exact hall i h; rw [show i = k by omega]; exact ⟨c209, c234⟩)
        · refine q_iconst (v := nI 0) dX9_isSame_237 (by decide) ?_
          exact q_ireturn dX9_isSame_238 rfl (by decide +kernel) (hno k (by omega) (fun h => c234 h.2))
    · refine q_iload dX9_isSame_172 rfl ?_
      refine q_iconst (v := nI 1) dX9_isSame_174 (by decide) ?_
      refine q_isub dX9_isSame_175 (pk_sub (by omega)) ?_
      refine q_iload dX9_isSame_176 rfl ?_
      refine q_isub dX9_isSame_178 (pk_sub (by omega)) ?_
      refine q_goto (tgt := 184) dX9_isSame_179 (by decide) ?_
      refine q_iadd dX9_isSame_184 (nI_add _ _) ?_
      have hix : 10 * (20 * p + tn_at A p how ln) + (pz_n A p (tn_at A p how ln) - 1 - k) = 10 * (20 * p + tn_at A p how ln) + tn_ix (pz_n A p (tn_at A p how ln)) (tn_rd (A 2 p) how (tn_at A p how ln)) k := by unfold tn_ix; rw [if_neg c169]
      have hixl : tn_ix (pz_n A p (tn_at A p how ln)) (tn_rd (A 2 p) how (tn_at A p how ln)) k < pz_n A p (tn_at A p how ln) := by unfold tn_ix; split <;> omega
      refine s_istore dX9_isSame_185 (by decide) rfl ?_
      refine q_aload_n dX9_isSame_187 rfl rfl ?_
      refine q_mga 6 6 dX9_isSame_188 hM fl_X9_26 rfl ?_
      refine q_aload_n dX9_isSame_191 rfl rfl ?_
      refine q_iload_n dX9_isSame_192 rfl ?_
      refine q_iload dX9_isSame_193 rfl ?_
      refine q_iv (As := [_, _]) dX9_isSame_195 ml_X9_121 mt_X9_runAt mi_X9_runAt se_X9_runAt hM.1 rfl rfl (Nat.le_of_ble_eq_true rfl) (Nat.le_of_ble_eq_true rfl) (Nat.zero_le _) (Nat.zero_le _) (Nat.le_of_ble_eq_true rfl) (q_C.mono (c_X9_runAt hM _ _) (fun v G1 sz1 hq => ?_))
      obtain ⟨rfl, rfl, rfl⟩ := hq
      refine q_iload dX9_isSame_198 rfl ?_
      refine q_iadd dX9_isSame_200 (nI_add _ _) ?_
      refine q_mld (k := 6) (v := nI (pz_c A q ln k)) dX9_isSame_201 hM (by decide) rfl (show _ < (6000 : Nat) by omega) rfl (fun b201 => ?_)
      refine q_aload_n dX9_isSame_202 rfl rfl ?_
      refine q_mga 6 6 dX9_isSame_203 hM fl_X9_26 rfl ?_
      refine q_iload dX9_isSame_206 rfl ?_
      refine q_mld (k := 6) (v := nI (tn_c A p how ln k)) dX9_isSame_208 hM (by decide) rfl (show _ < (6000 : Nat) by omega) (congrArg nI (by rw [hix]; rfl)) (fun b208 => ?_)
      refine n_icmp_ne (tgt := 237) dX9_isSame_209 (by decide) (by have : pz_c A q ln k ≤ 100000 := hM.2.2.2.2 6 _; omega) (by have : tn_c A p how ln k ≤ 100000 := hM.2.2.2.2 6 _; omega) (fun c209 => ?_) (fun c209 => ?_)
      · refine q_iconst (v := nI 0) dX9_isSame_237 (by decide) ?_
        exact q_ireturn dX9_isSame_238 rfl (by decide +kernel) (hno k (by omega) (fun h => c209 h.1))
      · refine q_aload_n dX9_isSame_212 rfl rfl ?_
        refine q_mga 7 7 dX9_isSame_213 hM fl_X9_29 rfl ?_
        refine q_aload_n dX9_isSame_216 rfl rfl ?_
        refine q_iload_n dX9_isSame_217 rfl ?_
        refine q_iload dX9_isSame_218 rfl ?_
        refine q_iv (As := [_, _]) dX9_isSame_220 ml_X9_121 mt_X9_runAt mi_X9_runAt se_X9_runAt hM.1 rfl rfl (Nat.le_of_ble_eq_true rfl) (Nat.le_of_ble_eq_true rfl) (Nat.zero_le _) (Nat.zero_le _) (Nat.le_of_ble_eq_true rfl) (q_C.mono (c_X9_runAt hM _ _) (fun v G1 sz1 hq => ?_))
        obtain ⟨rfl, rfl, rfl⟩ := hq
        refine q_iload dX9_isSame_223 rfl ?_
        refine q_iadd dX9_isSame_225 (nI_add _ _) ?_
        refine q_mld (k := 7) (v := nI (pz_l A q ln k)) dX9_isSame_226 hM (by decide) rfl (show _ < (6000 : Nat) by omega) rfl (fun b226 => ?_)
        refine q_aload_n dX9_isSame_227 rfl rfl ?_
        refine q_mga 7 7 dX9_isSame_228 hM fl_X9_29 rfl ?_
        refine q_iload dX9_isSame_231 rfl ?_
        refine q_mld (k := 7) (v := nI (tn_l A p how ln k)) dX9_isSame_233 hM (by decide) rfl (show _ < (6000 : Nat) by omega) (congrArg nI (by rw [hix]; rfl)) (fun b233 => ?_)
        refine n_icmp_eq (tgt := 239) dX9_isSame_234 (by decide) (by have : pz_l A q ln k ≤ 100000 := hM.2.2.2.2 7 _; omega) (by have : tn_l A p how ln k ≤ 100000 := hM.2.2.2.2 7 _; omega) (fun c234 => ?_) (fun c234 => ?_)
        · refine s_iinc dX9_isSame_239 rfl (s_inc1 _) (by decide) rfl ?_
          refine q_goto (tgt := 147) dX9_isSame_242 (by decide) ?_
          exact ih (k + 1) () (by omega) _ (by omega) (fun i hi => by rcases Nat.lt_or_ge i k with h | h; exact hall i h; rw [show i = k by omega]; exact ⟨c209, c234⟩)
        · refine q_iconst (v := nI 0) dX9_isSame_237 (by decide) ?_
          exact q_ireturn dX9_isSame_238 rfl (by decide +kernel) (hno k (by omega) (fun h => c234 h.2))

set_option maxHeartbeats 4000000 in
set_option maxRecDepth 100000 in
theorem l_X9_isSame1 {T : q_T} {m : Nat} {G0 G : q_G} {I : md_I} {A : md_A} {sz t : Nat} {E : q_E} {p q how : Nat} (hM : Mod T m G0 I A G) (hI : Inv t I A) (hp : p < I 0) (hq0 : q < I 0) (e1 : A 1 q = tn_w A p how) (e2 : A 2 q = tn_h A p how) {x4 : Option Value} (hx : (∀ ln, ln < A 1 q + A 2 q → pz_n A q ln = pz_n A p (tn_at A p how ln) ∧ ∀ k, k < pz_n A q ln → pz_c A q ln k = tn_c A p how ln k ∧ pz_l A q ln k = tn_l A p how ln k) → E (some (.int (nI 1))) G sz) (hno : ∀ ln, ln < A 1 q + A 2 q → ¬ (pz_n A q ln = pz_n A p (tn_at A p how ln) ∧ ∀ k, k < pz_n A q ln → pz_c A q ln k = tn_c A p how ln k ∧ pz_l A q ln k = tn_l A p how ln k) → E (some (.int (nI 0))) G sz) : ∀ (ln : Nat) (_ : Unit), ∀ x6 x7 x8 x9 : Option Value, ln ≤ A 1 q + A 2 q → (∀ i, i < ln → pz_n A q i = pz_n A p (tn_at A p how i) ∧ ∀ k, k < pz_n A q i → pz_c A q i k = tn_c A p how i k ∧ pz_l A q i k = tn_l A p how i k) → q_R T mX9_isSame 1 27 91 [some (.ref m), some (.int (nI p)), some (.int (nI q)), some (.int (nI how)), x4, some (.int (nI ln)), x6, x7, x8, x9] [] G sz 0 0 E := by
  refine q_indN (fun ln _ => A 1 q + A 2 q - ln) _ (fun ln _ ih => ?_)
  intro x6 x7 x8 x9 hk hall
  have hp30 := hI.1
  have hwp := hI.puz p hp
  have hwq := hI.puz q hq0
  have hlq : A 1 q + A 2 q = A 1 p + A 2 p := by rw [e1, e2]; unfold tn_w tn_h; split <;> omega
  refine q_iload dX9_isSame_91 rfl ?_
  refine q_aload_n dX9_isSame_93 rfl rfl ?_
  refine q_iload_n dX9_isSame_94 rfl ?_
  refine q_iv (As := [_]) dX9_isSame_95 ml_X9_104 mt_X9_linesOf mi_X9_linesOf se_X9_linesOf hM.1 rfl rfl (Nat.le_of_ble_eq_true rfl) (Nat.le_of_ble_eq_true rfl) (Nat.zero_le _) (Nat.zero_le _) (Nat.le_of_ble_eq_true rfl) (q_C.mono (c_X9_linesOf (w := A 1 q) (h := A 2 q) hM (by omega) rfl rfl) (fun v G1 sz1 hq => ?_))
  obtain ⟨rfl, rfl, rfl⟩ := hq
  refine n_icmp_ge (tgt := 251) dX9_isSame_98 (by decide) (by omega) (by omega) (fun c98 => ?_) (fun c98 => ?_)
  · obtain rfl : ln = A 1 q + A 2 q := by omega
    refine q_iconst (v := nI 1) dX9_isSame_251 (by decide) ?_
    exact q_ireturn dX9_isSame_252 rfl (by decide +kernel) (hx hall)
  · refine q_aload_n dX9_isSame_101 rfl rfl ?_
    refine q_iload_n dX9_isSame_102 rfl ?_
    refine q_iload_n dX9_isSame_103 rfl ?_
    refine q_iload dX9_isSame_104 rfl ?_
    refine q_iv (As := [_, _, _]) dX9_isSame_106 ml_X9_204 mt_X9_source mi_X9_source se_X9_source hM.1 rfl rfl (Nat.le_of_ble_eq_true rfl) (Nat.le_of_ble_eq_true rfl) (Nat.zero_le _) (Nat.zero_le _) (Nat.le_of_ble_eq_true rfl) (q_C.mono (c_X9_source (w := A 1 p) (h := A 2 p) hM (by omega) rfl rfl (by omega) (by omega) (by omega)) (fun v G1 sz1 hq => ?_))
    obtain ⟨rfl, rfl, rfl⟩ := hq
    have hsl := tn_src_lt (how := how) (show 1 ≤ A 1 p by omega) (show 1 ≤ A 2 p by omega) (show ln < A 1 p + A 2 p by omega)
    refine s_istore dX9_isSame_109 (by decide) rfl ?_
    refine q_aload_n dX9_isSame_111 rfl rfl ?_
    refine q_mga 5 5 dX9_isSame_112 hM fl_X9_23 rfl ?_
    refine q_bipush (v := nI 20) dX9_isSame_115 (by decide) ?_
    refine q_iload_n dX9_isSame_117 rfl ?_
    refine q_imul dX9_isSame_118 (pk_mul _ _) ?_
    refine q_iload dX9_isSame_119 rfl ?_
    refine q_iadd dX9_isSame_121 (nI_add _ _) ?_
    refine q_mld (k := 5) (v := nI (pz_n A p (tn_at A p how ln))) dX9_isSame_122 hM (by decide) rfl (show _ < (600 : Nat) by omega) rfl (fun b122 => ?_)
    refine s_istore dX9_isSame_123 (by decide) rfl ?_
    refine q_aload_n dX9_isSame_125 rfl rfl ?_
    refine q_mga 5 5 dX9_isSame_126 hM fl_X9_23 rfl ?_
    refine q_bipush (v := nI 20) dX9_isSame_129 (by decide) ?_
    refine q_iload_n dX9_isSame_131 rfl ?_
    refine q_imul dX9_isSame_132 (pk_mul _ _) ?_
    refine q_iload dX9_isSame_133 rfl ?_
    refine q_iadd dX9_isSame_135 (nI_add _ _) ?_
    refine q_mld (k := 5) (v := nI (pz_n A q ln)) dX9_isSame_136 hM (by decide) rfl (show _ < (600 : Nat) by omega) rfl (fun b136 => ?_)
    refine q_iload dX9_isSame_137 rfl ?_
    refine n_icmp_eq (tgt := 144) dX9_isSame_139 (by decide) (by have : pz_n A q ln ≤ 100000 := hM.2.2.2.2 5 _; omega) (by have : pz_n A p (tn_at A p how ln) ≤ 100000 := hM.2.2.2.2 5 _; omega) (fun c139 => ?_) (fun c139 => ?_)
    · refine q_iconst (v := nI 0) dX9_isSame_144 (by decide) ?_
      refine s_istore dX9_isSame_145 (by decide) rfl ?_
      refine l_X9_isSame2 hM hI hp hq0 e1 e2 c98 c139 (fun x9 hall2 => ?_) (fun k hk hne2 => hno ln c98 (fun h => hne2 (h.2 k (by rw [c139]; exact hk)))) 0 () _ (Nat.zero_le _) (fun i hi => by omega)
      refine s_iinc dX9_isSame_245 rfl (s_inc1 _) (by decide) rfl ?_
      refine q_goto (tgt := 91) dX9_isSame_248 (by decide) ?_
      exact ih (ln + 1) () (by omega) _ _ _ _ (by omega) (fun i hi => by rcases Nat.lt_or_ge i ln with h | h; exact hall i h; rw [show i = ln by omega]; exact ⟨c139, fun k hk => hall2 k (by rw [← c139]; exact hk)⟩)
    · refine q_iconst (v := nI 0) dX9_isSame_142 (by decide) ?_
      exact q_ireturn dX9_isSame_143 rfl (by decide +kernel) (hno ln c98 (fun h => c139 h.1))

set_option maxHeartbeats 4000000 in
set_option maxRecDepth 100000 in
theorem c_X9_isSame {T : q_T} {m : Nat} {G0 G : q_G} {I : md_I} {A : md_A} {sz t : Nat} (hM : Mod T m G0 I A G) (hI : Inv t I A) {p q how : Nat} (hp : p < I 0) (hq0 : q < I 0) : q_C T mX9_isSame 1 27 0 0 [.ref m, .int (nI p), .int (nI q), .int (nI how)] G sz (fun v G' sz' => (tn_same A p q how ∧ v = some (.int (nI 1)) ∨ ¬ tn_same A p q how ∧ v = some (.int (nI 0))) ∧ G = G' ∧ sz = sz') := by
  refine q_C.of (by decide) rfl (by simp [Value.category]) (Nat.le_of_ble_eq_true rfl) ?_
  have hp30 := hI.1
  refine q_iload_n dX9_isSame_0 rfl ?_
  refine q_iconst (v := nI 4) dX9_isSame_1 (by decide) ?_
  refine q_iand dX9_isSame_2 (n_and _ _) ?_
  refine n_if_eq (tgt := 10) dX9_isSame_3 (by decide) (Nat.lt_of_le_of_lt Nat.and_le_right (by decide)) (fun c3 => ?_) (fun c3 => ?_)
  · refine q_iconst (v := nI 0) dX9_isSame_10 (by decide) ?_
    refine s_istore dX9_isSame_11 (by decide) rfl ?_
    refine q_aload_n dX9_isSame_13 rfl rfl ?_
    refine q_mga 1 1 dX9_isSame_14 hM fl_X9_9 rfl ?_
    refine q_iload_n dX9_isSame_17 rfl ?_
    refine q_mld (k := 1) (v := nI (A 1 q)) dX9_isSame_18 hM (by decide) rfl (show _ < (30 : Nat) by omega) rfl (fun b18 => ?_)
    refine q_iload dX9_isSame_19 rfl ?_
    refine q_if_eq (tgt := 33) dX9_isSame_21 (by decide) (fun _ => ?_) (fun h => absurd h (by decide))
    refine q_aload_n dX9_isSame_33 rfl rfl ?_
    refine q_mga 1 1 dX9_isSame_34 hM fl_X9_9 rfl ?_
    refine q_iload_n dX9_isSame_37 rfl ?_
    refine q_mld (k := 1) (v := nI (A 1 p)) dX9_isSame_38 hM (by decide) rfl (show _ < (30 : Nat) by omega) rfl (fun b38 => ?_)
    refine n_icmp_ne (tgt := 86) dX9_isSame_39 (by decide) (by omega) (by omega) (fun c39 => ?_) (fun c39 => ?_)
    · refine q_iconst (v := nI 0) dX9_isSame_86 (by decide) ?_
      exact q_ireturn dX9_isSame_87 rfl (by decide +kernel) ⟨Or.inr ⟨fun h => by have g1 := h.1; have g2 := h.2.1; have g3 := h.2.2.1; unfold tn_w at g1; unfold tn_h at g2; first | exact absurd g3 (by assumption) | (revert g1 g2; (repeat' split) <;> omega), rfl⟩, rfl, rfl⟩
    · refine q_aload_n dX9_isSame_42 rfl rfl ?_
      refine q_mga 2 2 dX9_isSame_43 hM fl_X9_13 rfl ?_
      refine q_iload_n dX9_isSame_46 rfl ?_
      refine q_mld (k := 2) (v := nI (A 2 q)) dX9_isSame_47 hM (by decide) rfl (show _ < (30 : Nat) by omega) rfl (fun b47 => ?_)
      refine q_iload dX9_isSame_48 rfl ?_
      refine q_if_eq (tgt := 62) dX9_isSame_50 (by decide) (fun _ => ?_) (fun h => absurd h (by decide))
      refine q_aload_n dX9_isSame_62 rfl rfl ?_
      refine q_mga 2 2 dX9_isSame_63 hM fl_X9_13 rfl ?_
      refine q_iload_n dX9_isSame_66 rfl ?_
      refine q_mld (k := 2) (v := nI (A 2 p)) dX9_isSame_67 hM (by decide) rfl (show _ < (30 : Nat) by omega) rfl (fun b67 => ?_)
      refine n_icmp_ne (tgt := 86) dX9_isSame_68 (by decide) (by omega) (by omega) (fun c68 => ?_) (fun c68 => ?_)
      · refine q_iconst (v := nI 0) dX9_isSame_86 (by decide) ?_
        exact q_ireturn dX9_isSame_87 rfl (by decide +kernel) ⟨Or.inr ⟨fun h => by have g1 := h.1; have g2 := h.2.1; have g3 := h.2.2.1; unfold tn_w at g1; unfold tn_h at g2; first | exact absurd g3 (by assumption) | (revert g1 g2; (repeat' split) <;> omega), rfl⟩, rfl, rfl⟩
      · refine q_aload_n dX9_isSame_71 rfl rfl ?_
        refine q_mga 3 3 dX9_isSame_72 hM fl_X9_16 rfl ?_
        refine q_iload_n dX9_isSame_75 rfl ?_
        refine q_mld (k := 3) (v := nI (A 3 p)) dX9_isSame_76 hM (by decide) rfl (show _ < (30 : Nat) by omega) rfl (fun b76 => ?_)
        refine q_aload_n dX9_isSame_77 rfl rfl ?_
        refine q_mga 3 3 dX9_isSame_78 hM fl_X9_16 rfl ?_
        refine q_iload_n dX9_isSame_81 rfl ?_
        refine q_mld (k := 3) (v := nI (A 3 q)) dX9_isSame_82 hM (by decide) rfl (show _ < (30 : Nat) by omega) rfl (fun b82 => ?_)
        refine n_icmp_eq (tgt := 88) dX9_isSame_83 (by decide) (by omega) (by omega) (fun c83 => ?_) (fun c83 => ?_)
        · refine q_iconst (v := nI 0) dX9_isSame_88 (by decide) ?_
          refine s_istore dX9_isSame_89 (by decide) rfl ?_
          have e1 : A 1 q = tn_w A p how := by unfold tn_w; split <;> omega
          have e2 : A 2 q = tn_h A p how := by unfold tn_h; split <;> omega
          exact l_X9_isSame1 hM hI hp hq0 e1 e2 (fun h => ⟨Or.inl ⟨⟨e1, e2, c83, h⟩, rfl⟩, rfl, rfl⟩) (fun ln hl hne => ⟨Or.inr ⟨fun h => hne (h.2.2.2 ln hl), rfl⟩, rfl, rfl⟩) 0 () _ _ _ _ (Nat.zero_le _) (fun i hi => by omega)
        · refine q_iconst (v := nI 0) dX9_isSame_86 (by decide) ?_
          exact q_ireturn dX9_isSame_87 rfl (by decide +kernel) ⟨Or.inr ⟨fun h => by have g1 := h.1; have g2 := h.2.1; have g3 := h.2.2.1; unfold tn_w at g1; unfold tn_h at g2; first | exact absurd g3 (by assumption) | (revert g1 g2; (repeat' split) <;> omega), rfl⟩, rfl, rfl⟩
  · refine q_iconst (v := nI 1) dX9_isSame_6 (by decide) ?_
    refine q_goto (tgt := 11) dX9_isSame_7 (by decide) ?_
    refine s_istore dX9_isSame_11 (by decide) rfl ?_
    refine q_aload_n dX9_isSame_13 rfl rfl ?_
    refine q_mga 1 1 dX9_isSame_14 hM fl_X9_9 rfl ?_
    refine q_iload_n dX9_isSame_17 rfl ?_
    refine q_mld (k := 1) (v := nI (A 1 q)) dX9_isSame_18 hM (by decide) rfl (show _ < (30 : Nat) by omega) rfl (fun b18 => ?_)
    refine q_iload dX9_isSame_19 rfl ?_
    refine q_if_eq (tgt := 33) dX9_isSame_21 (by decide) (fun h => absurd h (by decide)) (fun _ => ?_)
    refine q_aload_n dX9_isSame_24 rfl rfl ?_
    refine q_mga 2 2 dX9_isSame_25 hM fl_X9_13 rfl ?_
    refine q_iload_n dX9_isSame_28 rfl ?_
    refine q_mld (k := 2) (v := nI (A 2 p)) dX9_isSame_29 hM (by decide) rfl (show _ < (30 : Nat) by omega) rfl (fun b29 => ?_)
    refine q_goto (tgt := 39) dX9_isSame_30 (by decide) ?_
    refine n_icmp_ne (tgt := 86) dX9_isSame_39 (by decide) (by omega) (by omega) (fun c39 => ?_) (fun c39 => ?_)
    · refine q_iconst (v := nI 0) dX9_isSame_86 (by decide) ?_
      exact q_ireturn dX9_isSame_87 rfl (by decide +kernel) ⟨Or.inr ⟨fun h => by have g1 := h.1; have g2 := h.2.1; have g3 := h.2.2.1; unfold tn_w at g1; unfold tn_h at g2; first | exact absurd g3 (by assumption) | (revert g1 g2; (repeat' split) <;> omega), rfl⟩, rfl, rfl⟩
    · refine q_aload_n dX9_isSame_42 rfl rfl ?_
      refine q_mga 2 2 dX9_isSame_43 hM fl_X9_13 rfl ?_
      refine q_iload_n dX9_isSame_46 rfl ?_
      refine q_mld (k := 2) (v := nI (A 2 q)) dX9_isSame_47 hM (by decide) rfl (show _ < (30 : Nat) by omega) rfl (fun b47 => ?_)
      refine q_iload dX9_isSame_48 rfl ?_
      refine q_if_eq (tgt := 62) dX9_isSame_50 (by decide) (fun h => absurd h (by decide)) (fun _ => ?_)
      refine q_aload_n dX9_isSame_53 rfl rfl ?_
      refine q_mga 1 1 dX9_isSame_54 hM fl_X9_9 rfl ?_
      refine q_iload_n dX9_isSame_57 rfl ?_
      refine q_mld (k := 1) (v := nI (A 1 p)) dX9_isSame_58 hM (by decide) rfl (show _ < (30 : Nat) by omega) rfl (fun b58 => ?_)
      refine q_goto (tgt := 68) dX9_isSame_59 (by decide) ?_
      refine n_icmp_ne (tgt := 86) dX9_isSame_68 (by decide) (by omega) (by omega) (fun c68 => ?_) (fun c68 => ?_)
      · refine q_iconst (v := nI 0) dX9_isSame_86 (by decide) ?_
        exact q_ireturn dX9_isSame_87 rfl (by decide +kernel) ⟨Or.inr ⟨fun h => by have g1 := h.1; have g2 := h.2.1; have g3 := h.2.2.1; unfold tn_w at g1; unfold tn_h at g2; first | exact absurd g3 (by assumption) | (revert g1 g2; (repeat' split) <;> omega), rfl⟩, rfl, rfl⟩
      · refine q_aload_n dX9_isSame_71 rfl rfl ?_
        refine q_mga 3 3 dX9_isSame_72 hM fl_X9_16 rfl ?_
        refine q_iload_n dX9_isSame_75 rfl ?_
        refine q_mld (k := 3) (v := nI (A 3 p)) dX9_isSame_76 hM (by decide) rfl (show _ < (30 : Nat) by omega) rfl (fun b76 => ?_)
        refine q_aload_n dX9_isSame_77 rfl rfl ?_
        refine q_mga 3 3 dX9_isSame_78 hM fl_X9_16 rfl ?_
        refine q_iload_n dX9_isSame_81 rfl ?_
        refine q_mld (k := 3) (v := nI (A 3 q)) dX9_isSame_82 hM (by decide) rfl (show _ < (30 : Nat) by omega) rfl (fun b82 => ?_)
        refine n_icmp_eq (tgt := 88) dX9_isSame_83 (by decide) (by omega) (by omega) (fun c83 => ?_) (fun c83 => ?_)
        · refine q_iconst (v := nI 0) dX9_isSame_88 (by decide) ?_
          refine s_istore dX9_isSame_89 (by decide) rfl ?_
          have e1 : A 1 q = tn_w A p how := by unfold tn_w; split <;> omega
          have e2 : A 2 q = tn_h A p how := by unfold tn_h; split <;> omega
          exact l_X9_isSame1 hM hI hp hq0 e1 e2 (fun h => ⟨Or.inl ⟨⟨e1, e2, c83, h⟩, rfl⟩, rfl, rfl⟩) (fun ln hl hne => ⟨Or.inr ⟨fun h => hne (h.2.2.2 ln hl), rfl⟩, rfl, rfl⟩) 0 () _ _ _ _ (Nat.zero_le _) (fun i hi => by omega)
        · refine q_iconst (v := nI 0) dX9_isSame_86 (by decide) ?_
          exact q_ireturn dX9_isSame_87 rfl (by decide +kernel) ⟨Or.inr ⟨fun h => by have g1 := h.1; have g2 := h.2.1; have g3 := h.2.2.1; unfold tn_w at g1; unfold tn_h at g2; first | exact absurd g3 (by assumption) | (revert g1 g2; (repeat' split) <;> omega), rfl⟩, rfl, rfl⟩

set_option maxHeartbeats 4000000 in
set_option maxRecDepth 100000 in
theorem l_X9_same {T : q_T} {m : Nat} {G0 G : q_G} {I : md_I} {A : md_A} {sz t : Nat} {E : q_E} {p q : Nat} (hM : Mod T m G0 I A G) (hI : Inv t I A) (hp : p < I 0) (hq0 : q < I 0) (hx : ∀ c, c < 8 → tn_same A p q c → (∀ k, k < c → ¬ tn_same A p q k) → E (some (.int (nI c))) G sz) (hn : (∀ k, k < 8 → ¬ tn_same A p q k) → E (some (.int (-1))) G sz) : ∀ (c : Nat) (_ : Unit), c ≤ 8 → (∀ k, k < c → ¬ tn_same A p q k) → q_R T mX9_same 2 56 20 [some (.ref m), some (.int (nI p)), some (.int (nI q)), some (.int (nI c))] [] G sz 0 0 E := by
  refine q_indN (fun c _ => 8 - c) _ (fun c _ ih => ?_)
  intro hc hall
  refine q_iload_n dX9_same_20 rfl ?_
  refine q_bipush (v := nI 8) dX9_same_21 (by decide) ?_
  refine n_icmp_ge (tgt := 44) dX9_same_23 (by decide) (by omega) (by omega) (fun c23 => ?_) (fun c23 => ?_)
  · refine q_iconst (v := -1) dX9_same_44 (by decide) ?_
    exact q_ireturn dX9_same_45 rfl rfl (hn (fun k hk => hall k (by omega)))
  · refine q_aload_n dX9_same_26 rfl rfl ?_
    refine q_iload_n dX9_same_27 rfl ?_
    refine q_iload_n dX9_same_28 rfl ?_
    refine q_iload_n dX9_same_29 rfl ?_
    refine q_iv (As := [_, _, _]) dX9_same_30 ml_X9_210 mt_X9_isSame mi_X9_isSame se_X9_isSame hM.1 rfl rfl (Nat.le_of_ble_eq_true rfl) (Nat.le_of_ble_eq_true rfl) (Nat.zero_le _) (Nat.zero_le _) (Nat.le_of_ble_eq_true rfl) (q_C.mono (c_X9_isSame hM hI hp hq0) (fun v G1 sz1 hq => ?_))
    obtain ⟨⟨hsm, rfl⟩ | ⟨hV30, rfl⟩, rfl, rfl⟩ := hq
    · refine q_if_eq (tgt := 38) dX9_same_33 (by decide) (fun h => absurd h (by decide)) (fun _ => ?_)
      refine q_iload_n dX9_same_36 rfl ?_
      exact q_ireturn dX9_same_37 rfl rfl (hx c (by omega) hsm hall)
    · refine q_if_eq (tgt := 38) dX9_same_33 (by decide) (fun _ => ?_) (fun h => absurd h (by decide))
      refine s_iinc dX9_same_38 rfl (s_inc1 _) (by decide) rfl ?_
      refine q_goto (tgt := 20) dX9_same_41 (by decide) ?_
      exact ih (c + 1) () (by omega) (by omega) (fun k hk => by rcases Nat.lt_or_ge k c with h | h; exact hall k h; rw [show k = c by omega]; exact hV30)

set_option maxHeartbeats 4000000 in
set_option maxRecDepth 100000 in
theorem c_X9_same {T : q_T} {m : Nat} {G0 G : q_G} {I : md_I} {A : md_A} {sz t : Nat} (hM : Mod T m G0 I A G) (hI : Inv t I A) (x y : Int32) : q_C T mX9_same 2 56 0 0 [.ref m, .int x, .int y] G sz (fun v G' sz' => sz = sz' ∧ G = G' ∧ ∃ z, v = some (.int z) ∧ D_same I A x y z) := by
  refine q_C.of (by decide) rfl (by simp [Value.category]) (Nat.le_of_ble_eq_true rfl) ?_
  refine q_aload_n dX9_same_0 rfl rfl ?_
  refine q_iload_n dX9_same_1 rfl ?_
  refine q_iv (As := [_]) dX9_same_2 ml_X9_100 mt_X9_isPuzzle mi_X9_isPuzzle se_X9_isPuzzle hM.1 rfl rfl (Nat.le_of_ble_eq_true rfl) (Nat.le_of_ble_eq_true rfl) (Nat.zero_le _) (Nat.zero_le _) (Nat.le_of_ble_eq_true rfl) (q_C.mono (c_X9_isPuzzle hM _) (fun v G1 sz1 hq => ?_))
  obtain ⟨⟨⟨p, hp, rfl⟩, rfl⟩ | ⟨hV2, rfl⟩, rfl, rfl⟩ := hq
  · refine q_if_eq (tgt := 16) dX9_same_5 (by decide) (fun h => absurd h (by decide)) (fun _ => ?_)
    refine q_aload_n dX9_same_8 rfl rfl ?_
    refine q_iload_n dX9_same_9 rfl ?_
    refine q_iv (As := [_]) dX9_same_10 ml_X9_100 mt_X9_isPuzzle mi_X9_isPuzzle se_X9_isPuzzle hM.1 rfl rfl (Nat.le_of_ble_eq_true rfl) (Nat.le_of_ble_eq_true rfl) (Nat.zero_le _) (Nat.zero_le _) (Nat.le_of_ble_eq_true rfl) (q_C.mono (c_X9_isPuzzle hM _) (fun v G1 sz1 hq => ?_))
    obtain ⟨⟨⟨q, hq0, rfl⟩, rfl⟩ | ⟨hV10, rfl⟩, rfl, rfl⟩ := hq
    · refine q_if_ne (tgt := 18) dX9_same_13 (by decide) (fun _ => ?_) (fun h => absurd h (by decide))
      refine q_iconst (v := nI 0) dX9_same_18 (by decide) ?_
      refine s_istore_n dX9_same_19 (by decide) rfl ?_
      exact l_X9_same hM hI hp hq0 (fun c hc h1 h2 => ⟨rfl, rfl, _, rfl, Or.inl ⟨p, q, hp, rfl, hq0, rfl, Or.inl ⟨c, hc, h1, h2, rfl⟩⟩⟩) (fun h => ⟨rfl, rfl, _, rfl, Or.inl ⟨p, q, hp, rfl, hq0, rfl, Or.inr ⟨h, rfl⟩⟩⟩) 0 () (by decide) (fun k hk => by omega)
    · refine q_if_ne (tgt := 18) dX9_same_13 (by decide) (fun h => absurd h (by decide)) (fun _ => ?_)
      refine q_iconst (v := -1) dX9_same_16 (by decide) ?_
      exact q_ireturn dX9_same_17 rfl rfl ⟨rfl, rfl, _, rfl, Or.inr ⟨fun ⟨p, q, h1, h2, h3, h4⟩ => hV10 ⟨q, h3, h4⟩, rfl⟩⟩
  · refine q_if_eq (tgt := 16) dX9_same_5 (by decide) (fun _ => ?_) (fun h => absurd h (by decide))
    refine q_iconst (v := -1) dX9_same_16 (by decide) ?_
    exact q_ireturn dX9_same_17 rfl rfl ⟨rfl, rfl, _, rfl, Or.inr ⟨fun ⟨p, q, h1, h2, h3, h4⟩ => hV2 ⟨p, h1, h2⟩, rfl⟩⟩
