set_option maxHeartbeats 4000000 in
set_option maxRecDepth 100000 in
theorem l_X9_opens {T : q_T} {m : Nat} {G0 : q_G} {I I1 : md_I} {A A1 : md_A} {sz : Nat} {E : q_E} {p d : Nat} {S : Nat → Nat} {x3 : Option Value} (hz : Pz A p) (hd : d ≤ 103) (hR : Scr I I1 A A1) (hV : Sv A A1 (100 * d) S) (hps : Ps A p S) (hf : I1 2 ≤ 4) (hx : ∀ (G : q_G) (x5 : Option Value), Mod T m G0 I1 (md_cp A1 16 (100 * I1 2) (fun x => pz_log (S x)) (A 1 p * A 2 p)) G → q_R T mX9_opens 5 128 110 [some (.ref m), some (.int (nI p)), some (.int (nI d)), x3, some (.int (nI (A 1 p * A 2 p))), x5] [] G sz 0 0 E) : ∀ (k : Nat) (G : q_G), ∀ x5 : Option Value, k ≤ A 1 p * A 2 p → Mod T m G0 I1 (md_cp A1 16 (100 * I1 2) (fun x => pz_log (S x)) k) G → q_R T mX9_opens 5 128 49 [some (.ref m), some (.int (nI p)), some (.int (nI d)), x3, some (.int (nI k)), x5] [] G sz 0 0 E := by
  refine q_indN (fun k _ => A 1 p * A 2 p - k) _ (fun k G ih => ?_)
  intro x5 hk hM
  have hsz := pz_size hz
  refine q_iload dX9_opens_49 rfl ?_
  refine q_aload_n dX9_opens_51 rfl rfl ?_
  refine q_iload_n dX9_opens_52 rfl ?_
  refine q_iv (As := [_]) dX9_opens_53 ml_X9_108 mt_X9_sizeOf mi_X9_sizeOf se_X9_sizeOf hM.1 rfl rfl (Nat.le_of_ble_eq_true rfl) (Nat.le_of_ble_eq_true rfl) (Nat.zero_le _) (Nat.zero_le _) (Nat.le_of_ble_eq_true rfl) (q_C.mono (c_X9_sizeOf (w := A 1 p) (h := A 2 p) hM hz.1 (congrFun (hR.lt 1 (by decide)) p) (congrFun (hR.lt 2 (by decide)) p)) (fun v G1 sz1 hq => ?_))
  obtain ⟨rfl, rfl, rfl⟩ := hq
  refine n_icmp_ge (tgt := 110) dX9_opens_56 (by decide) (by omega) (by omega) (fun c56 => ?_) (fun c56 => ?_)
  · obtain rfl : k = A 1 p * A 2 p := by omega
    exact hx G _ hM
  · have hS16 := hps k c56
    refine q_iconst (v := nI 0) dX9_opens_59 (by decide) ?_
    refine s_istore dX9_opens_60 (by decide) rfl ?_
    refine q_aload_n dX9_opens_62 rfl rfl ?_
    refine q_mga 10 10 dX9_opens_63 hM fl_X9_38 rfl ?_
    refine q_bipush (v := nI 100) dX9_opens_66 (by decide) ?_
    refine q_iload_n dX9_opens_68 rfl ?_
    refine q_imul dX9_opens_69 (pk_mul _ _) ?_
    refine q_iload dX9_opens_70 rfl ?_
    refine q_iadd dX9_opens_72 (nI_add _ _) ?_
    refine q_mld (k := 10) (v := nI (S k)) dX9_opens_73 hM (by decide) rfl (show _ < (10400 : Nat) by omega) (congrArg nI (hV.1 k)) (fun b73 => ?_)
    refine q_iload dX9_opens_74 rfl ?_
    refine q_ishr dX9_opens_76 (n_shr (by omega) (by decide)) ?_
    refine q_iconst (v := nI 1) dX9_opens_77 (by decide) ?_
    refine n_icmp_le (tgt := 87) dX9_opens_78 (by decide) (by omega) (by decide) (fun c78 => ?_) (fun c78 => ?_)
    · refine q_aload_n dX9_opens_87 rfl rfl ?_
      refine q_mga 20 16 dX9_opens_88 hM fl_X9_56 rfl ?_
      refine q_bipush (v := nI 100) dX9_opens_91 (by decide) ?_
      refine q_aload_n dX9_opens_93 rfl rfl ?_
      refine q_mgi 2 dX9_opens_94 hM fl_X9_172 (by decide) (fun b94 => ?_)
      refine q_imul dX9_opens_97 (pk_mul _ _) ?_
      refine q_iload dX9_opens_98 rfl ?_
      refine q_iadd dX9_opens_100 (nI_add _ _) ?_
      refine q_iload dX9_opens_101 rfl ?_
      refine q_mst (k := 16) (v := pz_log (S k)) dX9_opens_103 hM (by decide) rfl (show _ < (500 : Nat) by omega) (congrArg nI (show 0 = pz_log (S k) by unfold pz_log; (repeat' split) <;> omega)) (by have := pz_log_le (S k); omega) (fun G hM => ?_)
      refine s_iinc dX9_opens_104 rfl (s_inc1 _) (by decide) rfl ?_
      refine q_goto (tgt := 49) dX9_opens_107 (by decide) ?_
      exact ih (k + 1) G (by omega) _ (by omega) (by rw [← md_cp_s]; exact hM)
    · refine s_iinc dX9_opens_81 rfl (s_inc1 _) (by decide) rfl ?_
      refine q_goto (tgt := 62) dX9_opens_84 (by decide) ?_
      refine q_aload_n dX9_opens_62 rfl rfl ?_
      refine q_mga 10 10 dX9_opens_63 hM fl_X9_38 rfl ?_
      refine q_bipush (v := nI 100) dX9_opens_66 (by decide) ?_
      refine q_iload_n dX9_opens_68 rfl ?_
      refine q_imul dX9_opens_69 (pk_mul _ _) ?_
      refine q_iload dX9_opens_70 rfl ?_
      refine q_iadd dX9_opens_72 (nI_add _ _) ?_
      refine q_mld (k := 10) (v := nI (S k)) dX9_opens_73 hM (by decide) rfl (show _ < (10400 : Nat) by omega) (congrArg nI (hV.1 k)) (fun b73 => ?_)
      refine q_iload dX9_opens_74 rfl ?_
      refine q_ishr dX9_opens_76 (n_shr (by omega) (by decide)) ?_
      refine q_iconst (v := nI 1) dX9_opens_77 (by decide) ?_
      refine n_icmp_le (tgt := 87) dX9_opens_78 (by decide) (by omega) (by decide) (fun c78 => ?_) (fun c78 => ?_)
      · refine q_aload_n dX9_opens_87 rfl rfl ?_
        refine q_mga 20 16 dX9_opens_88 hM fl_X9_56 rfl ?_
        refine q_bipush (v := nI 100) dX9_opens_91 (by decide) ?_
        refine q_aload_n dX9_opens_93 rfl rfl ?_
        refine q_mgi 2 dX9_opens_94 hM fl_X9_172 (by decide) (fun b94 => ?_)
        refine q_imul dX9_opens_97 (pk_mul _ _) ?_
        refine q_iload dX9_opens_98 rfl ?_
        refine q_iadd dX9_opens_100 (nI_add _ _) ?_
        refine q_iload dX9_opens_101 rfl ?_
        refine q_mst (k := 16) (v := pz_log (S k)) dX9_opens_103 hM (by decide) rfl (show _ < (500 : Nat) by omega) (congrArg nI (show 0 + 1 = pz_log (S k) by unfold pz_log; (repeat' split) <;> omega)) (by have := pz_log_le (S k); omega) (fun G hM => ?_)
        refine s_iinc dX9_opens_104 rfl (s_inc1 _) (by decide) rfl ?_
        refine q_goto (tgt := 49) dX9_opens_107 (by decide) ?_
        exact ih (k + 1) G (by omega) _ (by omega) (by rw [← md_cp_s]; exact hM)
      · refine s_iinc dX9_opens_81 rfl (s_inc1 _) (by decide) rfl ?_
        refine q_goto (tgt := 62) dX9_opens_84 (by decide) ?_
        refine q_aload_n dX9_opens_62 rfl rfl ?_
        refine q_mga 10 10 dX9_opens_63 hM fl_X9_38 rfl ?_
        refine q_bipush (v := nI 100) dX9_opens_66 (by decide) ?_
        refine q_iload_n dX9_opens_68 rfl ?_
        refine q_imul dX9_opens_69 (pk_mul _ _) ?_
        refine q_iload dX9_opens_70 rfl ?_
        refine q_iadd dX9_opens_72 (nI_add _ _) ?_
        refine q_mld (k := 10) (v := nI (S k)) dX9_opens_73 hM (by decide) rfl (show _ < (10400 : Nat) by omega) (congrArg nI (hV.1 k)) (fun b73 => ?_)
        refine q_iload dX9_opens_74 rfl ?_
        refine q_ishr dX9_opens_76 (n_shr (by omega) (by decide)) ?_
        refine q_iconst (v := nI 1) dX9_opens_77 (by decide) ?_
        refine n_icmp_le (tgt := 87) dX9_opens_78 (by decide) (by omega) (by decide) (fun c78 => ?_) (fun c78 => ?_)
        · refine q_aload_n dX9_opens_87 rfl rfl ?_
          refine q_mga 20 16 dX9_opens_88 hM fl_X9_56 rfl ?_
          refine q_bipush (v := nI 100) dX9_opens_91 (by decide) ?_
          refine q_aload_n dX9_opens_93 rfl rfl ?_
          refine q_mgi 2 dX9_opens_94 hM fl_X9_172 (by decide) (fun b94 => ?_)
          refine q_imul dX9_opens_97 (pk_mul _ _) ?_
          refine q_iload dX9_opens_98 rfl ?_
          refine q_iadd dX9_opens_100 (nI_add _ _) ?_
          refine q_iload dX9_opens_101 rfl ?_
          refine q_mst (k := 16) (v := pz_log (S k)) dX9_opens_103 hM (by decide) rfl (show _ < (500 : Nat) by omega) (congrArg nI (show 0 + 1 + 1 = pz_log (S k) by unfold pz_log; (repeat' split) <;> omega)) (by have := pz_log_le (S k); omega) (fun G hM => ?_)
          refine s_iinc dX9_opens_104 rfl (s_inc1 _) (by decide) rfl ?_
          refine q_goto (tgt := 49) dX9_opens_107 (by decide) ?_
          exact ih (k + 1) G (by omega) _ (by omega) (by rw [← md_cp_s]; exact hM)
        · refine s_iinc dX9_opens_81 rfl (s_inc1 _) (by decide) rfl ?_
          refine q_goto (tgt := 62) dX9_opens_84 (by decide) ?_
          refine q_aload_n dX9_opens_62 rfl rfl ?_
          refine q_mga 10 10 dX9_opens_63 hM fl_X9_38 rfl ?_
          refine q_bipush (v := nI 100) dX9_opens_66 (by decide) ?_
          refine q_iload_n dX9_opens_68 rfl ?_
          refine q_imul dX9_opens_69 (pk_mul _ _) ?_
          refine q_iload dX9_opens_70 rfl ?_
          refine q_iadd dX9_opens_72 (nI_add _ _) ?_
          refine q_mld (k := 10) (v := nI (S k)) dX9_opens_73 hM (by decide) rfl (show _ < (10400 : Nat) by omega) (congrArg nI (hV.1 k)) (fun b73 => ?_)
          refine q_iload dX9_opens_74 rfl ?_
          refine q_ishr dX9_opens_76 (n_shr (by omega) (by decide)) ?_
          refine q_iconst (v := nI 1) dX9_opens_77 (by decide) ?_
          refine n_icmp_le (tgt := 87) dX9_opens_78 (by decide) (by omega) (by decide) (fun c78 => ?_) (fun c78 => ?_)
          · refine q_aload_n dX9_opens_87 rfl rfl ?_
            refine q_mga 20 16 dX9_opens_88 hM fl_X9_56 rfl ?_
            refine q_bipush (v := nI 100) dX9_opens_91 (by decide) ?_
            refine q_aload_n dX9_opens_93 rfl rfl ?_
            refine q_mgi 2 dX9_opens_94 hM fl_X9_172 (by decide) (fun b94 => ?_)
            refine q_imul dX9_opens_97 (pk_mul _ _) ?_
            refine q_iload dX9_opens_98 rfl ?_
            refine q_iadd dX9_opens_100 (nI_add _ _) ?_
            refine q_iload dX9_opens_101 rfl ?_
            refine q_mst (k := 16) (v := pz_log (S k)) dX9_opens_103 hM (by decide) rfl (show _ < (500 : Nat) by omega) (congrArg nI (show 0 + 1 + 1 + 1 = pz_log (S k) by unfold pz_log; (repeat' split) <;> omega)) (by have := pz_log_le (S k); omega) (fun G hM => ?_)
            refine s_iinc dX9_opens_104 rfl (s_inc1 _) (by decide) rfl ?_
            refine q_goto (tgt := 49) dX9_opens_107 (by decide) ?_
            exact ih (k + 1) G (by omega) _ (by omega) (by rw [← md_cp_s]; exact hM)
          · refine s_iinc dX9_opens_81 rfl (s_inc1 _) (by decide) rfl ?_
            refine q_goto (tgt := 62) dX9_opens_84 (by decide) ?_
            exact absurd (by assumption : 1 < S k >>> (0 + 1 + 1 + 1)) (by omega)

set_option maxHeartbeats 4000000 in
set_option maxRecDepth 100000 in
theorem c_X9_opens {T : q_T} {m : Nat} {G0 G : q_G} {I : md_I} {A : md_A} {sz : Nat} (hM : Mod T m G0 I A G) {p d : Nat} (hz : Pz A p) (hd : d ≤ 103) (hs : Ps A p (fun x => A 10 (100 * d + x))) (hf : I 2 ≤ 4) : q_C T mX9_opens 5 128 0 0 [.ref m, .int (nI p), .int (nI d)] G sz (fun v G' sz' => sz = sz' ∧ ∃ (I' : md_I) (A' : md_A), Mod T m G0 I' A' G' ∧ ((∀ j, j ≠ 1 → j ≠ 2 → I' j = I j) ∧ ∀ k, (k < 10 ∨ 18 < k) → k ≠ 17 ∧ k ≠ 18 → A' k = A k) ∧ ((pz_st A p 401 (fun x => A 10 (100 * d + x)) = none ∧ v = some (.int (nI 0)) ∧ I' 2 = I 2 ∧ A' 16 = A 16 ∧ A' 17 = A 17 ∧ A' 18 = A 18 ∧ ∀ j, j < 100 * d → A' 10 j = A 10 j) ∨ (∃ r S1, pz_st A p 401 (fun x => A 10 (100 * d + x)) = some (r, S1) ∧ pz_oc S1 (A 1 p * A 2 p) = none ∧ v = some (.int (nI 0)) ∧ I' 2 = I 2 + 1 ∧ (∀ k, k < A 1 p * A 2 p → A' 16 (100 * I 2 + k) = pz_log (S1 k)) ∧ (∀ j, j < 100 * I 2 → A' 16 j = A 16 j) ∧ A' 17 = A 17 ∧ A' 18 = A 18 ∧ Sv A A' (100 * d) S1) ∨ (∃ r S1 b nb, pz_st A p 401 (fun x => A 10 (100 * d + x)) = some (r, S1) ∧ pz_oc S1 (A 1 p * A 2 p) = some (b, nb) ∧ v = some (.int (nI 1)) ∧ Sv A A' (100 * d) S1 ∧ I' 2 = I 2 ∧ A' 16 = A 16 ∧ (∀ j, A' 17 j = if j = d then b else A 17 j) ∧ (∀ j, A' 18 j = if j = d then 0 else A 18 j)))) := by
  refine q_C.of (by decide) rfl (by simp [Value.category]) (Nat.le_of_ble_eq_true rfl) ?_
  refine q_aload_n dX9_opens_0 rfl rfl ?_
  refine q_iload_n dX9_opens_1 rfl ?_
  refine q_bipush (v := nI 100) dX9_opens_2 (by decide) ?_
  refine q_iload_n dX9_opens_4 rfl ?_
  refine q_imul dX9_opens_5 (pk_mul _ _) ?_
  refine q_iv (As := [_, _]) dX9_opens_6 ml_X9_163 mt_X9_settles mi_X9_settles se_X9_settles hM.1 rfl rfl (Nat.le_of_ble_eq_true rfl) (Nat.le_of_ble_eq_true rfl) (Nat.zero_le _) (Nat.zero_le _) (Nat.le_of_ble_eq_true rfl) (q_C.mono (c_X9_settles hM hz (by omega) hs) (fun v G sz1 hq => ?_))
  obtain ⟨rfl, I1, A1, hM, hR, ⟨e0, rfl, hlow⟩ | ⟨r, S1, e0, rfl, hV⟩⟩ := hq
  · refine q_iconst (v := -1) dX9_opens_9 (by decide) ?_
    refine q_icmp_ne (tgt := 15) dX9_opens_10 (by decide) (fun h => absurd rfl h) (fun _ => ?_)
    refine q_iconst (v := nI 0) dX9_opens_13 (by decide) ?_
    exact q_ireturn dX9_opens_14 rfl (by decide +kernel) ⟨rfl, I1, A1, hM, ⟨fun j hj _ => hR.1 j hj, fun k h1 h2 => hR.2 k (by omega)⟩, Or.inl ⟨e0, rfl, hR.1 2 (by decide), hR.2 16 (by decide), hR.2 17 (by decide), hR.2 18 (by decide), hlow⟩⟩
  · obtain ⟨i1, i2, i3, i4⟩ := pz_st_inv hz 401 _ hs _ _ e0
    have htot := pz_tot_le hz hs
    refine q_iconst (v := -1) dX9_opens_9 (by decide) ?_
    refine q_icmp_ne (tgt := 15) dX9_opens_10 (by decide) (fun _ => ?_) (fun h => absurd h (nI_m1 (by omega)))
    refine q_aload_n dX9_opens_15 rfl rfl ?_
    refine q_iload_n dX9_opens_16 rfl ?_
    refine q_bipush (v := nI 100) dX9_opens_17 (by decide) ?_
    refine q_iload_n dX9_opens_19 rfl ?_
    refine q_imul dX9_opens_20 (pk_mul _ _) ?_
    refine q_iv (As := [_, _]) dX9_opens_21 ml_X9_169 mt_X9_openCell mi_X9_openCell se_X9_openCell hM.1 rfl rfl (Nat.le_of_ble_eq_true rfl) (Nat.le_of_ble_eq_true rfl) (Nat.zero_le _) (Nat.zero_le _) (Nat.le_of_ble_eq_true rfl) (q_C.mono (c_X9_openCell hM (hz.same hR.lt) (by omega) (by rw [show (fun x => A1 10 (100 * d + x)) = S1 from funext hV.1]; exact i1.same hR.lt)) (fun v G1 sz1 hq => ?_))
    rw [show (fun x => A1 10 (100 * d + x)) = S1 from funext hV.1, hR.lt 1 (by decide), hR.lt 2 (by decide)] at hq
    obtain ⟨rfl, rfl, rfl⟩ := hq
    cases e1 : pz_oc S1 (A 1 p * A 2 p) with
    | none =>
      rw [show pz_best none = -1 from rfl]
      refine s_istore_n dX9_opens_24 (by decide) rfl ?_
      refine q_iload_n dX9_opens_25 rfl ?_
      refine q_iconst (v := -1) dX9_opens_26 (by decide) ?_
      refine q_icmp_eq (tgt := 46) dX9_opens_27 (by decide) (fun _ => ?_) (fun h => absurd rfl h)
      refine q_iconst (v := nI 0) dX9_opens_46 (by decide) ?_
      refine s_istore dX9_opens_47 (by decide) rfl ?_
      refine l_X9_opens hz hd hR hV i1 (by rw [hR.1 2 (by decide)]; exact hf) (fun G x5 hM => ?_) 0 G _ (Nat.zero_le _) (by rw [md_cp_0]; exact hM)
      refine q_aload_n dX9_opens_110 rfl rfl ?_
      refine q_dup dX9_opens_111 rfl ?_
      refine q_mgi 2 dX9_opens_112 hM fl_X9_172 (by decide) (fun b112 => ?_)
      refine q_iconst (v := nI 1) dX9_opens_115 (by decide) ?_
      refine q_iadd dX9_opens_116 (nI_add _ _) ?_
      refine q_mpi 2 dX9_opens_117 hM fl_X9_172 fp_X9_172 (by decide) rfl (by have := hR.1 2 (by decide); omega) (fun G hM => ?_)
      refine q_iconst (v := nI 0) dX9_opens_120 (by decide) ?_
      exact q_ireturn dX9_opens_121 rfl (by decide +kernel) ⟨rfl, _, _, hM, ⟨fun j hj hj2 => (show va_up I1 2 _ j = I1 j by unfold va_up; rw [if_neg hj2]).trans (hR.1 j hj), fun k h1 h2 => (md_cp_k _ (by omega)).trans (hR.2 k (by omega))⟩, Or.inr (Or.inl ⟨r, S1, e0, e1, rfl, (show va_up I1 2 (I1 2 + 1) 2 = I1 2 + 1 from rfl).trans (by rw [hR.1 2 (by decide)]), fun k hk => by rw [← hR.1 2 (by decide)]; exact md_cp_in A1 (k := 16) hk, fun j hj => (md_cp_out A1 (k := 16) (by rw [hR.1 2 (by decide)]; exact Or.inl hj)).trans (congrFun (hR.2 16 (by decide)) j), hR.2 17 (by decide), hR.2 18 (by decide), ⟨hV.1, hV.2⟩⟩)⟩
    | some z =>
      obtain ⟨b, nb⟩ := z
      have hb := pz_oc_lt _ _ _ e1
      have hsz := pz_size hz
      rw [show pz_best (some (b, nb)) = nI b from rfl]
      refine s_istore_n dX9_opens_24 (by decide) rfl ?_
      refine q_iload_n dX9_opens_25 rfl ?_
      refine q_iconst (v := -1) dX9_opens_26 (by decide) ?_
      refine q_icmp_eq (tgt := 46) dX9_opens_27 (by decide) (fun h => absurd h (nI_m1 (by omega))) (fun _ => ?_)
      refine q_aload_n dX9_opens_30 rfl rfl ?_
      refine q_mga 21 17 dX9_opens_31 hM fl_X9_59 rfl ?_
      refine q_iload_n dX9_opens_34 rfl ?_
      refine q_iload_n dX9_opens_35 rfl ?_
      refine q_mst (k := 17) dX9_opens_36 hM (by decide) rfl (show _ < (104 : Nat) by omega) rfl (by omega) (fun G hM => ?_)
      refine q_aload_n dX9_opens_37 rfl rfl ?_
      refine q_mga 22 18 dX9_opens_38 hM fl_X9_62 rfl ?_
      refine q_iload_n dX9_opens_41 rfl ?_
      refine q_iconst (v := nI 0) dX9_opens_42 (by decide) ?_
      refine q_mst (k := 18) dX9_opens_43 hM (by decide) rfl (show _ < (104 : Nat) by omega) rfl (by omega) (fun G hM => ?_)
      refine q_iconst (v := nI 1) dX9_opens_44 (by decide) ?_
      exact q_ireturn dX9_opens_45 rfl (by decide +kernel) ⟨rfl, I1, _, hM, ⟨fun j hj _ => hR.1 j hj, fun k h1 h2 => (md_st_k _ h2.2).trans ((md_st_k _ h2.1).trans (hR.2 k (by omega)))⟩, Or.inr (Or.inr ⟨r, S1, b, nb, e0, e1, rfl, ⟨hV.1, hV.2⟩, hR.1 2 (by decide), hR.2 16 (by decide), fun j => by rw [show md_st (md_st A1 17 d b) 18 d 0 17 j = md_st A1 17 d b 17 j from rfl, md_st_at]; by_cases h : j = d; rw [if_pos ⟨rfl, h⟩, if_pos h]; rw [if_neg (fun g => h g.2), if_neg h, hR.2 17 (by decide)], fun j => by rw [md_st_at]; by_cases h : j = d; rw [if_pos ⟨rfl, h⟩, if_pos h]; rw [if_neg (fun g => h g.2), if_neg h]; show A1 18 j = _; rw [hR.2 18 (by decide)]⟩)⟩
