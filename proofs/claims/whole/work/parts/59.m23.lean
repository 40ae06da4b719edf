set_option maxHeartbeats 4000000 in
set_option maxRecDepth 100000 in
theorem l_X9_grade0 {T : q_T} {m : Nat} {G0 : q_G} {I : md_I} {A : md_A} {sz : Nat} {E : q_E} {p : Nat} (hz : Pz A p) (hx : ∀ G, Mod T m G0 I (md_fill A 10 0 (A 1 p * A 2 p) (1 <<< (A 3 p + 1) - 1)) G → q_R T mX9_grade 6 152 48 [some (.ref m), some (.int (nI p)), some (.int (nI (A 1 p * A 2 p)))] [] G sz 0 0 E) : ∀ (c : Nat) (G : q_G), c ≤ A 1 p * A 2 p → Mod T m G0 I (md_fill A 10 0 c (1 <<< (A 3 p + 1) - 1)) G → q_R T mX9_grade 6 152 22 [some (.ref m), some (.int (nI p)), some (.int (nI c))] [] G sz 0 0 E := by
  refine q_indN (fun c _ => A 1 p * A 2 p - c) _ (fun c G ih => ?_)
  intro hc hM
  have hsz := pz_size hz
  refine q_iload_n dX9_grade_22 rfl ?_
  refine q_aload_n dX9_grade_23 rfl rfl ?_
  refine q_iload_n dX9_grade_24 rfl ?_
  refine q_iv (As := [_]) dX9_grade_25 ml_X9_108 mt_X9_sizeOf mi_X9_sizeOf se_X9_sizeOf hM.1 rfl rfl (Nat.le_of_ble_eq_true rfl) (Nat.le_of_ble_eq_true rfl) (Nat.zero_le _) (Nat.zero_le _) (Nat.le_of_ble_eq_true rfl) (q_C.mono (c_X9_sizeOf (w := A 1 p) (h := A 2 p) hM hz.1 (congrFun (md_fill_k A (by decide)) p) (congrFun (md_fill_k A (by decide)) p)) (fun v G1 sz1 hq => ?_))
  obtain ⟨rfl, rfl, rfl⟩ := hq
  refine n_icmp_ge (tgt := 48) dX9_grade_28 (by decide) (by omega) (by omega) (fun c28 => ?_) (fun c28 => ?_)
  · obtain rfl : c = A 1 p * A 2 p := by omega
    exact hx G hM
  · refine q_aload_n dX9_grade_31 rfl rfl ?_
    refine q_mga 10 10 dX9_grade_32 hM fl_X9_38 rfl ?_
    refine q_iload_n dX9_grade_35 rfl ?_
    refine q_aload_n dX9_grade_36 rfl rfl ?_
    refine q_iload_n dX9_grade_37 rfl ?_
    refine q_iv (As := [_]) dX9_grade_38 ml_X9_114 mt_X9_full mi_X9_full se_X9_full hM.1 rfl rfl (Nat.le_of_ble_eq_true rfl) (Nat.le_of_ble_eq_true rfl) (Nat.zero_le _) (Nat.zero_le _) (Nat.le_of_ble_eq_true rfl) (q_C.mono (c_X9_full (n := A 3 p) hM hz.1 (congrFun (md_fill_k A (by decide)) p) hz.2.2.2.1.2) (fun v G1 sz1 hq => ?_))
    obtain ⟨rfl, rfl, rfl⟩ := hq
    refine q_mst (k := 10) dX9_grade_41 hM (by decide) rfl (show _ < (10400 : Nat) by omega) rfl (md_full_le hz.2.2.2.1.2) (fun G hM => ?_)
    refine s_iinc dX9_grade_42 rfl (s_inc1 _) (by decide) rfl ?_
    refine q_goto (tgt := 22) dX9_grade_45 (by decide) ?_
    exact ih (c + 1) G (by omega) (by omega) (by rw [← md_fill_s, Nat.zero_add]; exact hM)

theorem gr_run_s (A : md_A) (p f : Nat) (S : Nat → Nat) (n : Nat) : gr_run A p (f + 1) S n = match gr_c A p (A 1 p * A 2 p) (S, n, 0, 0) with
    | (S1, n1, k, e) => if e = 1 then (4, n1) else if e = 2 then (0, n1) else if k = 0 then (if pz_oc S1 (A 1 p * A 2 p) = none then 2 else 3, n1) else gr_run A p f S1 n1 := rfl

set_option maxHeartbeats 4000000 in
set_option maxRecDepth 100000 in
theorem l_X9_grade1 {T : q_T} {m : Nat} {G0 : q_G} {I : md_I} {A : md_A} {sz : Nat} {E : q_E} {p : Nat} (hz : Pz A p) : ∀ (f : Nat) (S : Nat → Nat) (n : Nat) (I1 : md_I) (A1 : md_A) (G : q_G) (k : Nat), 400 < f + n → 1 ≤ k → k ≤ 400 → Mod T m G0 I1 A1 G → Gr I I1 A A1 p S n → (∀ v G' I2 A2, Mod T m G0 I2 A2 G' → (∀ j, j ≠ 1 → j ≠ 5 → j ≠ 6 → I2 j = I j) → (∀ k, k < 10 ∨ 15 < k → A2 k = A k) → v = some (.int (nI (gr_run A p f S n).1)) → I2 5 = (gr_run A p f S n).2 → E v G' sz) → q_R T mX9_grade 6 152 74 [some (.ref m), some (.int (nI p)), some (.int (nI k))] [] G sz 0 0 E := by
  intro f
  induction f with
  | zero => intro S n I1 A1 G k hf hk1 hk hM hG; have := hG.2.2.1; omega
  | succ f ih =>
  intro S n I1 A1 G k hf hk1 hk hM hG hE
  have hp30 := hz.1
  refine q_iload_n dX9_grade_74 rfl ?_
  refine n_if_le (tgt := 100) dX9_grade_75 (by decide) (by omega) (fun c75 => absurd c75 (by omega)) (fun c75 => ?_)
  refine q_aload_n dX9_grade_78 rfl rfl ?_
  refine q_iload_n dX9_grade_79 rfl ?_
  refine q_iv (As := [_]) dX9_grade_80 ml_X9_195 mt_X9_passes mi_X9_passes se_X9_passes hM.1 rfl rfl (Nat.le_of_ble_eq_true rfl) (Nat.le_of_ble_eq_true rfl) (Nat.zero_le _) (Nat.zero_le _) (Nat.le_of_ble_eq_true rfl) (q_C.mono (c_X9_passes hM hz hG) (fun v G sz1 hq => ?_))
  obtain ⟨rfl, I2, A2, hM, S2, n2, k2, e, eq, ⟨rfl, rfl, hG2, hk2⟩ | ⟨ne, g1, g5, g400, g10, ⟨rfl, g6, rfl⟩ | ⟨rfl, g6, rfl⟩⟩⟩ := hq
  · have h6 := hG2.2.2.2.1
    have hn2 := hG2.2.2.1
    refine s_istore_n dX9_grade_83 (by decide) rfl ?_
    refine q_aload_n dX9_grade_84 rfl rfl ?_
    refine q_mgi 6 dX9_grade_85 hM fl_X9_191 (by decide) (fun b85 => ?_)
    rw [h6]
    refine q_if_eq (tgt := 93) dX9_grade_88 (by decide) (fun _ => ?_) (fun h => absurd rfl h)
    refine q_iload_n dX9_grade_93 rfl ?_
    refine q_iconst (v := -1) dX9_grade_94 (by decide) ?_
    refine q_icmp_ne (tgt := 74) dX9_grade_95 (by decide) (fun _ => ?_) (fun h => absurd h (nI_m1 (by omega)))
    by_cases hk0 : k2 = 0
    · subst hk0
      refine q_iload_n dX9_grade_74 rfl ?_
      refine q_if_le (tgt := 100) dX9_grade_75 (by decide) (fun _ => ?_) (fun h => absurd h (by decide))
      refine q_aload_n dX9_grade_100 rfl rfl ?_
      refine q_iload_n dX9_grade_101 rfl ?_
      refine q_iconst (v := nI 0) dX9_grade_102 (by decide) ?_
      refine q_iv (As := [_, _]) dX9_grade_103 ml_X9_169 mt_X9_openCell mi_X9_openCell se_X9_openCell hM.1 rfl rfl (Nat.le_of_ble_eq_true rfl) (Nat.le_of_ble_eq_true rfl) (Nat.zero_le _) (Nat.zero_le _) (Nat.le_of_ble_eq_true rfl) (q_C.mono (c_X9_openCell hM (hz.same hG2.lt) (by omega) (Ps.same hG2.lt (pz_on_ps hG2.2.2.2.2.2.1.symm hG2.2.2.2.2.2.2.1))) (fun v G1 sz1 hq => ?_))
      rw [hG2.lt 1 (by decide), hG2.lt 2 (by decide), pz_oc_congr _ (fun x hx => hG2.2.2.2.2.2.1 x hx)] at hq
      obtain ⟨rfl, rfl, rfl⟩ := hq
      have hsz := pz_size hz
      cases e1 : pz_oc S2 (A 1 p * A 2 p) with
      | none =>
        rw [show pz_best none = -1 from rfl]
        refine q_iconst (v := -1) dX9_grade_106 (by decide) ?_
        refine q_icmp_ne (tgt := 114) dX9_grade_107 (by decide) (fun h => absurd rfl h) (fun _ => ?_)
        refine q_iconst (v := nI 2) dX9_grade_110 (by decide) ?_
        refine q_goto (tgt := 115) dX9_grade_111 (by decide) ?_
        exact q_ireturn dX9_grade_115 rfl rfl (hE _ _ I2 A2 hM hG2.1 hG2.2.2.2.2.1 (by rw [gr_run_s, eq]; dsimp only; rw [if_neg (by decide), if_neg (by decide), if_pos rfl, e1]; rfl) (by rw [gr_run_s, eq]; exact hG2.2.1))
      | some z =>
        obtain ⟨b, nb⟩ := z
        have hb := pz_oc_lt _ _ _ e1
        rw [show pz_best (some (b, nb)) = nI b from rfl]
        refine q_iconst (v := -1) dX9_grade_106 (by decide) ?_
        refine q_icmp_ne (tgt := 114) dX9_grade_107 (by decide) (fun _ => ?_) (fun h => absurd h (nI_m1 (by omega)))
        refine q_iconst (v := nI 3) dX9_grade_114 (by decide) ?_
        exact q_ireturn dX9_grade_115 rfl rfl (hE _ _ I2 A2 hM hG2.1 hG2.2.2.2.2.1 (by rw [gr_run_s, eq]; dsimp only; rw [if_neg (by decide), if_neg (by decide), if_pos rfl, e1]; rfl) (by rw [gr_run_s, eq]; exact hG2.2.1))
    · exact ih S2 n2 I2 A2 G k2 (by omega) (by omega) (by omega) hM hG2 (fun v G' I3 A3 hM3 f1 f2 f3 f4 => hE v G' I3 A3 hM3 f1 f2 (by rw [gr_run_s, eq]; dsimp only; rw [if_neg (by decide), if_neg (by decide), if_neg hk0]; exact f3) (by rw [gr_run_s, eq]; dsimp only; rw [if_neg (by decide), if_neg (by decide), if_neg hk0]; exact f4))
  · have hk2 : True := trivial
    refine s_istore_n dX9_grade_83 (by decide) rfl ?_
    refine q_aload_n dX9_grade_84 rfl rfl ?_
    refine q_mgi 6 dX9_grade_85 hM fl_X9_191 (by decide) (fun b85 => ?_)
    rw [g6]
    refine q_if_eq (tgt := 93) dX9_grade_88 (by decide) (fun h => absurd h (by decide)) (fun _ => ?_)
    refine q_iconst (v := nI 4) dX9_grade_91 (by decide) ?_
    exact q_ireturn dX9_grade_92 rfl rfl (hE _ _ I2 A2 hM g1 g10 (by rw [gr_run_s, eq]; rfl) (by rw [gr_run_s, eq]; exact g5))
  · refine s_istore_n dX9_grade_83 (by decide) rfl ?_
    refine q_aload_n dX9_grade_84 rfl rfl ?_
    refine q_mgi 6 dX9_grade_85 hM fl_X9_191 (by decide) (fun b85 => ?_)
    rw [g6]
    refine q_if_eq (tgt := 93) dX9_grade_88 (by decide) (fun _ => ?_) (fun h => absurd rfl h)
    refine q_iload_n dX9_grade_93 rfl ?_
    refine q_iconst (v := -1) dX9_grade_94 (by decide) ?_
    refine q_icmp_ne (tgt := 74) dX9_grade_95 (by decide) (fun h => absurd rfl h) (fun _ => ?_)
    refine q_iconst (v := nI 0) dX9_grade_98 (by decide) ?_
    exact q_ireturn dX9_grade_99 rfl rfl (hE _ _ I2 A2 hM g1 g10 (by rw [gr_run_s, eq]; rfl) (by rw [gr_run_s, eq]; exact g5))

theorem gr_full {n : Nat} (h1 : 1 ≤ n) (h : n ≤ 3) : 1 ≤ 1 <<< (n + 1) - 1 ∧ 1 <<< (n + 1) - 1 < 16 := by
  rcases (show n = 1 ∨ n = 2 ∨ n = 3 by omega) with rfl | rfl | rfl <;> decide

set_option maxHeartbeats 4000000 in
set_option maxRecDepth 100000 in
theorem c_X9_grade {T : q_T} {m : Nat} {G0 G : q_G} {I : md_I} {A : md_A} {sz t : Nat} (hM : Mod T m G0 I A G) (hI : Inv t I A) (x : Int32) : q_C T mX9_grade 6 152 0 0 [.ref m, .int x] G sz (fun v G' sz' => sz = sz' ∧ ∃ (I' : md_I) (A' : md_A), Mod T m G0 I' A' G' ∧ ∃ (z : Int32) (I2 : md_I) (A2 : md_A), v = some (.int z) ∧ D_grade I A x z I2 A2 ∧ Per I2 I' A2 A') := by
  refine q_C.of (by decide) rfl (by simp [Value.category]) (Nat.le_of_ble_eq_true rfl) ?_
  refine q_aload_n dX9_grade_0 rfl rfl ?_
  refine q_iload_n dX9_grade_1 rfl ?_
  refine q_iv (As := [_]) dX9_grade_2 ml_X9_100 mt_X9_isPuzzle mi_X9_isPuzzle se_X9_isPuzzle hM.1 rfl rfl (Nat.le_of_ble_eq_true rfl) (Nat.le_of_ble_eq_true rfl) (Nat.zero_le _) (Nat.zero_le _) (Nat.le_of_ble_eq_true rfl) (q_C.mono (c_X9_isPuzzle hM _) (fun v G1 sz1 hq => ?_))
  obtain ⟨⟨⟨p, hp, rfl⟩, rfl⟩ | ⟨hV2, rfl⟩, rfl, rfl⟩ := hq
  · have hz := (hI.2.1 p hp).1
    have hp30 := hI.1
    have hsz := pz_size hz
    refine q_if_ne (tgt := 10) dX9_grade_5 (by decide) (fun _ => ?_) (fun h => absurd h (by decide))
    refine q_aload_n dX9_grade_10 rfl rfl ?_
    refine q_iconst (v := nI 0) dX9_grade_11 (by decide) ?_
    refine q_mpi 5 dX9_grade_12 hM fl_X9_188 fp_X9_188 (by decide) rfl (by omega) (fun G hM => ?_)
    refine q_aload_n dX9_grade_15 rfl rfl ?_
    refine q_iconst (v := nI 0) dX9_grade_16 (by decide) ?_
    refine q_mpz dX9_grade_17 hM fl_X9_191 fp_X9_191 rfl (by omega) (fun G hM => ?_)
    refine q_iconst (v := nI 0) dX9_grade_20 (by decide) ?_
    refine s_istore_n dX9_grade_21 (by decide) rfl ?_
    refine l_X9_grade0 hz (fun G hM => ?_) 0 G (Nat.zero_le _) (by rw [md_fill_0]; exact hM)
    refine q_aload_n dX9_grade_48 rfl rfl ?_
    refine q_iload_n dX9_grade_49 rfl ?_
    refine q_iconst (v := nI 0) dX9_grade_50 (by decide) ?_
    have hlt : ∀ k, k < 10 → md_fill A 10 0 (A 1 p * A 2 p) (1 <<< (A 3 p + 1) - 1) k = A k := fun k hk => md_fill_k A (by omega)
    have hon : pz_on A p (fun x => md_fill A 10 0 (A 1 p * A 2 p) (1 <<< (A 3 p + 1) - 1) 10 (0 + x)) (fun _ => (1 <<< (A 3 p + 1) - 1)) := fun x hx => (md_fill_at A 10 0 _ _ (0 + x)).trans (if_pos (by omega))
    have hps : Ps A p (fun _ => (1 <<< (A 3 p + 1) - 1)) := fun x hx => gr_full hz.2.2.2.1.1 hz.2.2.2.1.2 |>.2
    have hpn : Pn A p (fun _ => (1 <<< (A 3 p + 1) - 1)) := fun x hx => gr_full hz.2.2.2.1.1 hz.2.2.2.1.2 |>.1
    refine q_iv (As := [_, _]) dX9_grade_51 ml_X9_163 mt_X9_settles mi_X9_settles se_X9_settles hM.1 rfl rfl (Nat.le_of_ble_eq_true rfl) (Nat.le_of_ble_eq_true rfl) (Nat.zero_le _) (Nat.zero_le _) (Nat.le_of_ble_eq_true rfl) (q_C.mono (c_X9_settles hM (hz.same hlt) (by omega) (Ps.same hlt (pz_on_ps hon.symm hps))) (fun v G sz1 hq => ?_))
    rw [pz_same_st hlt] at hq
    have hal := pz_on_st hz 401 _ _ hon
    obtain ⟨rfl, I2, A2, hM, hR, ⟨e0, rfl, hlow⟩ | ⟨r, S1, e0, rfl, hV⟩⟩ := hq
    · obtain ⟨-, e1⟩ | ⟨r9, T1, T2, e1, -, -⟩ := hal
      · refine q_iconst (v := -1) dX9_grade_54 (by decide) ?_
        refine q_icmp_ne (tgt := 60) dX9_grade_55 (by decide) (fun h => absurd rfl h) (fun _ => ?_)
        refine q_iconst (v := nI 0) dX9_grade_58 (by decide) ?_
        exact q_ireturn dX9_grade_59 rfl rfl ⟨rfl, I2, A2, hM, _, _, A, rfl, Or.inl ⟨p, hp, rfl, by unfold gr_all; rw [e1], rfl, rfl⟩, ⟨fun j h1 h6 => by by_cases h5 : j = 5; subst h5; rw [va_up_s]; exact (by unfold gr_all; rw [e1]; exact hR.1 5 (by decide)); rw [va_up_n _ _ h5]; exact (hR.1 j h1).trans ((va_up_n _ _ h6).trans (va_up_n _ _ h5)), fun k hk => (hR.2 k (by omega)).trans (md_fill_k A (by omega))⟩⟩
      · rw [e0] at e1; cases e1
    · obtain ⟨e1, -⟩ | ⟨r9, T1, S2, e1, e2, e3⟩ := hal
      · rw [e0] at e1; cases e1
      · rw [e0] at e1
        cases e1
        have i1 := pz_st_inv hz 401 _ hps _ _ e2
        have i2 := pz_st_more hz 401 _ hps hpn _ _ e2
        have i3 := pz_tot_le hz hps
        have hG2 : Gr I I2 A A2 p S2 0 := ⟨fun j h1 h5 h6 => (hR.1 j h1).trans ((va_up_n _ _ h6).trans (va_up_n _ _ h5)), hR.1 5 (by decide), Nat.zero_le _, hR.1 6 (by decide), fun k hk => (hR.2 k hk).trans (md_fill_k A (by omega)), fun x hx => (hV.1 x).trans (e3 x hx), i1.1, i2.1⟩
        refine q_iconst (v := -1) dX9_grade_54 (by decide) ?_
        refine q_icmp_ne (tgt := 60) dX9_grade_55 (by decide) (fun _ => ?_) (fun h => absurd h (nI_m1 (by omega)))
        refine q_aload_n dX9_grade_60 rfl rfl ?_
        refine q_iload_n dX9_grade_61 rfl ?_
        refine q_iconst (v := nI 0) dX9_grade_62 (by decide) ?_
        refine q_iv (As := [_, _]) dX9_grade_63 ml_X9_169 mt_X9_openCell mi_X9_openCell se_X9_openCell hM.1 rfl rfl (Nat.le_of_ble_eq_true rfl) (Nat.le_of_ble_eq_true rfl) (Nat.zero_le _) (Nat.zero_le _) (Nat.le_of_ble_eq_true rfl) (q_C.mono (c_X9_openCell hM (hz.same hG2.lt) (by omega) (Ps.same hG2.lt (pz_on_ps hG2.2.2.2.2.2.1.symm hG2.2.2.2.2.2.2.1))) (fun v G1 sz1 hq => ?_))
        rw [hG2.lt 1 (by decide), hG2.lt 2 (by decide), pz_oc_congr _ (fun x hx => hG2.2.2.2.2.2.1 x hx)] at hq
        obtain ⟨rfl, rfl, rfl⟩ := hq
        have hsz := pz_size hz
        cases e1 : pz_oc S2 (A 1 p * A 2 p) with
        | none =>
          rw [show pz_best none = -1 from rfl]
          refine q_iconst (v := -1) dX9_grade_66 (by decide) ?_
          refine q_icmp_ne (tgt := 72) dX9_grade_67 (by decide) (fun h => absurd rfl h) (fun _ => ?_)
          refine q_iconst (v := nI 1) dX9_grade_70 (by decide) ?_
          exact q_ireturn dX9_grade_71 rfl rfl ⟨rfl, I2, A2, hM, _, _, A, rfl, Or.inl ⟨p, hp, rfl, by unfold gr_all; rw [e2]; dsimp only; rw [if_pos e1], rfl, rfl⟩, ⟨fun j h1 h6 => by by_cases h5 : j = 5; subst h5; rw [va_up_s]; exact (by unfold gr_all; rw [e2]; dsimp only; rw [if_pos e1]; exact hR.1 5 (by decide)); rw [va_up_n _ _ h5]; exact (hR.1 j h1).trans ((va_up_n _ _ h6).trans (va_up_n _ _ h5)), fun k hk => (hR.2 k (by omega)).trans (md_fill_k A (by omega))⟩⟩
        | some z =>
          obtain ⟨b, nb⟩ := z
          have hb := pz_oc_lt _ _ _ e1
          rw [show pz_best (some (b, nb)) = nI b from rfl]
          refine q_iconst (v := -1) dX9_grade_66 (by decide) ?_
          refine q_icmp_ne (tgt := 72) dX9_grade_67 (by decide) (fun _ => ?_) (fun h => absurd h (nI_m1 (by omega)))
          refine q_iconst (v := nI 1) dX9_grade_72 (by decide) ?_
          refine s_istore_n dX9_grade_73 (by decide) rfl ?_
          refine l_X9_grade1 (I := I) hz 402 S2 0 I2 A2 G 1 (by omega) (by omega) (by omega) hM hG2 (fun v G' I3 A3 hM3 f1 f2 f3 f4 => ?_)
          have ega : gr_all A p = gr_run A p 402 S2 0 := by unfold gr_all; rw [e2]; dsimp only; rw [if_neg (by rw [e1]; exact fun h => by cases h)]
          exact ⟨rfl, I3, A3, hM3, _, _, A, f3, Or.inl ⟨p, hp, rfl, by rw [ega], rfl, rfl⟩, ⟨fun j h1 h6 => by by_cases h5 : j = 5; subst h5; rw [va_up_s]; exact (by rw [ega]; exact f4); rw [va_up_n _ _ h5]; exact f1 j h1 h5 h6, fun k hk => f2 k (by omega)⟩⟩
  · refine q_if_ne (tgt := 10) dX9_grade_5 (by decide) (fun h => absurd h (by decide)) (fun _ => ?_)
    refine q_iconst (v := -1) dX9_grade_8 (by decide) ?_
    exact q_ireturn dX9_grade_9 rfl rfl ⟨rfl, I, A, hM, _, I, A, rfl, Or.inr ⟨fun ⟨p, h1, h2⟩ => hV2 ⟨p, h1, h2⟩, rfl, rfl, rfl⟩, Per.rfl'⟩
