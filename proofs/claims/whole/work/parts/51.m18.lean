/-- a text: how many signs, and which -/
def wp (s : Nat × (Nat → Nat)) (ch : Nat) : Nat × (Nat → Nat) := (s.1 + 1, va_up s.2 s.1 ch)
def wr (c l f0 : Nat → Nat) : Nat → Nat × (Nat → Nat)
  | 0 => (0, f0)
  | k + 1 => wp (wp (if 9 < l k then wp (if 0 < k then wp (wr c l f0 k) 32 else wr c l f0 k) (48 + l k / 10) else (if 0 < k then wp (wr c l f0 k) 32 else wr c l f0 k)) (48 + l k % 10)) (97 + c k - 1)
theorem wr_s (c l f0 : Nat → Nat) (k : Nat) : wr c l f0 (k + 1) = wp (wp (if 9 < l k then wp (if 0 < k then wp (wr c l f0 k) 32 else wr c l f0 k) (48 + l k / 10) else (if 0 < k then wp (wr c l f0 k) 32 else wr c l f0 k)) (48 + l k % 10)) (97 + c k - 1) := rfl
def wr_all (c l f0 : Nat → Nat) (n : Nat) : Nat × (Nat → Nat) := if n = 0 then wp (0, f0) 48 else wr c l f0 n
theorem wr_le (c l f0 : Nat → Nat) : ∀ k, (wr c l f0 k).1 ≤ 4 * k := by
  intro k
  induction k with
  | zero => exact Nat.le_refl _
  | succ k ih =>
    rw [wr_s]
    show _ + 1 + 1 ≤ _
    by_cases h1 : 9 < l k <;> by_cases h2 : 0 < k <;> simp only [h1, h2, if_true, if_false, wp] <;> omega
def D_write (I : md_I) (A : md_A) (x y z : Int32) (I2 : md_I) (A2 : md_A) : Prop := (∃ p ln, D_line I A x y p ln ∧ z = nI (wr_all (pz_c A p ln) (pz_l A p ln) (A 27) (pz_n A p ln)).1 ∧ I2 = va_up I 8 (wr_all (pz_c A p ln) (pz_l A p ln) (A 27) (pz_n A p ln)).1 ∧ A2 = va_up A 27 (wr_all (pz_c A p ln) (pz_l A p ln) (A 27) (pz_n A p ln)).2) ∨ (¬ (∃ p ln, D_line I A x y p ln) ∧ z = -1 ∧ I2 = I ∧ A2 = A)
theorem va_up_up {α : Type} (f : Nat → α) (k : Nat) (x y : α) : va_up (va_up f k x) k y = va_up f k y := by
  funext j
  unfold va_up
  split <;> rfl

set_option maxHeartbeats 4000000 in
set_option maxRecDepth 100000 in
theorem c_X9_sign {T : q_T} {m : Nat} {G0 G : q_G} {I : md_I} {A : md_A} {sz : Nat} {s : Nat × (Nat → Nat)} {ch : Nat} (hM : Mod T m G0 (va_up I 8 s.1) (va_up A 27 s.2) G) (hs : s.1 < 64) (hch : ch ≤ 100000) : q_C T mX9_sign 0 0 0 0 [.ref m, .int (nI ch)] G sz (fun v G' sz' => sz = sz' ∧ v = none ∧ Mod T m G0 (va_up I 8 (wp s ch).1) (va_up A 27 (wp s ch).2) G') := by
  refine q_C.of (by decide) rfl (by simp [Value.category]) (Nat.le_of_ble_eq_true rfl) ?_
  refine q_aload_n dX9_sign_0 rfl rfl ?_
  refine q_mga 34 27 dX9_sign_1 hM fl_X9_89 rfl ?_
  refine q_aload_n dX9_sign_4 rfl rfl ?_
  refine q_mgi 8 dX9_sign_5 hM fl_X9_223 (by decide) (fun b5 => ?_)
  refine q_iload_n dX9_sign_8 rfl ?_
  refine q_mst (k := 27) dX9_sign_9 hM (by decide) rfl (show s.1 < (64 : Nat) by omega) rfl hch (fun G hM => ?_)
  refine q_aload_n dX9_sign_10 rfl rfl ?_
  refine q_dup dX9_sign_11 rfl ?_
  refine q_mgi 8 dX9_sign_12 hM fl_X9_223 (by decide) (fun b12 => ?_)
  refine q_iconst (v := nI 1) dX9_sign_15 (by decide) ?_
  refine q_iadd dX9_sign_16 (nI_add _ _) ?_
  refine q_mpi 8 dX9_sign_17 hM fl_X9_223 fp_X9_223 (by decide) rfl (show s.1 + 1 ≤ 100000 by omega) (fun G hM => ?_)
  exact q_return dX9_sign_20 rfl ⟨rfl, rfl, by rw [va_up_up] at hM; rw [md_st_up] at hM; exact hM⟩

set_option maxHeartbeats 4000000 in
set_option maxRecDepth 100000 in
theorem l_X9_write {T : q_T} {m : Nat} {G0 : q_G} {I : md_I} {A : md_A} {sz t : Nat} {E : q_E} {p ln : Nat} (hI : Inv t I A) (hp : p < I 0) (hln : ln < A 1 p + A 2 p) (hx : ∀ (G : q_G) (x5 : Option Value), Mod T m G0 (va_up I 8 (wr (pz_c A p ln) (pz_l A p ln) (A 27) (pz_n A p ln)).1) (va_up A 27 (wr (pz_c A p ln) (pz_l A p ln) (A 27) (pz_n A p ln)).2) G → q_R T mX9_write 3 65 134 [some (.ref m), some (.int (nI p)), some (.int (nI ln)), some (.int (nI (pz_n A p ln))), some (.int (nI (pz_n A p ln))), x5] [] G sz 0 0 E) : ∀ (k : Nat) (G : q_G), ∀ x5 : Option Value, k ≤ pz_n A p ln → Mod T m G0 (va_up I 8 (wr (pz_c A p ln) (pz_l A p ln) (A 27) k).1) (va_up A 27 (wr (pz_c A p ln) (pz_l A p ln) (A 27) k).2) G → q_R T mX9_write 3 65 41 [some (.ref m), some (.int (nI p)), some (.int (nI ln)), some (.int (nI (pz_n A p ln))), some (.int (nI k)), x5] [] G sz 0 0 E := by
  refine q_indN (fun k _ => pz_n A p ln - k) _ (fun k G ih => ?_)
  intro x5 hk hM
  have hz := (hI.2.1 p hp).1
  have hp30 := hI.1
  have hww := hI.puz p hp
  have hn10 := (hz.2.2.2.2 ln hln).1
  refine q_iload dX9_write_41 rfl ?_
  refine q_iload_n dX9_write_43 rfl ?_
  refine n_icmp_ge (tgt := 134) dX9_write_44 (by decide) (by omega) (by omega) (fun c44 => ?_) (fun c44 => ?_)
  · obtain rfl : k = pz_n A p ln := by omega
    exact hx G _ hM
  · have hwl := wr_le (pz_c A p ln) (pz_l A p ln) (A 27) k
    have hrn := (hz.2.2.2.2 ln hln).2.2 k c44
    have hl10 : pz_l A p ln k ≤ 10 := Nat.le_trans (ln_l_le c44) (Nat.le_trans (hz.2.2.2.2 ln hln).2.1 (pz_L_le hz))
    refine q_aload_n dX9_write_47 rfl rfl ?_
    refine q_mga 7 7 dX9_write_48 hM fl_X9_29 rfl ?_
    refine q_aload_n dX9_write_51 rfl rfl ?_
    refine q_iload_n dX9_write_52 rfl ?_
    refine q_iload_n dX9_write_53 rfl ?_
    refine q_iv (As := [_, _]) dX9_write_54 ml_X9_121 mt_X9_runAt mi_X9_runAt se_X9_runAt hM.1 rfl rfl (Nat.le_of_ble_eq_true rfl) (Nat.le_of_ble_eq_true rfl) (Nat.zero_le _) (Nat.zero_le _) (Nat.le_of_ble_eq_true rfl) (q_C.mono (c_X9_runAt hM _ _) (fun v G1 sz1 hq => ?_))
    obtain ⟨rfl, rfl, rfl⟩ := hq
    refine q_iload dX9_write_57 rfl ?_
    refine q_iadd dX9_write_59 (nI_add _ _) ?_
    refine q_mld (k := 7) (v := nI (pz_l A p ln k)) dX9_write_60 hM (by decide) rfl (show _ < (6000 : Nat) by omega) rfl (fun b60 => ?_)
    refine s_istore dX9_write_61 (by decide) rfl ?_
    refine q_iload dX9_write_63 rfl ?_
    refine n_if_le (tgt := 74) dX9_write_65 (by decide) (by omega) (fun c65 => ?_) (fun c65 => ?_)
    · refine q_iload dX9_write_74 rfl ?_
      refine q_bipush (v := nI 9) dX9_write_76 (by decide) ?_
      refine n_icmp_le (tgt := 93) dX9_write_78 (by decide) (by omega) (by omega) (fun c78 => ?_) (fun c78 => ?_)
      · refine q_aload_n dX9_write_93 rfl rfl ?_
        refine q_bipush (v := nI 48) dX9_write_94 (by decide) ?_
        refine q_iload dX9_write_96 rfl ?_
        refine q_bipush (v := nI 10) dX9_write_98 (by decide) ?_
        refine q_irem dX9_write_100 (by decide) (pk_rem (by omega) (by omega) (by omega)) ?_
        refine q_iadd dX9_write_101 (nI_add _ _) ?_
        refine q_iv (As := [_]) dX9_write_102 ml_X9_226 mt_X9_sign mi_X9_sign se_X9_sign hM.1 rfl rfl (Nat.le_of_ble_eq_true rfl) (Nat.le_of_ble_eq_true rfl) (Nat.zero_le _) (Nat.zero_le _) (Nat.le_of_ble_eq_true rfl) (q_C.mono (c_X9_sign (I := I) (A := A) hM (by first | (have := hwl; omega) | (have := hwl; show _ + 1 < 64; omega) | (have := hwl; show _ + 1 + 1 < 64; omega) | (have := hwl; show _ + 1 + 1 + 1 < 64; omega)) (by omega)) (fun v G sz1 hq => ?_))
        obtain ⟨rfl, rfl, hM⟩ := hq
        refine q_aload_n dX9_write_105 rfl rfl ?_
        refine q_bipush (v := nI 97) dX9_write_106 (by decide) ?_
        refine q_aload_n dX9_write_108 rfl rfl ?_
        refine q_mga 6 6 dX9_write_109 hM fl_X9_26 rfl ?_
        refine q_aload_n dX9_write_112 rfl rfl ?_
        refine q_iload_n dX9_write_113 rfl ?_
        refine q_iload_n dX9_write_114 rfl ?_
        refine q_iv (As := [_, _]) dX9_write_115 ml_X9_121 mt_X9_runAt mi_X9_runAt se_X9_runAt hM.1 rfl rfl (Nat.le_of_ble_eq_true rfl) (Nat.le_of_ble_eq_true rfl) (Nat.zero_le _) (Nat.zero_le _) (Nat.le_of_ble_eq_true rfl) (q_C.mono (c_X9_runAt hM _ _) (fun v G1 sz1 hq => ?_))
        obtain ⟨rfl, rfl, rfl⟩ := hq
        refine q_iload dX9_write_118 rfl ?_
        refine q_iadd dX9_write_120 (nI_add _ _) ?_
        refine q_mld (k := 6) (v := nI (pz_c A p ln k)) dX9_write_121 hM (by decide) rfl (show _ < (6000 : Nat) by omega) rfl (fun b121 => ?_)
        refine q_iadd dX9_write_122 (nI_add _ _) ?_
        refine q_iconst (v := nI 1) dX9_write_123 (by decide) ?_
        refine q_isub dX9_write_124 (pk_sub (by omega)) ?_
        refine q_iv (As := [_]) dX9_write_125 ml_X9_226 mt_X9_sign mi_X9_sign se_X9_sign hM.1 rfl rfl (Nat.le_of_ble_eq_true rfl) (Nat.le_of_ble_eq_true rfl) (Nat.zero_le _) (Nat.zero_le _) (Nat.le_of_ble_eq_true rfl) (q_C.mono (c_X9_sign (I := I) (A := A) hM (by first | (have := hwl; omega) | (have := hwl; show _ + 1 < 64; omega) | (have := hwl; show _ + 1 + 1 < 64; omega) | (have := hwl; show _ + 1 + 1 + 1 < 64; omega)) (by have := hz.2.2.2.1.2; omega)) (fun v G sz1 hq => ?_))
        obtain ⟨rfl, rfl, hM⟩ := hq
        refine s_iinc dX9_write_128 rfl (s_inc1 _) (by decide) rfl ?_
        refine q_goto (tgt := 41) dX9_write_131 (by decide) ?_
        exact ih (k + 1) G (by omega) _ (by omega) (by rw [wr_s, if_neg (Nat.not_lt.mpr c78), if_neg (by omega)]; exact hM)
      · refine q_aload_n dX9_write_81 rfl rfl ?_
        refine q_bipush (v := nI 48) dX9_write_82 (by decide) ?_
        refine q_iload dX9_write_84 rfl ?_
        refine q_bipush (v := nI 10) dX9_write_86 (by decide) ?_
        refine q_idiv dX9_write_88 (by decide) (pk_div (by omega) (by omega) (by omega)) ?_
        refine q_iadd dX9_write_89 (nI_add _ _) ?_
        refine q_iv (As := [_]) dX9_write_90 ml_X9_226 mt_X9_sign mi_X9_sign se_X9_sign hM.1 rfl rfl (Nat.le_of_ble_eq_true rfl) (Nat.le_of_ble_eq_true rfl) (Nat.zero_le _) (Nat.zero_le _) (Nat.le_of_ble_eq_true rfl) (q_C.mono (c_X9_sign (I := I) (A := A) hM (by first | (have := hwl; omega) | (have := hwl; show _ + 1 < 64; omega) | (have := hwl; show _ + 1 + 1 < 64; omega) | (have := hwl; show _ + 1 + 1 + 1 < 64; omega)) (by omega)) (fun v G sz1 hq => ?_))
        obtain ⟨rfl, rfl, hM⟩ := hq
        refine q_aload_n dX9_write_93 rfl rfl ?_
        refine q_bipush (v := nI 48) dX9_write_94 (by decide) ?_
        refine q_iload dX9_write_96 rfl ?_
        refine q_bipush (v := nI 10) dX9_write_98 (by decide) ?_
        refine q_irem dX9_write_100 (by decide) (pk_rem (by omega) (by omega) (by omega)) ?_
        refine q_iadd dX9_write_101 (nI_add _ _) ?_
        refine q_iv (As := [_]) dX9_write_102 ml_X9_226 mt_X9_sign mi_X9_sign se_X9_sign hM.1 rfl rfl (Nat.le_of_ble_eq_true rfl) (Nat.le_of_ble_eq_true rfl) (Nat.zero_le _) (Nat.zero_le _) (Nat.le_of_ble_eq_true rfl) (q_C.mono (c_X9_sign (I := I) (A := A) hM (by first | (have := hwl; omega) | (have := hwl; show _ + 1 < 64; omega) | (have := hwl; show _ + 1 + 1 < 64; omega) | (have := hwl; show _ + 1 + 1 + 1 < 64; omega)) (by omega)) (fun v G sz1 hq => ?_))
        obtain ⟨rfl, rfl, hM⟩ := hq
        refine q_aload_n dX9_write_105 rfl rfl ?_
        refine q_bipush (v := nI 97) dX9_write_106 (by decide) ?_
        refine q_aload_n dX9_write_108 rfl rfl ?_
        refine q_mga 6 6 dX9_write_109 hM fl_X9_26 rfl ?_
        refine q_aload_n dX9_write_112 rfl rfl ?_
        refine q_iload_n dX9_write_113 rfl ?_
        refine q_iload_n dX9_write_114 rfl ?_
        refine q_iv (As := [_, _]) dX9_write_115 ml_X9_121 mt_X9_runAt mi_X9_runAt se_X9_runAt hM.1 rfl rfl (Nat.le_of_ble_eq_true rfl) (Nat.le_of_ble_eq_true rfl) (Nat.zero_le _) (Nat.zero_le _) (Nat.le_of_ble_eq_true rfl) (q_C.mono (c_X9_runAt hM _ _) (fun v G1 sz1 hq => ?_))
        obtain ⟨rfl, rfl, rfl⟩ := hq
        refine q_iload dX9_write_118 rfl ?_
        refine q_iadd dX9_write_120 (nI_add _ _) ?_
        refine q_mld (k := 6) (v := nI (pz_c A p ln k)) dX9_write_121 hM (by decide) rfl (show _ < (6000 : Nat) by omega) rfl (fun b121 => ?_)
        refine q_iadd dX9_write_122 (nI_add _ _) ?_
        refine q_iconst (v := nI 1) dX9_write_123 (by decide) ?_
        refine q_isub dX9_write_124 (pk_sub (by omega)) ?_
        refine q_iv (As := [_]) dX9_write_125 ml_X9_226 mt_X9_sign mi_X9_sign se_X9_sign hM.1 rfl rfl (Nat.le_of_ble_eq_true rfl) (Nat.le_of_ble_eq_true rfl) (Nat.zero_le _) (Nat.zero_le _) (Nat.le_of_ble_eq_true rfl) (q_C.mono (c_X9_sign (I := I) (A := A) hM (by first | (have := hwl; omega) | (have := hwl; show _ + 1 < 64; omega) | (have := hwl; show _ + 1 + 1 < 64; omega) | (have := hwl; show _ + 1 + 1 + 1 < 64; omega)) (by have := hz.2.2.2.1.2; omega)) (fun v G sz1 hq => ?_))
        obtain ⟨rfl, rfl, hM⟩ := hq
        refine s_iinc dX9_write_128 rfl (s_inc1 _) (by decide) rfl ?_
        refine q_goto (tgt := 41) dX9_write_131 (by decide) ?_
        exact ih (k + 1) G (by omega) _ (by omega) (by rw [wr_s, if_pos c78, if_neg (by omega)]; exact hM)
    · refine q_aload_n dX9_write_68 rfl rfl ?_
      refine q_bipush (v := nI 32) dX9_write_69 (by decide) ?_
      refine q_iv (As := [_]) dX9_write_71 ml_X9_226 mt_X9_sign mi_X9_sign se_X9_sign hM.1 rfl rfl (Nat.le_of_ble_eq_true rfl) (Nat.le_of_ble_eq_true rfl) (Nat.zero_le _) (Nat.zero_le _) (Nat.le_of_ble_eq_true rfl) (q_C.mono (c_X9_sign (I := I) (A := A) hM (by first | (have := hwl; omega) | (have := hwl; show _ + 1 < 64; omega) | (have := hwl; show _ + 1 + 1 < 64; omega) | (have := hwl; show _ + 1 + 1 + 1 < 64; omega)) (by decide)) (fun v G sz1 hq => ?_))
      obtain ⟨rfl, rfl, hM⟩ := hq
      refine q_iload dX9_write_74 rfl ?_
      refine q_bipush (v := nI 9) dX9_write_76 (by decide) ?_
      refine n_icmp_le (tgt := 93) dX9_write_78 (by decide) (by omega) (by omega) (fun c78 => ?_) (fun c78 => ?_)
      · refine q_aload_n dX9_write_93 rfl rfl ?_
        refine q_bipush (v := nI 48) dX9_write_94 (by decide) ?_
        refine q_iload dX9_write_96 rfl ?_
        refine q_bipush (v := nI 10) dX9_write_98 (by decide) ?_
        refine q_irem dX9_write_100 (by decide) (pk_rem (by omega) (by omega) (by omega)) ?_
        refine q_iadd dX9_write_101 (nI_add _ _) ?_
        refine q_iv (As := [_]) dX9_write_102 ml_X9_226 mt_X9_sign mi_X9_sign se_X9_sign hM.1 rfl rfl (Nat.le_of_ble_eq_true rfl) (Nat.le_of_ble_eq_true rfl) (Nat.zero_le _) (Nat.zero_le _) (Nat.le_of_ble_eq_true rfl) (q_C.mono (c_X9_sign (I := I) (A := A) hM (by first | (have := hwl; omega) | (have := hwl; show _ + 1 < 64; omega) | (have := hwl; show _ + 1 + 1 < 64; omega) | (have := hwl; show _ + 1 + 1 + 1 < 64; omega)) (by omega)) (fun v G sz1 hq => ?_))
        obtain ⟨rfl, rfl, hM⟩ := hq
        refine q_aload_n dX9_write_105 rfl rfl ?_
        refine q_bipush (v := nI 97) dX9_write_106 (by decide) ?_
        refine q_aload_n dX9_write_108 rfl rfl ?_
        refine q_mga 6 6 dX9_write_109 hM fl_X9_26 rfl ?_
        refine q_aload_n dX9_write_112 rfl rfl ?_
        refine q_iload_n dX9_write_113 rfl ?_
        refine q_iload_n dX9_write_114 rfl ?_
        refine q_iv (As := [_, _]) dX9_write_115 ml_X9_121 mt_X9_runAt mi_X9_runAt se_X9_runAt hM.1 rfl rfl (Nat.le_of_ble_eq_true rfl) (Nat.le_of_ble_eq_true rfl) (Nat.zero_le _) (Nat.zero_le _) (Nat.le_of_ble_eq_true rfl) (q_C.mono (c_X9_runAt hM _ _) (fun v G1 sz1 hq => ?_))
        obtain ⟨rfl, rfl, rfl⟩ := hq
        refine q_iload dX9_write_118 rfl ?_
        refine q_iadd dX9_write_120 (nI_add _ _) ?_
        refine q_mld (k := 6) (v := nI (pz_c A p ln k)) dX9_write_121 hM (by decide) rfl (show _ < (6000 : Nat) by omega) rfl (fun b121 => ?_)
        refine q_iadd dX9_write_122 (nI_add _ _) ?_
        refine q_iconst (v := nI 1) dX9_write_123 (by decide) ?_
        refine q_isub dX9_write_124 (pk_sub (by omega)) ?_
        refine q_iv (As := [_]) dX9_write_125 ml_X9_226 mt_X9_sign mi_X9_sign se_X9_sign hM.1 rfl rfl (Nat.le_of_ble_eq_true rfl) (Nat.le_of_ble_eq_true rfl) (Nat.zero_le _) (Nat.zero_le _) (Nat.le_of_ble_eq_true rfl) (q_C.mono (c_X9_sign (I := I) (A := A) hM (by first | (have := hwl; omega) | (have := hwl; show _ + 1 < 64; omega) | (have := hwl; show _ + 1 + 1 < 64; omega) | (have := hwl; show _ + 1 + 1 + 1 < 64; omega)) (by have := hz.2.2.2.1.2; omega)) (fun v G sz1 hq => ?_))
        obtain ⟨rfl, rfl, hM⟩ := hq
        refine s_iinc dX9_write_128 rfl (s_inc1 _) (by decide) rfl ?_
        refine q_goto (tgt := 41) dX9_write_131 (by decide) ?_
        exact ih (k + 1) G (by omega) _ (by omega) (by rw [wr_s, if_neg (Nat.not_lt.mpr c78), if_pos c65]; exact hM)
      · refine q_aload_n dX9_write_81 rfl rfl ?_
        refine q_bipush (v := nI 48) dX9_write_82 (by decide) ?_
        refine q_iload dX9_write_84 rfl ?_
        refine q_bipush (v := nI 10) dX9_write_86 (by decide) ?_
        refine q_idiv dX9_write_88 (by decide) (pk_div (by omega) (by omega) (by omega)) ?_
        refine q_iadd dX9_write_89 (nI_add _ _) ?_
        refine q_iv (As := [_]) dX9_write_90 ml_X9_226 mt_X9_sign mi_X9_sign se_X9_sign hM.1 rfl rfl (Nat.le_of_ble_eq_true rfl) (Nat.le_of_ble_eq_true rfl) (Nat.zero_le _) (Nat.zero_le _) (Nat.le_of_ble_eq_true rfl) (q_C.mono (c_X9_sign (I := I) (A := A) hM (by first | (have := hwl; omega) | (have := hwl; show _ + 1 < 64; omega) | (have := hwl; show _ + 1 + 1 < 64; omega) | (have := hwl; show _ + 1 + 1 + 1 < 64; omega)) (by omega)) (fun v G sz1 hq => ?_))
        obtain ⟨rfl, rfl, hM⟩ := hq
        refine q_aload_n dX9_write_93 rfl rfl ?_
        refine q_bipush (v := nI 48) dX9_write_94 (by decide) ?_
        refine q_iload dX9_write_96 rfl ?_
        refine q_bipush (v := nI 10) dX9_write_98 (by decide) ?_
        refine q_irem dX9_write_100 (by decide) (pk_rem (by omega) (by omega) (by omega)) ?_
        refine q_iadd dX9_write_101 (nI_add _ _) ?_
        refine q_iv (As := [_]) dX9_write_102 ml_X9_226 mt_X9_sign mi_X9_sign se_X9_sign hM.1 rfl rfl (Nat.le_of_ble_eq_true rfl) (Nat.le_of_ble_eq_true rfl) (Nat.zero_le _) (Nat.zero_le _) (Nat.le_of_ble_eq_true rfl) (q_C.mono (c_X9_sign (I := I) (A := A) hM (by first | (have := hwl; omega) | (have := hwl; show _ + 1 < 64; omega) | (have := hwl; show _ + 1 + 1 < 64; omega) | (have := hwl; show _ + 1 + 1 + 1 < 64; omega)) (by omega)) (fun v G sz1 hq => ?_))
        obtain ⟨rfl, rfl, hM⟩ := hq
        refine q_aload_n dX9_write_105 rfl rfl ?_
        refine q_bipush (v := nI 97) dX9_write_106 (by decide) ?_
        refine q_aload_n dX9_write_108 rfl rfl ?_
        refine q_mga 6 6 dX9_write_109 hM fl_X9_26 rfl ?_
        refine q_aload_n dX9_write_112 rfl rfl ?_
        refine q_iload_n dX9_write_113 rfl ?_
        refine q_iload_n dX9_write_114 rfl ?_
        refine q_iv (As := [_, _]) dX9_write_115 ml_X9_121 mt_X9_runAt mi_X9_runAt se_X9_runAt hM.1 rfl rfl (Nat.le_of_ble_eq_true rfl) (Nat.le_of_ble_eq_true rfl) (Nat.zero_le _) (Nat.zero_le _) (Nat.le_of_ble_eq_true rfl) (q_C.mono (c_X9_runAt hM _ _) (fun v G1 sz1 hq => ?_))
        obtain ⟨rfl, rfl, rfl⟩ := hq
        refine q_iload dX9_write_118 rfl ?_
        refine q_iadd dX9_write_120 (nI_add _ _) ?_
        refine q_mld (k := 6) (v := nI (pz_c A p ln k)) dX9_write_121 hM (by decide) rfl (show _ < (6000 : Nat) by omega) rfl (fun b121 => ?_)
        refine q_iadd dX9_write_122 (nI_add _ _) ?_
        refine q_iconst (v := nI 1) dX9_write_123 (by decide) ?_
        refine q_isub dX9_write_124 (pk_sub (by omega)) ?_
        refine q_iv (As := [_]) dX9_write_125 ml_X9_226 mt_X9_sign mi_X9_sign se_X9_sign hM.1 rfl rfl (Nat.le_of_ble_eq_true rfl) (Nat.le_of_ble_eq_true rfl) (Nat.zero_le _) (Nat.zero_le _) (Nat.le_of_ble_eq_true rfl) (q_C.mono (c_X9_sign (I := I) (A := A) hM (by first | (have := hwl; omega) | (have := hwl; show _ + 1 < 64; omega) | (have := hwl; show _ + 1 + 1 < 64; omega) | (have := hwl; show _ + 1 + 1 + 1 < 64; omega)) (by have := hz.2.2.2.1.2; omega)) (fun v G sz1 hq => ?_))
        obtain ⟨rfl, rfl, hM⟩ := hq
        refine s_iinc dX9_write_128 rfl (s_inc1 _) (by decide) rfl ?_
        refine q_goto (tgt := 41) dX9_write_131 (by decide) ?_
        exact ih (k + 1) G (by omega) _ (by omega) (by rw [wr_s, if_pos c78, if_pos c65]; exact hM)

set_option maxHeartbeats 4000000 in
set_option maxRecDepth 100000 in
theorem c_X9_write {T : q_T} {m : Nat} {G0 G : q_G} {I : md_I} {A : md_A} {sz t : Nat} (hM : Mod T m G0 I A G) (hI : Inv t I A) (x y : Int32) : q_C T mX9_write 3 65 0 0 [.ref m, .int x, .int y] G sz (fun v G' sz' => sz = sz' ∧ ∃ (I' : md_I) (A' : md_A), Mod T m G0 I' A' G' ∧ ∃ (z : Int32) (I2 : md_I) (A2 : md_A), v = some (.int z) ∧ D_write I A x y z I2 A2 ∧ Per I2 I' A2 A') := by
  refine q_C.of (by decide) rfl (by simp [Value.category]) (Nat.le_of_ble_eq_true rfl) ?_
  refine q_aload_n dX9_write_0 rfl rfl ?_
  refine q_iload_n dX9_write_1 rfl ?_
  refine q_iload_n dX9_write_2 rfl ?_
  refine q_iv (As := [_, _]) dX9_write_3 ml_X9_117 mt_X9_isLine mi_X9_isLine se_X9_isLine hM.1 rfl rfl (Nat.le_of_ble_eq_true rfl) (Nat.le_of_ble_eq_true rfl) (Nat.zero_le _) (Nat.zero_le _) (Nat.le_of_ble_eq_true rfl) (q_C.mono (c_X9_isLine hM hI.1 hI.puz _ _) (fun v G1 sz1 hq => ?_))
  obtain ⟨⟨⟨p, ln, hp, rfl, hln, rfl⟩, rfl⟩ | ⟨hV3, rfl⟩, rfl, rfl⟩ := hq
  · have hz := (hI.2.1 p hp).1
    have hp30 := hI.1
    have hww := hI.puz p hp
    have hn10 := (hz.2.2.2.2 ln hln).1
    refine q_if_ne (tgt := 11) dX9_write_6 (by decide) (fun _ => ?_) (fun h => absurd h (by decide))
    refine q_aload_n dX9_write_11 rfl rfl ?_
    refine q_iconst (v := nI 0) dX9_write_12 (by decide) ?_
    refine q_mpi 8 dX9_write_13 hM fl_X9_223 fp_X9_223 (by decide) rfl (by omega) (fun G hM => ?_)
    refine q_aload_n dX9_write_16 rfl rfl ?_
    refine q_mga 5 5 dX9_write_17 hM fl_X9_23 rfl ?_
    refine q_bipush (v := nI 20) dX9_write_20 (by decide) ?_
    refine q_iload_n dX9_write_22 rfl ?_
    refine q_imul dX9_write_23 (pk_mul _ _) ?_
    refine q_iload_n dX9_write_24 rfl ?_
    refine q_iadd dX9_write_25 (nI_add _ _) ?_
    refine q_mld (k := 5) (v := nI (pz_n A p ln)) dX9_write_26 hM (by decide) rfl (show _ < (600 : Nat) by omega) rfl (fun b26 => ?_)
    refine s_istore_n dX9_write_27 (by decide) rfl ?_
    refine q_iload_n dX9_write_28 rfl ?_
    refine n_if_ne (tgt := 38) dX9_write_29 (by decide) (by omega) (fun c29 => ?_) (fun c29 => ?_)
    · refine q_iconst (v := nI 0) dX9_write_38 (by decide) ?_
      refine s_istore dX9_write_39 (by decide) rfl ?_
      refine l_X9_write hI hp hln (fun G x5 hM => ?_) 0 G _ (Nat.zero_le _) (by show Mod T m G0 (va_up I 8 0) (va_up A 27 (A 27)) G; rw [md_up_self]; exact hM)
      have hall : wr_all (pz_c A p ln) (pz_l A p ln) (A 27) (pz_n A p ln) = wr (pz_c A p ln) (pz_l A p ln) (A 27) (pz_n A p ln) := if_neg c29
      rw [← hall] at hM
      refine q_aload_n dX9_write_134 rfl rfl ?_
      refine q_mgi 8 dX9_write_135 hM fl_X9_223 (by decide) (fun b135 => ?_)
      exact q_ireturn dX9_write_138 rfl rfl ⟨rfl, _, _, hM, _, _, _, rfl, Or.inl ⟨p, ln, ⟨hp, rfl, hln, rfl⟩, rfl, rfl, rfl⟩, Per.rfl'⟩
    · have hM : Mod T m G0 (va_up I 8 ((0, A 27) : Nat × (Nat → Nat)).1) (va_up A 27 ((0, A 27) : Nat × (Nat → Nat)).2) G := by show Mod T m G0 (va_up I 8 0) (va_up A 27 (A 27)) G; rw [md_up_self]; exact hM
      refine q_aload_n dX9_write_32 rfl rfl ?_
      refine q_bipush (v := nI 48) dX9_write_33 (by decide) ?_
      refine q_iv (As := [_]) dX9_write_35 ml_X9_226 mt_X9_sign mi_X9_sign se_X9_sign hM.1 rfl rfl (Nat.le_of_ble_eq_true rfl) (Nat.le_of_ble_eq_true rfl) (Nat.zero_le _) (Nat.zero_le _) (Nat.le_of_ble_eq_true rfl) (q_C.mono (c_X9_sign (I := I) (A := A) hM (show (0 : Nat) < 64 by decide) (by decide)) (fun v G sz1 hq => ?_))
      obtain ⟨rfl, rfl, hM⟩ := hq
      refine q_iconst (v := nI 0) dX9_write_38 (by decide) ?_
      refine s_istore dX9_write_39 (by decide) rfl ?_
      refine q_iload dX9_write_41 rfl ?_
      refine q_iload_n dX9_write_43 rfl ?_
      refine n_icmp_ge (tgt := 134) dX9_write_44 (by decide) (by decide) (by omega) (fun c44 => ?_) (fun c44 => absurd c44 (by omega))
      have hall : wr_all (pz_c A p ln) (pz_l A p ln) (A 27) (pz_n A p ln) = wp (0, A 27) 48 := if_pos c29
      rw [← hall] at hM
      refine q_aload_n dX9_write_134 rfl rfl ?_
      refine q_mgi 8 dX9_write_135 hM fl_X9_223 (by decide) (fun b135 => ?_)
      exact q_ireturn dX9_write_138 rfl rfl ⟨rfl, _, _, hM, _, _, _, rfl, Or.inl ⟨p, ln, ⟨hp, rfl, hln, rfl⟩, rfl, rfl, rfl⟩, Per.rfl'⟩
  · refine q_if_ne (tgt := 11) dX9_write_6 (by decide) (fun h => absurd h (by decide)) (fun _ => ?_)
    refine q_iconst (v := -1) dX9_write_9 (by decide) ?_
    exact q_ireturn dX9_write_10 rfl rfl ⟨rfl, I, A, hM, _, I, A, rfl, Or.inr ⟨fun ⟨p, ln, h⟩ => hV3 ⟨p, ln, h⟩, rfl, rfl, rfl⟩, Per.rfl'⟩
