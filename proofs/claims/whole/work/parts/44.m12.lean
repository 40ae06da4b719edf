def D_pz (I : md_I) (x y w : Int32) (a b c : Nat) : Prop := (1 ≤ a ∧ a ≤ 10 ∧ x = nI a) ∧ (1 ≤ b ∧ b ≤ 10 ∧ y = nI b) ∧ (1 ≤ c ∧ c ≤ 3 ∧ w = nI c) ∧ I 0 ≠ 30
/-- a puzzle comes -/
def D_new (I : md_I) (A : md_A) (a b c : Nat) : md_A := md_fill (md_st (md_st (md_st A 1 (I 0) a) 2 (I 0) b) 3 (I 0) c) 8 (100 * I 0) (a * b) (1 <<< (c + 1) - 1)
def D_puzzle (I : md_I) (A : md_A) (x y w z : Int32) (I2 : md_I) (A2 : md_A) : Prop := (∃ a b c, D_pz I x y w a b c ∧ z = nI (I 0) ∧ I2 = va_up I 0 (I 0 + 1) ∧ A2 = D_new I A a b c) ∨ (¬ (∃ a b c, D_pz I x y w a b c) ∧ z = -1 ∧ I2 = I ∧ A2 = A)
theorem ln_sum_snoc (f : Nat → Nat) : ∀ m lo, ln_sum f lo (m + 1) = ln_sum f lo m + f (lo + m) := by
  intro m
  induction m with
  | zero => intro lo; simp [ln_sum]
  | succ m ih =>
    intro lo
    show f lo + ln_sum f (lo + 1) (m + 1) = f lo + ln_sum f (lo + 1) m + f (lo + (m + 1))
    rw [ih (lo + 1), show lo + 1 + m = lo + (m + 1) by omega]
    omega
def pz_runs (A : md_A) (p : Nat) : Nat := ln_sum (fun l => A 5 (20 * p + l)) 0 (A 1 p + A 2 p)
def pz_dec (A : md_A) (p : Nat) : Nat := ln_sum (fun c => if A 8 (100 * p + c) &&& (A 8 (100 * p + c) - 1) = 0 then 1 else 0) 0 (A 1 p * A 2 p)
def D_told (I : md_I) (A : md_A) (x y z : Int32) : Prop := (∃ p, p < I 0 ∧ x = nI p ∧ ((y = nI 0 ∧ z = nI (A 1 p)) ∨ (y = nI 1 ∧ z = nI (A 2 p)) ∨ (y = nI 2 ∧ z = nI (A 3 p)) ∨ (y = nI 3 ∧ z = nI (pz_runs A p)) ∨ (y = nI 4 ∧ z = nI (pz_dec A p)) ∨ (¬ (∃ k, k ≤ 4 ∧ y = nI k) ∧ z = -1))) ∨ (¬ (∃ p, p < I 0 ∧ x = nI p) ∧ z = -1)
theorem q_sw (x : Int32) (n : Nat) (hn : n ≤ 1000) : (∃ k, k ≤ n ∧ x = nI k) ∨ (¬ (∃ k, k ≤ n ∧ x = nI k) ∧ (x.toInt < 0 ∨ (n : Int) < x.toInt)) := by
  by_cases h : ∃ k, k ≤ n ∧ x = nI k
  · exact Or.inl h
  · refine Or.inr ⟨h, ?_⟩
    by_cases h0 : x.toInt < 0
    · exact Or.inl h0
    · right
      obtain ⟨j, hj, rfl⟩ := nI_of (x := x) (fun g => by have := Int32.lt_iff_toInt_lt.mp g; rw [Int32.toInt_zero] at this; omega)
      rw [nI_toInt hj]
      have : ¬ j ≤ n := fun g => h ⟨j, g, rfl⟩
      omega

set_option maxHeartbeats 4000000 in
set_option maxRecDepth 100000 in
theorem c_X9_puzzle {T : q_T} {m : Nat} {G0 G : q_G} {I : md_I} {A : md_A} {sz t : Nat} (hM : Mod T m G0 I A G) (hI : Inv t I A) (x y w : Int32) : q_C T mX9_puzzle 3 65 0 0 [.ref m, .int x, .int y, .int w] G sz (fun v G' sz' => sz = sz' ∧ ∃ (I' : md_I) (A' : md_A), Mod T m G0 I' A' G' ∧ ∃ (z : Int32) (I2 : md_I) (A2 : md_A), v = some (.int z) ∧ D_puzzle I A x y w z I2 A2 ∧ Per I2 I' A2 A') := by
  refine q_C.of (by decide) rfl (by simp [Value.category]) (Nat.le_of_ble_eq_true rfl) ?_
  refine q_iload_n dX9_puzzle_0 rfl ?_
  refine q_iconst (v := nI 1) dX9_puzzle_1 (by decide) ?_
  refine q_bipush (v := nI 10) dX9_puzzle_2 (by decide) ?_
  refine q_is (As := [_, _, _]) dX9_puzzle_4 ml_X9_96 mt_X9_in ms_X9_in rfl (Nat.le_of_ble_eq_true rfl) (Nat.le_of_ble_eq_true rfl) (Nat.zero_le _) (Nat.zero_le _) (Nat.le_of_ble_eq_true rfl) (q_C.mono (c_X9_in _ _ _) (fun v G1 sz1 hq => ?_))
  rw [q_ixr (by omega) (by omega)] at hq
  obtain ⟨⟨⟨a, ha, ha2, rfl⟩, rfl⟩ | ⟨hV4, rfl⟩, rfl, rfl⟩ := hq
  · refine q_if_eq (tgt := 38) dX9_puzzle_7 (by decide) (fun h => absurd h (by decide)) (fun _ => ?_)
    refine q_iload_n dX9_puzzle_10 rfl ?_
    refine q_iconst (v := nI 1) dX9_puzzle_11 (by decide) ?_
    refine q_bipush (v := nI 10) dX9_puzzle_12 (by decide) ?_
    refine q_is (As := [_, _, _]) dX9_puzzle_14 ml_X9_96 mt_X9_in ms_X9_in rfl (Nat.le_of_ble_eq_true rfl) (Nat.le_of_ble_eq_true rfl) (Nat.zero_le _) (Nat.zero_le _) (Nat.le_of_ble_eq_true rfl) (q_C.mono (c_X9_in _ _ _) (fun v G1 sz1 hq => ?_))
    rw [q_ixr (by omega) (by omega)] at hq
    obtain ⟨⟨⟨b, hb, hb2, rfl⟩, rfl⟩ | ⟨hV14, rfl⟩, rfl, rfl⟩ := hq
    · refine q_if_eq (tgt := 38) dX9_puzzle_17 (by decide) (fun h => absurd h (by decide)) (fun _ => ?_)
      refine q_iload_n dX9_puzzle_20 rfl ?_
      refine q_iconst (v := nI 1) dX9_puzzle_21 (by decide) ?_
      refine q_iconst (v := nI 3) dX9_puzzle_22 (by decide) ?_
      refine q_is (As := [_, _, _]) dX9_puzzle_23 ml_X9_96 mt_X9_in ms_X9_in rfl (Nat.le_of_ble_eq_true rfl) (Nat.le_of_ble_eq_true rfl) (Nat.zero_le _) (Nat.zero_le _) (Nat.le_of_ble_eq_true rfl) (q_C.mono (c_X9_in _ _ _) (fun v G1 sz1 hq => ?_))
      rw [q_ixr (by omega) (by omega)] at hq
      obtain ⟨⟨⟨c, hc, hc2, rfl⟩, rfl⟩ | ⟨hV23, rfl⟩, rfl, rfl⟩ := hq
      · refine q_if_eq (tgt := 38) dX9_puzzle_26 (by decide) (fun h => absurd h (by decide)) (fun _ => ?_)
        refine q_aload_n dX9_puzzle_29 rfl rfl ?_
        refine q_mgi 0 dX9_puzzle_30 hM fl_X9_92 (by decide) (fun b30 => ?_)
        refine q_bipush (v := nI 30) dX9_puzzle_33 (by decide) ?_
        refine n_icmp_ne (tgt := 40) dX9_puzzle_35 (by decide) (by omega) (by omega) (fun c35 => ?_) (fun c35 => ?_)
        · have hI0 := hI.1
          refine q_aload_n dX9_puzzle_40 rfl rfl ?_
          refine q_mgi 0 dX9_puzzle_41 hM fl_X9_92 (by decide) (fun b41 => ?_)
          refine s_istore dX9_puzzle_44 (by decide) rfl ?_
          refine q_aload_n dX9_puzzle_46 rfl rfl ?_
          refine q_mga 1 1 dX9_puzzle_47 hM fl_X9_9 rfl ?_
          refine q_iload dX9_puzzle_50 rfl ?_
          refine q_iload_n dX9_puzzle_52 rfl ?_
          refine q_mst (k := 1) dX9_puzzle_53 hM (by decide) rfl (show _ < (30 : Nat) by omega) rfl (by omega) (fun G hM => ?_)
          refine q_aload_n dX9_puzzle_54 rfl rfl ?_
          refine q_mga 2 2 dX9_puzzle_55 hM fl_X9_13 rfl ?_
          refine q_iload dX9_puzzle_58 rfl ?_
          refine q_iload_n dX9_puzzle_60 rfl ?_
          refine q_mst (k := 2) dX9_puzzle_61 hM (by decide) rfl (show _ < (30 : Nat) by omega) rfl (by omega) (fun G hM => ?_)
          refine q_aload_n dX9_puzzle_62 rfl rfl ?_
          refine q_mga 3 3 dX9_puzzle_63 hM fl_X9_16 rfl ?_
          refine q_iload dX9_puzzle_66 rfl ?_
          refine q_iload_n dX9_puzzle_68 rfl ?_
          refine q_mst (k := 3) dX9_puzzle_69 hM (by decide) rfl (show _ < (30 : Nat) by omega) rfl (by omega) (fun G hM => ?_)
          refine q_aload_n dX9_puzzle_70 rfl rfl ?_
          refine q_dup dX9_puzzle_71 rfl ?_
          refine q_mgi 0 dX9_puzzle_72 hM fl_X9_92 (by decide) (fun b72 => ?_)
          refine q_iconst (v := nI 1) dX9_puzzle_75 (by decide) ?_
          refine q_iadd dX9_puzzle_76 (nI_add _ _) ?_
          refine q_mpi 0 dX9_puzzle_77 hM fl_X9_92 fp_X9_92 (by decide) rfl (by omega) (fun G hM => ?_)
          refine q_aload_n dX9_puzzle_80 rfl rfl ?_
          refine q_iload dX9_puzzle_81 rfl ?_
          have hM : Mod T m G0 (va_up I 0 (I 0 + 1)) (md_st (md_st (md_st A 1 (I 0) a) 2 (I 0) b) 3 (I 0) c) G := hM
          have e1 : ∀ p, md_st (md_st (md_st A 1 (I 0) a) 2 (I 0) b) 3 (I 0) c 1 p = if p = I 0 then a else A 1 p := fun p => by rw [md_st_at, md_st_at, md_st_at]; simp
          have e2 : ∀ p, md_st (md_st (md_st A 1 (I 0) a) 2 (I 0) b) 3 (I 0) c 2 p = if p = I 0 then b else A 2 p := fun p => by rw [md_st_at, md_st_at, md_st_at]; simp
          have e3 : ∀ p, md_st (md_st (md_st A 1 (I 0) a) 2 (I 0) b) 3 (I 0) c 3 p = if p = I 0 then c else A 3 p := fun p => by rw [md_st_at, md_st_at, md_st_at]; simp
          refine q_iv (As := [_]) dX9_puzzle_83 ml_X9_111 mt_X9_fresh mi_X9_fresh se_X9_fresh hM.1 rfl rfl (Nat.le_of_ble_eq_true rfl) (Nat.le_of_ble_eq_true rfl) (Nat.zero_le _) (Nat.zero_le _) (Nat.le_of_ble_eq_true rfl) (q_C.mono (c_X9_fresh hM (show I 0 + 1 ≤ 30 by omega) (fun p hp => by have hp : p < I 0 + 1 := hp; rw [e1, e2]; by_cases h : p = I 0; rw [if_pos h, if_pos h]; omega; rw [if_neg h, if_neg h]; exact hI.puz p (by omega)) (fun p hp => by have hp : p < I 0 + 1 := hp; rw [e3]; by_cases h : p = I 0; rw [if_pos h]; omega; rw [if_neg h]; exact (hI.2.1 p (by omega)).1.2.2.2.1.2) _) (fun v G sz1 hq => ?_))
          obtain ⟨rfl, ⟨p, hp, ep, rfl, hM⟩ | ⟨hn, -, -⟩⟩ := hq
          · have hp : p < I 0 + 1 := hp
            obtain rfl : I 0 = p := (nI_eq (by omega) (by omega)).mp ep
            rw [e1, e2, e3, if_pos rfl, if_pos rfl, if_pos rfl] at hM
            refine q_pop dX9_puzzle_86 rfl ?_
            refine q_iload dX9_puzzle_87 rfl ?_
            exact q_ireturn dX9_puzzle_89 rfl rfl ⟨rfl, _, _, hM, _, _, _, rfl, Or.inl ⟨a, b, c, ⟨⟨ha, ha2, rfl⟩, ⟨hb, hb2, rfl⟩, ⟨hc, hc2, rfl⟩, c35⟩, rfl, rfl, rfl⟩, Per.rfl'⟩
          · exact absurd ⟨I 0, show I 0 < I 0 + 1 by omega, rfl⟩ hn
        · refine q_iconst (v := -1) dX9_puzzle_38 (by decide) ?_
          exact q_ireturn dX9_puzzle_39 rfl rfl ⟨rfl, I, A, hM, _, I, A, rfl, Or.inr ⟨fun ⟨a, b, c, ⟨h1, h2, h3⟩, ⟨h4, h5, h6⟩, ⟨h7, h8, h9⟩, h10⟩ => h10 c35, rfl, rfl, rfl⟩, Per.rfl'⟩
      · refine q_if_eq (tgt := 38) dX9_puzzle_26 (by decide) (fun _ => ?_) (fun h => absurd h (by decide))
        refine q_iconst (v := -1) dX9_puzzle_38 (by decide) ?_
        exact q_ireturn dX9_puzzle_39 rfl rfl ⟨rfl, I, A, hM, _, I, A, rfl, Or.inr ⟨fun ⟨a, b, c, ⟨h1, h2, h3⟩, ⟨h4, h5, h6⟩, ⟨h7, h8, h9⟩, h10⟩ => hV23 ⟨c, h7, h8, h9⟩, rfl, rfl, rfl⟩, Per.rfl'⟩
    · refine q_if_eq (tgt := 38) dX9_puzzle_17 (by decide) (fun _ => ?_) (fun h => absurd h (by decide))
      refine q_iconst (v := -1) dX9_puzzle_38 (by decide) ?_
      exact q_ireturn dX9_puzzle_39 rfl rfl ⟨rfl, I, A, hM, _, I, A, rfl, Or.inr ⟨fun ⟨a, b, c, ⟨h1, h2, h3⟩, ⟨h4, h5, h6⟩, ⟨h7, h8, h9⟩, h10⟩ => hV14 ⟨b, h4, h5, h6⟩, rfl, rfl, rfl⟩, Per.rfl'⟩
  · refine q_if_eq (tgt := 38) dX9_puzzle_7 (by decide) (fun _ => ?_) (fun h => absurd h (by decide))
    refine q_iconst (v := -1) dX9_puzzle_38 (by decide) ?_
    exact q_ireturn dX9_puzzle_39 rfl rfl ⟨rfl, I, A, hM, _, I, A, rfl, Or.inr ⟨fun ⟨a, b, c, ⟨h1, h2, h3⟩, ⟨h4, h5, h6⟩, ⟨h7, h8, h9⟩, h10⟩ => hV4 ⟨a, h1, h2, h3⟩, rfl, rfl, rfl⟩, Per.rfl'⟩

set_option maxHeartbeats 4000000 in
set_option maxRecDepth 100000 in
theorem l_X9_told3 {T : q_T} {m : Nat} {G0 G : q_G} {I : md_I} {A : md_A} {sz t : Nat} {E : q_E} {p : Nat} {x2 : Int32} (hM : Mod T m G0 I A G) (hI : Inv t I A) (hp : p < I 0) (hx : E (some (.int (nI (pz_runs A p)))) G sz) : ∀ (c : Nat) (_ : Unit), c ≤ A 1 p + A 2 p → q_R T mX9_told 2 43 72 [some (.ref m), some (.int (nI p)), some (.int x2), some (.int (nI (ln_sum (fun l => A 5 (20 * p + l)) 0 c))), some (.int (nI c))] [] G sz 0 0 E := by
  refine q_indN (fun c _ => A 1 p + A 2 p - c) _ (fun c _ ih => ?_)
  intro hc
  have hz := (hI.2.1 p hp).1
  have hp30 := hI.1
  have hww := hI.puz p hp
  have hsz := pz_size hz
  refine q_iload dX9_told_72 rfl ?_
  refine q_aload_n dX9_told_74 rfl rfl ?_
  refine q_iload_n dX9_told_75 rfl ?_
  refine q_iv (As := [_]) dX9_told_76 ml_X9_104 mt_X9_linesOf mi_X9_linesOf se_X9_linesOf hM.1 rfl rfl (Nat.le_of_ble_eq_true rfl) (Nat.le_of_ble_eq_true rfl) (Nat.zero_le _) (Nat.zero_le _) (Nat.le_of_ble_eq_true rfl) (q_C.mono (c_X9_linesOf (w := A 1 p) (h := A 2 p) hM (by omega) rfl rfl) (fun v G1 sz1 hq => ?_))
  obtain ⟨rfl, rfl, rfl⟩ := hq
  refine n_icmp_ge (tgt := 103) dX9_told_79 (by decide) (by omega) (by omega) (fun c79 => ?_) (fun c79 => ?_)
  · refine q_iload_n dX9_told_103 rfl ?_
    exact q_ireturn dX9_told_104 rfl rfl (by obtain rfl : c = A 1 p + A 2 p := (by omega); exact hx)
  · refine q_iload_n dX9_told_82 rfl ?_
    refine q_aload_n dX9_told_83 rfl rfl ?_
    refine q_mga 5 5 dX9_told_84 hM fl_X9_23 rfl ?_
    refine q_bipush (v := nI 20) dX9_told_87 (by decide) ?_
    refine q_iload_n dX9_told_89 rfl ?_
    refine q_imul dX9_told_90 (pk_mul _ _) ?_
    refine q_iload dX9_told_91 rfl ?_
    refine q_iadd dX9_told_93 (nI_add _ _) ?_
    refine q_mld (k := 5) (v := nI (A 5 (20 * p + c))) dX9_told_94 hM (by decide) rfl (show _ < (600 : Nat) by omega) rfl (fun b94 => ?_)
    refine q_iadd dX9_told_95 (nI_add _ _) ?_
    refine s_istore_n dX9_told_96 (by decide) rfl ?_
    refine s_iinc dX9_told_97 rfl (s_inc1 _) (by decide) rfl ?_
    refine q_goto (tgt := 72) dX9_told_100 (by decide) ?_
    rw [show ln_sum (fun l => A 5 (20 * p + l)) 0 c + A 5 (20 * p + c) = ln_sum (fun l => A 5 (20 * p + l)) 0 (c + 1) by rw [ln_sum_snoc, Nat.zero_add]]
    exact ih (c + 1) () (by omega) (by omega)

set_option maxHeartbeats 4000000 in
set_option maxRecDepth 100000 in
theorem l_X9_told4 {T : q_T} {m : Nat} {G0 G : q_G} {I : md_I} {A : md_A} {sz t : Nat} {E : q_E} {p : Nat} {x2 : Int32} (hM : Mod T m G0 I A G) (hI : Inv t I A) (hp : p < I 0) (hx : E (some (.int (nI (pz_dec A p)))) G sz) : ∀ (c : Nat) (_ : Unit), c ≤ A 1 p * A 2 p → q_R T mX9_told 2 43 108 [some (.ref m), some (.int (nI p)), some (.int x2), some (.int (nI (ln_sum (fun c => if A 8 (100 * p + c) &&& (A 8 (100 * p + c) - 1) = 0 then 1 else 0) 0 c))), some (.int (nI c))] [] G sz 0 0 E := by
  refine q_indN (fun c _ => A 1 p * A 2 p - c) _ (fun c _ ih => ?_)
  intro hc
  have hz := (hI.2.1 p hp).1
  have hp30 := hI.1
  have hww := hI.puz p hp
  have hsz := pz_size hz
  refine q_iload dX9_told_108 rfl ?_
  refine q_aload_n dX9_told_110 rfl rfl ?_
  refine q_iload_n dX9_told_111 rfl ?_
  refine q_iv (As := [_]) dX9_told_112 ml_X9_108 mt_X9_sizeOf mi_X9_sizeOf se_X9_sizeOf hM.1 rfl rfl (Nat.le_of_ble_eq_true rfl) (Nat.le_of_ble_eq_true rfl) (Nat.zero_le _) (Nat.zero_le _) (Nat.le_of_ble_eq_true rfl) (q_C.mono (c_X9_sizeOf (w := A 1 p) (h := A 2 p) hM (by omega) rfl rfl) (fun v G1 sz1 hq => ?_))
  obtain ⟨rfl, rfl, rfl⟩ := hq
  refine n_icmp_ge (tgt := 150) dX9_told_115 (by decide) (by omega) (by omega) (fun c115 => ?_) (fun c115 => ?_)
  · refine q_iload_n dX9_told_150 rfl ?_
    exact q_ireturn dX9_told_151 rfl rfl (by obtain rfl : c = A 1 p * A 2 p := (by omega); exact hx)
  · refine q_iload_n dX9_told_118 rfl ?_
    refine q_aload_n dX9_told_119 rfl rfl ?_
    refine q_mga 8 8 dX9_told_120 hM fl_X9_32 rfl ?_
    refine q_bipush (v := nI 100) dX9_told_123 (by decide) ?_
    refine q_iload_n dX9_told_125 rfl ?_
    refine q_imul dX9_told_126 (pk_mul _ _) ?_
    refine q_iload dX9_told_127 rfl ?_
    refine q_iadd dX9_told_129 (nI_add _ _) ?_
    refine q_mld (k := 8) (v := nI (A 8 (100 * p + c))) dX9_told_130 hM (by decide) rfl (show _ < (3000 : Nat) by omega) rfl (fun b130 => ?_)
    have hs1 := (hI.2.1 p hp).2.2 c c115
    refine q_is (As := [_]) dX9_told_131 ml_X9_128 mt_X9_isOne ms_X9_isOne rfl (Nat.le_of_ble_eq_true rfl) (Nat.le_of_ble_eq_true rfl) (Nat.zero_le _) (Nat.zero_le _) (Nat.le_of_ble_eq_true rfl) (q_C.mono (c_X9_isOne hs1.1 (by omega)) (fun v G1 sz1 hq => ?_))
    obtain ⟨rfl, rfl, rfl⟩ := hq
    refine n_if_eq (tgt := 141) dX9_told_134 (by decide) (by split <;> decide) (fun c134 => ?_) (fun c134 => ?_)
    · refine q_iconst (v := nI 0) dX9_told_141 (by decide) ?_
      refine q_iadd dX9_told_142 (nI_add _ _) ?_
      refine s_istore_n dX9_told_143 (by decide) rfl ?_
      refine s_iinc dX9_told_144 rfl (s_inc1 _) (by decide) rfl ?_
      refine q_goto (tgt := 108) dX9_told_147 (by decide) ?_
      have hone : (if A 8 (100 * p + c) &&& (A 8 (100 * p + c) - 1) = 0 then 1 else 0) = 0 := by have h9 := c134; split at h9 <;> simp_all
      rw [show ln_sum (fun c => if A 8 (100 * p + c) &&& (A 8 (100 * p + c) - 1) = 0 then 1 else 0) 0 c + 0 = ln_sum (fun c => if A 8 (100 * p + c) &&& (A 8 (100 * p + c) - 1) = 0 then 1 else 0) 0 (c + 1) by rw [ln_sum_snoc, Nat.zero_add, hone]]
      exact ih (c + 1) () (by omega) (by omega)
    · refine q_iconst (v := nI 1) dX9_told_137 (by decide) ?_
      refine q_goto (tgt := 142) dX9_told_138 (by decide) ?_
      refine q_iadd dX9_told_142 (nI_add _ _) ?_
      refine s_istore_n dX9_told_143 (by decide) rfl ?_
      refine s_iinc dX9_told_144 rfl (s_inc1 _) (by decide) rfl ?_
      refine q_goto (tgt := 108) dX9_told_147 (by decide) ?_
      have hone : (if A 8 (100 * p + c) &&& (A 8 (100 * p + c) - 1) = 0 then 1 else 0) = 1 := by have h9 := c134; split at h9 <;> simp_all
      rw [show ln_sum (fun c => if A 8 (100 * p + c) &&& (A 8 (100 * p + c) - 1) = 0 then 1 else 0) 0 c + 1 = ln_sum (fun c => if A 8 (100 * p + c) &&& (A 8 (100 * p + c) - 1) = 0 then 1 else 0) 0 (c + 1) by rw [ln_sum_snoc, Nat.zero_add, hone]]
      exact ih (c + 1) () (by omega) (by omega)

set_option maxHeartbeats 4000000 in
set_option maxRecDepth 100000 in
theorem c_X9_told {T : q_T} {m : Nat} {G0 G : q_G} {I : md_I} {A : md_A} {sz t : Nat} (hM : Mod T m G0 I A G) (hI : Inv t I A) (x y : Int32) : q_C T mX9_told 2 43 0 0 [.ref m, .int x, .int y] G sz (fun v G' sz' => sz = sz' ∧ G = G' ∧ ∃ z, v = some (.int z) ∧ D_told I A x y z) := by
  refine q_C.of (by decide) rfl (by simp [Value.category]) (Nat.le_of_ble_eq_true rfl) ?_
  refine q_aload_n dX9_told_0 rfl rfl ?_
  refine q_iload_n dX9_told_1 rfl ?_
  refine q_iv (As := [_]) dX9_told_2 ml_X9_100 mt_X9_isPuzzle mi_X9_isPuzzle se_X9_isPuzzle hM.1 rfl rfl (Nat.le_of_ble_eq_true rfl) (Nat.le_of_ble_eq_true rfl) (Nat.zero_le _) (Nat.zero_le _) (Nat.le_of_ble_eq_true rfl) (q_C.mono (c_X9_isPuzzle hM _) (fun v G1 sz1 hq => ?_))
  obtain ⟨⟨⟨p, hp, rfl⟩, rfl⟩ | ⟨hV2, rfl⟩, rfl, rfl⟩ := hq
  · have hz := (hI.2.1 p hp).1
    have hp30 := hI.1
    have hww := hI.puz p hp
    have hsz := pz_size hz
    refine q_if_ne (tgt := 10) dX9_told_5 (by decide) (fun _ => ?_) (fun h => absurd h (by decide))
    refine q_iconst (v := nI 0) dX9_told_10 (by decide) ?_
    refine s_istore_n dX9_told_11 (by decide) rfl ?_
    refine q_iload_n dX9_told_12 rfl ?_
    rcases q_sw y 4 (by omega) with ⟨k, hk, rfl⟩ | ⟨hno, hout⟩
    · rcases (show k = 0 ∨ k = 1 ∨ k = 2 ∨ k = 3 ∨ k = 4 by omega) with rfl | rfl | rfl | rfl | rfl
      · refine q_tableIn (off := 35) (tgt := 48) dX9_told_13 (by decide) (by decide) (by decide) (by decide) ?_
        refine q_aload_n dX9_told_48 rfl rfl ?_
        refine q_mga 1 1 dX9_told_49 hM fl_X9_9 rfl ?_
        refine q_iload_n dX9_told_52 rfl ?_
        refine q_mld (k := 1) (v := nI _) dX9_told_53 hM (by decide) rfl (show _ < (30 : Nat) by omega) rfl (fun b53 => ?_)
        exact q_ireturn dX9_told_54 rfl rfl ⟨rfl, rfl, _, rfl, Or.inl ⟨p, hp, rfl, Or.inl ⟨rfl, rfl⟩⟩⟩
      · refine q_tableIn (off := 42) (tgt := 55) dX9_told_13 (by decide) (by decide) (by decide) (by decide) ?_
        refine q_aload_n dX9_told_55 rfl rfl ?_
        refine q_mga 2 2 dX9_told_56 hM fl_X9_13 rfl ?_
        refine q_iload_n dX9_told_59 rfl ?_
        refine q_mld (k := 2) (v := nI _) dX9_told_60 hM (by decide) rfl (show _ < (30 : Nat) by omega) rfl (fun b60 => ?_)
        exact q_ireturn dX9_told_61 rfl rfl ⟨rfl, rfl, _, rfl, Or.inl ⟨p, hp, rfl, Or.inr (Or.inl ⟨rfl, rfl⟩)⟩⟩
      · refine q_tableIn (off := 49) (tgt := 62) dX9_told_13 (by decide) (by decide) (by decide) (by decide) ?_
        refine q_aload_n dX9_told_62 rfl rfl ?_
        refine q_mga 3 3 dX9_told_63 hM fl_X9_16 rfl ?_
        refine q_iload_n dX9_told_66 rfl ?_
        refine q_mld (k := 3) (v := nI _) dX9_told_67 hM (by decide) rfl (show _ < (30 : Nat) by omega) rfl (fun b67 => ?_)
        exact q_ireturn dX9_told_68 rfl rfl ⟨rfl, rfl, _, rfl, Or.inl ⟨p, hp, rfl, Or.inr (Or.inr (Or.inl ⟨rfl, rfl⟩))⟩⟩
      · refine q_tableIn (off := 56) (tgt := 69) dX9_told_13 (by decide) (by decide) (by decide) (by decide) ?_
        refine q_iconst (v := nI 0) dX9_told_69 (by decide) ?_
        refine s_istore dX9_told_70 (by decide) rfl ?_
        exact l_X9_told3 hM hI hp ⟨rfl, rfl, _, rfl, Or.inl ⟨p, hp, rfl, Or.inr (Or.inr (Or.inr (Or.inl ⟨rfl, rfl⟩)))⟩⟩ 0 () (Nat.zero_le _)
      · refine q_tableIn (off := 92) (tgt := 105) dX9_told_13 (by decide) (by decide) (by decide) (by decide) ?_
        refine q_iconst (v := nI 0) dX9_told_105 (by decide) ?_
        refine s_istore dX9_told_106 (by decide) rfl ?_
        exact l_X9_told4 hM hI hp ⟨rfl, rfl, _, rfl, Or.inl ⟨p, hp, rfl, Or.inr (Or.inr (Or.inr (Or.inr (Or.inl ⟨rfl, rfl⟩))))⟩⟩ 0 () (Nat.zero_le _)
    · refine q_tableOut (tgt := 152) dX9_told_13 hout (by decide) ?_
      refine q_iconst (v := -1) dX9_told_152 (by decide) ?_
      exact q_ireturn dX9_told_153 rfl rfl ⟨rfl, rfl, _, rfl, Or.inl ⟨p, hp, rfl, Or.inr (Or.inr (Or.inr (Or.inr (Or.inr ⟨hno, rfl⟩))))⟩⟩
  · refine q_if_ne (tgt := 10) dX9_told_5 (by decide) (fun h => absurd h (by decide)) (fun _ => ?_)
    refine q_iconst (v := -1) dX9_told_8 (by decide) ?_
    exact q_ireturn dX9_told_9 rfl rfl ⟨rfl, rfl, _, rfl, Or.inr ⟨fun ⟨p, h1, h2⟩ => hV2 ⟨p, h1, h2⟩, rfl⟩⟩
