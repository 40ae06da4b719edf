theorem ln_meas {c l pl : Nat → Nat} {n L R : Nat} (he : ln_e l pl n ≤ L) (h : ln_T c l L (ln_P0 l n L) n 0 pl = R) : R < ln_Rm c l L (ln_P0 l n L) n 0 pl := by
  unfold ln_Rm
  rw [h, if_pos (show ln_P0 l n L pl = true from decide_eq_true he)]
  omega

set_option maxHeartbeats 4000000 in
set_option maxRecDepth 100000 in
/-- all placements, one after the other -/
theorem l_X9_lists4 {T : q_T} {m : Nat} {G0 : q_G} {I : md_I} {B : md_A} {sz : Nat} {E : q_E} {p ln o u n : Nat} {c l : Nat → Nat} (hu : u + 10 ≤ 6000) (hc : ∀ i, B 6 (u + i) = c i) (hl : ∀ i, B 7 (u + i) = l i) (hn : n ≤ 10) (hL : I 1 ≤ 10) (hS : ln_S c l n 0 ≤ I 1) (hcc : ∀ i, i < n → c i ≤ 3) (hmay : ∀ k, k < I 1 → B 12 k < 16) (hx : ∀ (many : Nat) (G : q_G) (A4 : md_A) (x8 : Option Value), Mod T m G0 I A4 G → (∀ k, k ≠ 13 → k ≠ 14 → k ≠ 15 → A4 k = B k) → ln_cnt c l n (I 1) (B 12) many (A4 13) (fun _ => 0) → q_R T mX9_lists 2 46 250 [some (.ref m), some (.int (nI p)), some (.int (nI ln)), some (.int (nI o)), some (.int (nI u)), some (.int (nI n)), some (.int (nI many)), some (.int (nI 0)), x8] [] G sz 0 0 E) : ∀ (many : Nat) (a : q_G × md_A), ∀ x8 : Option Value, Mod T m G0 I a.2 a.1 → (∀ k, k ≠ 13 → k ≠ 14 → k ≠ 15 → a.2 k = B k) → ln_ok c l n (I 1) (a.2 15) → ln_cnt c l n (I 1) (B 12) many (a.2 13) (fun P => ln_Rm c l (I 1) P n 0 (a.2 15)) → q_R T mX9_lists 2 46 107 [some (.ref m), some (.int (nI p)), some (.int (nI ln)), some (.int (nI o)), some (.int (nI u)), some (.int (nI n)), some (.int (nI many)), some (.int (nI 1)), x8] [] a.1 sz 0 0 E := by
  refine q_indN (fun _ a => ln_Rm c l (I 1) (ln_P0 l n (I 1)) n 0 (a.2 15)) _ (fun many a ih => ?_)
  obtain ⟨G, A1⟩ := a
  intro x8 hM hA hok hcnt
  dsimp only at hM hA hok hcnt ih ⊢
  refine q_iload dX9_lists_107 rfl ?_
  refine q_if_eq (tgt := 250) dX9_lists_109 (by decide) (fun h => absurd h (by decide)) (fun _ => ?_)
  refine q_aload_n dX9_lists_112 rfl rfl ?_
  refine q_iload dX9_lists_113 rfl ?_
  refine q_iload dX9_lists_115 rfl ?_
  refine q_iv (As := [_, _]) dX9_lists_117 ml_X9_147 mt_X9_fits mi_X9_fits se_X9_fits hM.1 rfl rfl (Nat.le_of_ble_eq_true rfl) (Nat.le_of_ble_eq_true rfl) (Nat.zero_le _) (Nat.zero_le _) (Nat.le_of_ble_eq_true rfl) (q_C.mono (c_X9_fits' (c := c) (l := l) (pl := A1 15) hM hu (fun i => (congrFun (hA 6 (by decide) (by decide) (by decide)) _).trans (hc i)) (fun i => (congrFun (hA 7 (by decide) (by decide) (by decide)) _).trans (hl i)) (fun _ => rfl) hn hL (fun i hi => ln_ok_in hok hi) hcc (fun k hk => by rw [hA 12 (by decide) (by decide) (by decide)]; exact hmay k hk)) (fun v G sz1 hq => ?_))
  obtain ⟨⟨hf, rfl⟩ | ⟨hf, rfl⟩, rfl, hM⟩ := hq
  · rw [hA 12 (by decide) (by decide) (by decide)] at hf
    refine q_if_eq (tgt := 163) dX9_lists_120 (by decide) (fun h => absurd h (by decide)) (fun _ => ?_)
    refine s_iinc dX9_lists_123 rfl (s_inc1 _) (by decide) rfl ?_
    refine q_iconst (v := nI 0) dX9_lists_126 (by decide) ?_
    refine s_istore dX9_lists_127 (by decide) rfl ?_
    refine l_X9_lists2 (A := va_up A1 14 (ln_F c l (A1 15) (I 1) (A1 14) n)) (f := A1 13) hL (fun k hk => (hcnt.2 k hk).1) (fun k hk => by show (ln_F c l (A1 15) (I 1) (A1 14) n) k ≤ 3; rw [show (ln_F c l (A1 15) (I 1) (A1 14) n) k = ln_fil c l (A1 15) n k from if_pos hk]; exact ln_fil_le hcc n k (Nat.le_refl _)) (fun G x8 hM => ?_) 0 G (Nat.zero_le _) (by rw [md_pw_0]; show Mod T m G0 I (va_up (va_up A1 14 (ln_F c l (A1 15) (I 1) (A1 14) n)) 13 (va_up A1 14 (ln_F c l (A1 15) (I 1) (A1 14) n) 13)) G; rw [md_up_self]; exact hM)
    refine q_iconst (v := nI 0) dX9_lists_163 (by decide) ?_
    refine s_istore dX9_lists_164 (by decide) rfl ?_
    refine q_iload dX9_lists_166 rfl ?_
    refine q_iconst (v := nI 1) dX9_lists_168 (by decide) ?_
    refine q_isub dX9_lists_169 rfl ?_
    refine s_istore dX9_lists_170 (by decide) rfl ?_
    have hone := (ln_cnt_one (rm := fun P => ln_T c l (I 1) P n 0 (A1 15)) hcnt hcc hok.2).1 hf
    refine l_X9_lists3 (A := (va_up (va_up A1 14 (ln_F c l (A1 15) (I 1) (A1 14) n)) 13 (md_pw (A1 13) (fun k => A1 13 k ||| 1 <<< va_up A1 14 (ln_F c l (A1 15) (I 1) (A1 14) n) 14 k) (I 1)))) (c := c) (l := l) (pl := A1 15) hu (fun i => (congrFun (hA 6 (by decide) (by decide) (by decide)) _).trans (hc i)) (fun i => (congrFun (hA 7 (by decide) (by decide) (by decide)) _).trans (hl i)) hn hL hS hok (fun G A4 x8 hM hA4 hok4 hT => ?_) (fun G A4 x8 hM hA4 hno => ?_) n (Nat.le_refl _) (fun i h1 h2 => by omega) G _ hM (fun _ _ => rfl) (fun _ _ => rfl)
    · have hgot : ∀ k, k < I 1 → A1 13 k ||| 1 <<< ln_fil c l (A1 15) n k = A4 13 k := fun k hk => by
        rw [hA4 13 (by decide)]
        show _ = md_pw (A1 13) (fun k => A1 13 k ||| 1 <<< va_up A1 14 (ln_F c l (A1 15) (I 1) (A1 14) n) 14 k) (I 1) k
        rw [md_pw_in hk]
        show _ = A1 13 k ||| 1 <<< (ln_F c l (A1 15) (I 1) (A1 14) n) k
        rw [show (ln_F c l (A1 15) (I 1) (A1 14) n) k = ln_fil c l (A1 15) n k from if_pos hk]
      exact ih (many + 1) (G, A4) (ln_meas hok.2 (hT _ ln_P0_c ln_P0_e)) x8 hM (fun k h1 h2 h3 => (hA4 k h3).trans ((show (va_up (va_up A1 14 (ln_F c l (A1 15) (I 1) (A1 14) n)) 13 (md_pw (A1 13) (fun k => A1 13 k ||| 1 <<< va_up A1 14 (ln_F c l (A1 15) (I 1) (A1 14) n) 14 k) (I 1))) k = A1 k by unfold va_up; simp only [h1, h2, if_false]).trans (hA k h1 h2 h3))) hok4 (ln_cnt_to hone hgot (hT _ ln_P_c ln_P_e) (fun k v => hT _ ln_Pk_c ln_Pk_e))
    · have hgot : ∀ k, k < I 1 → A1 13 k ||| 1 <<< ln_fil c l (A1 15) n k = A4 13 k := fun k hk => by
        rw [hA4 13 (by decide)]
        show _ = md_pw (A1 13) (fun k => A1 13 k ||| 1 <<< va_up A1 14 (ln_F c l (A1 15) (I 1) (A1 14) n) 14 k) (I 1) k
        rw [md_pw_in hk]
        show _ = A1 13 k ||| 1 <<< (ln_F c l (A1 15) (I 1) (A1 14) n) k
        rw [show (ln_F c l (A1 15) (I 1) (A1 14) n) k = ln_fil c l (A1 15) n k from if_pos hk]
      refine q_iload dX9_lists_107 rfl ?_
      refine q_if_eq (tgt := 250) dX9_lists_109 (by decide) (fun _ => ?_) (fun h => absurd (show nI 0 = 0 by decide) h)
      exact hx _ G A4 x8 hM (fun k h1 h2 h3 => (hA4 k h3).trans ((show (va_up (va_up A1 14 (ln_F c l (A1 15) (I 1) (A1 14) n)) 13 (md_pw (A1 13) (fun k => A1 13 k ||| 1 <<< va_up A1 14 (ln_F c l (A1 15) (I 1) (A1 14) n) 14 k) (I 1))) k = A1 k by unfold va_up; simp only [h1, h2, if_false]).trans (hA k h1 h2 h3))) (ln_cnt_to hone hgot (ln_T_none ln_P_e n 0 _ (by omega) hno) (fun k v => ln_T_none ln_Pk_e n 0 _ (by omega) hno))
  · rw [hA 12 (by decide) (by decide) (by decide)] at hf
    refine q_if_eq (tgt := 163) dX9_lists_120 (by decide) (fun _ => ?_) (fun h => absurd h (by decide))
    refine q_iconst (v := nI 0) dX9_lists_163 (by decide) ?_
    refine s_istore dX9_lists_164 (by decide) rfl ?_
    refine q_iload dX9_lists_166 rfl ?_
    refine q_iconst (v := nI 1) dX9_lists_168 (by decide) ?_
    refine q_isub dX9_lists_169 rfl ?_
    refine s_istore dX9_lists_170 (by decide) rfl ?_
    have hone := (ln_cnt_one (rm := fun P => ln_T c l (I 1) P n 0 (A1 15)) hcnt hcc hok.2).2 hf
    refine l_X9_lists3 (A := (va_up A1 14 (ln_F c l (A1 15) (I 1) (A1 14) n))) (c := c) (l := l) (pl := A1 15) hu (fun i => (congrFun (hA 6 (by decide) (by decide) (by decide)) _).trans (hc i)) (fun i => (congrFun (hA 7 (by decide) (by decide) (by decide)) _).trans (hl i)) hn hL hS hok (fun G A4 x8 hM hA4 hok4 hT => ?_) (fun G A4 x8 hM hA4 hno => ?_) n (Nat.le_refl _) (fun i h1 h2 => by omega) G _ hM (fun _ _ => rfl) (fun _ _ => rfl)
    · have hgot : ∀ k, k < I 1 → A1 13 k = A4 13 k := fun k hk => by
        rw [hA4 13 (by decide)]
        rfl
      exact ih (many) (G, A4) (ln_meas hok.2 (hT _ ln_P0_c ln_P0_e)) x8 hM (fun k h1 h2 h3 => (hA4 k h3).trans ((show (va_up A1 14 (ln_F c l (A1 15) (I 1) (A1 14) n)) k = A1 k by unfold va_up; simp only [h1, h2, if_false]).trans (hA k h1 h2 h3))) hok4 (ln_cnt_to hone hgot (hT _ ln_P_c ln_P_e) (fun k v => hT _ ln_Pk_c ln_Pk_e))
    · have hgot : ∀ k, k < I 1 → A1 13 k = A4 13 k := fun k hk => by
        rw [hA4 13 (by decide)]
        rfl
      refine q_iload dX9_lists_107 rfl ?_
      refine q_if_eq (tgt := 250) dX9_lists_109 (by decide) (fun _ => ?_) (fun h => absurd (show nI 0 = 0 by decide) h)
      exact hx _ G A4 x8 hM (fun k h1 h2 h3 => (hA4 k h3).trans ((show (va_up A1 14 (ln_F c l (A1 15) (I 1) (A1 14) n)) k = A1 k by unfold va_up; simp only [h1, h2, if_false]).trans (hA k h1 h2 h3))) (ln_cnt_to hone hgot (ln_T_none ln_P_e n 0 _ (by omega) hno) (fun k v => ln_T_none ln_Pk_e n 0 _ (by omega) hno))

set_option maxHeartbeats 4000000 in
set_option maxRecDepth 100000 in
theorem c_X9_lists {T : q_T} {m : Nat} {G0 G : q_G} {I : md_I} {A : md_A} {sz : Nat} (hM : Mod T m G0 I A G) {p ln o w h L0 n : Nat} {c l : Nat → Nat} (hp : p < 30) (hw : A 1 p = w) (hh : A 2 p = h) (hw2 : w ≤ 10) (hh2 : h ≤ 10) (hln : ln < w + h) (hL0 : (if ln < h then w else h) = L0) (ho : o + 100 ≤ 10400) (hn0 : A 5 (20 * p + ln) = n) (hc : ∀ i, A 6 (10 * (20 * p + ln) + i) = c i) (hl : ∀ i, A 7 (10 * (20 * p + ln) + i) = l i) (hn : n ≤ 10) (hS : ln_S c l n 0 ≤ L0) (hcc : ∀ i, i < n → c i ≤ 3) (hset : ∀ k, k < L0 → A 10 (o + ln_cell w h ln k) < 16) : q_C T mX9_lists 2 46 0 0 [.ref m, .int (nI p), .int (nI ln), .int (nI o)] G sz (fun v G' sz' => sz = sz' ∧ ∃ (many : Nat) (A' : md_A), v = some (.int (nI many)) ∧ Mod T m G0 (va_up I 1 L0) A' G' ∧ (∀ k, k ≠ 13 → k ≠ 14 → k ≠ 15 → A' k = md_li A w h ln o L0 k) ∧ ln_cnt c l n L0 (md_li A w h ln o L0 12) many (A' 13) (fun _ => 0)) := by
  refine q_C.of (by decide) rfl (by simp [Value.category]) (Nat.le_of_ble_eq_true rfl) ?_
  have hL10 : L0 ≤ 10 := by rw [← hL0]; split <;> omega
  refine q_aload_n dX9_lists_0 rfl rfl ?_
  refine q_aload_n dX9_lists_1 rfl rfl ?_
  refine q_iload_n dX9_lists_2 rfl ?_
  refine q_iload_n dX9_lists_3 rfl ?_
  refine q_iv (As := [_, _]) dX9_lists_4 ml_X9_125 mt_X9_lineLength mi_X9_lineLength se_X9_lineLength hM.1 rfl rfl (Nat.le_of_ble_eq_true rfl) (Nat.le_of_ble_eq_true rfl) (Nat.zero_le _) (Nat.zero_le _) (Nat.le_of_ble_eq_true rfl) (q_C.mono (c_X9_lineLength (w := w) (h := h) hM hp hw hh (by omega)) (fun v G1 sz1 hq => ?_))
  obtain ⟨rfl, rfl, rfl⟩ := hq
  rw [hL0]
  refine q_mpi 1 dX9_lists_7 hM fl_X9_134 fp_X9_134 (by decide) rfl (by omega) (fun G hM => ?_)
  refine q_iconst (v := nI 0) dX9_lists_10 (by decide) ?_
  refine s_istore dX9_lists_11 (by decide) rfl ?_
  have hM : Mod T m G0 (va_up I 1 L0) A G := hM
  refine l_X9_lists1 (I := va_up I 1 L0) (w := w) (h := h) hp hw hh (by omega) ho (show L0 ≤ 10 by omega) (fun k hk => Nat.lt_of_lt_of_le (ln_cell_lt hw2 hh2 hln (by rw [hL0]; exact hk)) (ln_wh hw2 hh2)) (fun G hM => ?_) 0 G (Nat.zero_le _) (by rw [md_li_0]; exact hM)
  have hM : Mod T m G0 (va_up I 1 L0) (md_li A w h ln o L0) G := hM
  refine q_aload_n dX9_lists_72 rfl rfl ?_
  refine q_iload_n dX9_lists_73 rfl ?_
  refine q_iload_n dX9_lists_74 rfl ?_
  refine q_iv (As := [_, _]) dX9_lists_75 ml_X9_121 mt_X9_runAt mi_X9_runAt se_X9_runAt hM.1 rfl rfl (Nat.le_of_ble_eq_true rfl) (Nat.le_of_ble_eq_true rfl) (Nat.zero_le _) (Nat.zero_le _) (Nat.le_of_ble_eq_true rfl) (q_C.mono (c_X9_runAt hM _ _) (fun v G1 sz1 hq => ?_))
  obtain ⟨rfl, rfl, rfl⟩ := hq
  refine s_istore dX9_lists_78 (by decide) rfl ?_
  refine q_aload_n dX9_lists_80 rfl rfl ?_
  refine q_mga 5 5 dX9_lists_81 hM fl_X9_23 rfl ?_
  refine q_bipush (v := nI 20) dX9_lists_84 (by decide) ?_
  refine q_iload_n dX9_lists_86 rfl ?_
  refine q_imul dX9_lists_87 (pk_mul _ _) ?_
  refine q_iload_n dX9_lists_88 rfl ?_
  refine q_iadd dX9_lists_89 (nI_add _ _) ?_
  refine q_mld (k := 5) (v := nI n) dX9_lists_90 hM (by decide) rfl (show _ < (600 : Nat) by omega) (congrArg nI hn0) (fun b90 => ?_)
  refine s_istore dX9_lists_91 (by decide) rfl ?_
  refine q_iconst (v := nI 0) dX9_lists_93 (by decide) ?_
  refine s_istore dX9_lists_94 (by decide) rfl ?_
  refine q_aload_n dX9_lists_96 rfl rfl ?_
  refine q_iload dX9_lists_97 rfl ?_
  refine q_iconst (v := nI 0) dX9_lists_99 (by decide) ?_
  refine q_iload dX9_lists_100 rfl ?_
  refine q_iv (As := [_, _, _]) dX9_lists_102 ml_X9_144 mt_X9_lays mi_X9_lays se_X9_lays hM.1 rfl rfl (Nat.le_of_ble_eq_true rfl) (Nat.le_of_ble_eq_true rfl) (Nat.zero_le _) (Nat.zero_le _) (Nat.le_of_ble_eq_true rfl) (q_C.mono (c_X9_lays' (c := c) (l := l) (pl := A 15) hM (by omega) hc hl (fun _ => rfl) (Nat.zero_le _) hn (fun k hk => by have := ln_S_le (c := c) (l := l) (n := n) (k := k) (r := 0) (by omega); show 0 + _ ≤ 1000; omega)) (fun v G sz1 hq => ?_))
  obtain ⟨⟨hg, rfl⟩ | ⟨hg, rfl⟩, rfl, hM⟩ := hq
  · refine s_istore dX9_lists_105 (by decide) rfl ?_
    have hM : Mod T m G0 (va_up I 1 L0) (va_up (md_li A w h ln o L0) 15 (ln_lay c l (A 15) 0 n)) G := hM
    generalize hA2 : va_up (md_li A w h ln o L0) 15 (ln_lay c l (A 15) 0 n) = A2 at hM
    have h215 : A2 15 = ln_lay c l (A 15) 0 n := by rw [← hA2]; rfl
    have h213 : A2 13 = md_pw (A 13) (fun _ => 0) L0 := by rw [← hA2]; rfl
    have h2B : ∀ k, k ≠ 15 → A2 k = md_li A w h ln o L0 k := fun k h3 => by rw [← hA2]; unfold va_up; rw [if_neg h3]
    refine l_X9_lists4 (I := va_up I 1 L0) (B := md_li A w h ln o L0) (c := c) (l := l) (by omega) hc hl hn (show L0 ≤ 10 by omega) hS hcc (fun k hk => ?_) (fun many G A4 x8 hM hA4 hcnt => ?_) 0 (G, A2) _ hM (fun k h1 h2 h3 => h2B k h3) ?_ ?_
    · have hk : k < L0 := hk
      show md_pw (A 12) (fun j => A 10 (o + ln_cell w h ln j)) L0 k < 16
      rw [md_pw_in hk]
      exact hset k hk
    · refine q_iload dX9_lists_250 rfl ?_
      exact q_ireturn dX9_lists_252 rfl rfl ⟨rfl, many, A4, rfl, hM, hA4, hcnt⟩
    · show ln_ok c l n L0 (A2 15)
      rw [h215]
      exact ⟨fun i hi => Nat.le_of_eq (ln_lay_in c l _ 0 _ i (Nat.zero_le _) (by omega)).symm, by have h8 := ln_lay_e c l (A 15) 0 n; rw [Nat.zero_add] at h8; rw [h8]; show 0 + _ ≤ _; rw [Nat.zero_add]; exact hS⟩
    · show ln_cnt c l n L0 _ 0 (A2 13) (fun P => ln_Rm c l L0 P n 0 (A2 15))
      rw [h215, h213]
      refine ⟨by rw [Nat.zero_add]; exact ln_begins ln_P_c ln_P_e _, fun k hk => ⟨by rw [md_pw_in hk]; decide, fun v => ⟨0, by rw [Nat.zero_add]; exact ln_begins ln_Pk_c ln_Pk_e _, by rw [md_pw_in hk]; simp⟩⟩⟩
  · exact absurd hg (by show ¬ L0 < 0 + _; rw [Nat.sub_zero]; omega)
