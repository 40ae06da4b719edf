set_option maxHeartbeats 4000000 in
set_option maxRecDepth 100000 in
theorem c_X9_painted {T : q_T} {m : Nat} {G0 G : q_G} {I : md_I} {A : md_A} {sz : Nat} (hM : Mod T m G0 I A G) {p l i a b : Nat} (hp : p < 30) (hb : A 2 p = b) (hl : l < a + b) (ha10 : a ≤ 10) (hb10 : b ≤ 10) (hi : i < 10) : q_C T mX9_painted 0 0 0 0 [.ref m, .int (nI p), .int (nI l), .int (nI i)] G sz (fun v G' sz' => v = some (.int (nI (mk_g A b l i))) ∧ G = G' ∧ sz = sz') := by
  refine q_C.of (by decide) rfl (by simp [Value.category]) (Nat.le_of_ble_eq_true rfl) ?_
  refine q_iload_n dX9_painted_0 rfl ?_
  refine q_aload_n dX9_painted_1 rfl rfl ?_
  refine q_mga 2 2 dX9_painted_2 hM fl_X9_13 rfl ?_
  refine q_iload_n dX9_painted_5 rfl ?_
  refine q_mld (k := 2) (v := nI b) dX9_painted_6 hM (by decide) rfl (show _ < (30 : Nat) by omega) (congrArg nI hb) (fun b6 => ?_)
  refine n_icmp_ge (tgt := 24) dX9_painted_7 (by decide) (by omega) (by omega) (fun c7 => ?_) (fun c7 => ?_)
  · refine q_aload_n dX9_painted_24 rfl rfl ?_
    refine q_mga 9 9 dX9_painted_25 hM fl_X9_35 rfl ?_
    refine q_bipush (v := nI 10) dX9_painted_28 (by decide) ?_
    refine q_iload_n dX9_painted_30 rfl ?_
    refine q_imul dX9_painted_31 (pk_mul _ _) ?_
    refine q_iload_n dX9_painted_32 rfl ?_
    refine q_iadd dX9_painted_33 (nI_add _ _) ?_
    refine q_aload_n dX9_painted_34 rfl rfl ?_
    refine q_mga 2 2 dX9_painted_35 hM fl_X9_13 rfl ?_
    refine q_iload_n dX9_painted_38 rfl ?_
    refine q_mld (k := 2) (v := nI b) dX9_painted_39 hM (by decide) rfl (show _ < (30 : Nat) by omega) (congrArg nI hb) (fun b39 => ?_)
    refine q_isub dX9_painted_40 (pk_sub (by omega)) ?_
    refine q_mld (k := 9) (v := nI _) dX9_painted_41 hM (by decide) (congrArg nI (show 10 * i + l - b = 10 * i + (l - b) by omega)) (show _ < (100 : Nat) by omega) rfl (fun b41 => ?_)
    exact q_ireturn dX9_painted_42 rfl rfl ⟨by unfold mk_g; rw [if_neg (by omega)], rfl, rfl⟩
  · refine q_aload_n dX9_painted_10 rfl rfl ?_
    refine q_mga 9 9 dX9_painted_11 hM fl_X9_35 rfl ?_
    refine q_bipush (v := nI 10) dX9_painted_14 (by decide) ?_
    refine q_iload_n dX9_painted_16 rfl ?_
    refine q_imul dX9_painted_17 (pk_mul _ _) ?_
    refine q_iload_n dX9_painted_18 rfl ?_
    refine q_iadd dX9_painted_19 (nI_add _ _) ?_
    refine q_mld (k := 9) (v := nI _) dX9_painted_20 hM (by decide) rfl (show _ < (100 : Nat) by omega) rfl (fun b20 => ?_)
    refine q_goto (tgt := 42) dX9_painted_21 (by decide) ?_
    exact q_ireturn dX9_painted_42 rfl rfl ⟨by unfold mk_g; rw [if_pos c7], rfl, rfl⟩

set_option maxHeartbeats 4000000 in
set_option maxRecDepth 100000 in
theorem l_X9_make_x {T : q_T} {m : Nat} {G0 : q_G} {I : md_I} {A : md_A} {sz : Nat} {E : q_E} {a b y : Nat} {w : Int32} (ha : a ≤ 10) (hy : y < 10) (hb : b ≤ 10) (hx : ∀ G, Mod T m G0 I A G → (∀ x, x < a → nI (A 9 (10 * y + x)) ≤ w) → q_R T mX9_make 4 89 65 [some (.ref m), some (.int (nI a)), some (.int (nI b)), some (.int w), some (.int (nI y)), some (.int (nI a)), none, none, none, none] [] G sz 0 0 E) (hE : ∀ G, Mod T m G0 I A G → (∃ x, x < a ∧ ¬ nI (A 9 (10 * y + x)) ≤ w) → E (some (.int (-1))) G sz) : ∀ (x : Nat) (G : q_G), Mod T m G0 I A G → x ≤ a → (∀ x2, x2 < x → nI (A 9 (10 * y + x2)) ≤ w) → q_R T mX9_make 4 89 34 [some (.ref m), some (.int (nI a)), some (.int (nI b)), some (.int w), some (.int (nI y)), some (.int (nI x)), none, none, none, none] [] G sz 0 0 E := by
  refine q_indN (fun x _ => a - x) _ (fun x G ih => ?_)
  intro hM hxa hok
  refine q_iload dX9_make_34 rfl ?_
  refine q_iload_n dX9_make_36 rfl ?_
  refine n_icmp_ge (tgt := 65) dX9_make_37 (by decide) (by omega) (by omega) (fun c37 => ?_) (fun c37 => ?_)
  · obtain rfl : x = a := by omega
    exact hx G hM hok
  · refine q_aload_n dX9_make_40 rfl rfl ?_
    refine q_mga 9 9 dX9_make_41 hM fl_X9_35 rfl ?_
    refine q_bipush (v := nI 10) dX9_make_44 (by decide) ?_
    refine q_iload dX9_make_46 rfl ?_
    refine q_imul dX9_make_48 (pk_mul _ _) ?_
    refine q_iload dX9_make_49 rfl ?_
    refine q_iadd dX9_make_51 (nI_add _ _) ?_
    refine q_mld (k := 9) (v := nI _) dX9_make_52 hM (by decide) rfl (show _ < (100 : Nat) by omega) rfl (fun b52 => ?_)
    refine q_iload_n dX9_make_53 rfl ?_
    refine q_icmp_le (tgt := 59) dX9_make_54 (by decide) (fun c54 => ?_) (fun c54 => ?_)
    · refine s_iinc dX9_make_59 rfl (s_inc1 _) (by decide) rfl ?_
      refine q_goto (tgt := 34) dX9_make_62 (by decide) ?_
      exact ih (x + 1) G (by omega) hM (by omega) (fun x2 h2 => if h3 : x2 = x then (by rw [h3]; exact c54) else hok x2 (by omega))
    · refine q_iconst (v := -1) dX9_make_57 (by decide) ?_
      exact q_ireturn dX9_make_58 rfl rfl (hE G hM ⟨x, by omega, c54⟩)

set_option maxHeartbeats 4000000 in
set_option maxRecDepth 100000 in
theorem l_X9_make_y {T : q_T} {m : Nat} {G0 : q_G} {I : md_I} {A : md_A} {sz : Nat} {E : q_E} {a b : Nat} {w : Int32} (ha : a ≤ 10) (hb : b ≤ 10) (hx : ∀ G x5, Mod T m G0 I A G → (∀ y, y < b → ∀ x, x < a → nI (A 9 (10 * y + x)) ≤ w) → q_R T mX9_make 4 89 71 [some (.ref m), some (.int (nI a)), some (.int (nI b)), some (.int w), some (.int (nI b)), x5, none, none, none, none] [] G sz 0 0 E) (hE : ∀ G, Mod T m G0 I A G → (∃ y x, y < b ∧ x < a ∧ ¬ nI (A 9 (10 * y + x)) ≤ w) → E (some (.int (-1))) G sz) : ∀ (y : Nat) (G : q_G) (x5 : Option Value), Mod T m G0 I A G → y ≤ b → (∀ y2, y2 < y → ∀ x, x < a → nI (A 9 (10 * y2 + x)) ≤ w) → q_R T mX9_make 4 89 25 [some (.ref m), some (.int (nI a)), some (.int (nI b)), some (.int w), some (.int (nI y)), x5, none, none, none, none] [] G sz 0 0 E := by
  refine q_indN (fun y _ => b - y) _ (fun y G ih => ?_)
  intro x5 hM hyb hok
  refine q_iload dX9_make_25 rfl ?_
  refine q_iload_n dX9_make_27 rfl ?_
  refine n_icmp_ge (tgt := 71) dX9_make_28 (by decide) (by omega) (by omega) (fun c28 => ?_) (fun c28 => ?_)
  · obtain rfl : y = b := by omega
    exact hx G x5 hM hok
  · refine q_iconst (v := nI 0) dX9_make_31 (by decide) ?_
    refine s_istore dX9_make_32 (by decide) rfl ?_
    refine l_X9_make_x ha (by omega) hb (fun G hM hr => ?_) (fun G hM ⟨x, h1, h2⟩ => hE G hM ⟨y, x, by omega, h1, h2⟩) 0 G hM (Nat.zero_le _) (fun _ h => absurd h (Nat.not_lt_zero _))
    refine s_iinc dX9_make_65 rfl (s_inc1 _) (by decide) rfl ?_
    refine q_goto (tgt := 25) dX9_make_68 (by decide) ?_
    exact ih (y + 1) G (by omega) _ hM (by omega) (fun y2 h2 => if h3 : y2 = y then (by rw [h3]; exact hr) else hok y2 (by omega))

/-- a line's runs in the model's cells, from u on -/
def Mk (A0 A1 : md_A) (u n : Nat) (c l : Nat → Nat) : Prop := (∀ k, k ≠ 6 → k ≠ 7 → A1 k = A0 k) ∧ (∀ j, j < u → A1 6 j = A0 6 j ∧ A1 7 j = A0 7 j) ∧ ∀ i, i < n → A1 6 (u + i) = c i ∧ A1 7 (u + i) = l i
theorem Mk.new {A0 A1 : md_A} {u n v : Nat} {c l : Nat → Nat} (h : Mk A0 A1 u n c l) : Mk A0 (md_st (md_st (md_st A1 6 (u + n) v) 7 (u + n) 0) 7 (u + n) 1) u (n + 1) (va_up c n v) (va_up l n 1) := by
  obtain ⟨h1, h2, h3⟩ := h
  refine ⟨fun k k6 k7 => by rw [md_st_k _ k7, md_st_k _ k7, md_st_k _ k6]; exact h1 k k6 k7, fun j hj => ?_, fun i hi => ?_⟩
  · rw [md_st_k _ (by decide), md_st_k _ (by decide), md_st_n _ (by omega), md_st_n _ (by omega), md_st_n _ (by omega), md_st_k _ (by decide)]
    exact h2 j hj
  · by_cases hin : i = n
    · subst hin
      rw [md_st_k _ (by decide), md_st_k _ (by decide), md_st_s, md_st_s, va_up_s, va_up_s]
      exact ⟨rfl, rfl⟩
    · rw [md_st_k _ (by decide), md_st_k _ (by decide), md_st_n _ (by omega), md_st_n _ (by omega), md_st_n _ (by omega), md_st_k _ (by decide), va_up_n _ _ hin, va_up_n _ _ hin]
      exact h3 i (by omega)
theorem Mk.more {A0 A1 : md_A} {u n : Nat} {c l : Nat → Nat} (h : Mk A0 A1 u (n + 1) c l) : Mk A0 (md_st A1 7 (u + n) (l n + 1)) u (n + 1) c (va_up l n (l n + 1)) := by
  obtain ⟨h1, h2, h3⟩ := h
  refine ⟨fun k k6 k7 => by rw [md_st_k _ k7]; exact h1 k k6 k7, fun j hj => ?_, fun i hi => ?_⟩
  · rw [md_st_k _ (by decide), md_st_n _ (by omega)]
    exact h2 j hj
  · by_cases hin : i = n
    · subst hin
      rw [md_st_k _ (by decide), md_st_s, va_up_s]
      exact ⟨(h3 i hi).1, rfl⟩
    · rw [md_st_k _ (by decide), md_st_n _ (by omega), va_up_n _ _ hin]
      exact h3 i hi

set_option maxHeartbeats 4000000 in
set_option maxRecDepth 100000 in
theorem l_X9_make_i {T : q_T} {m : Nat} {G0 : q_G} {I : md_I} {A A0 : md_A} {sz : Nat} {E : q_E} {a b p ln C : Nat} {w : Int32} (ha : a ≤ 10) (hb : b ≤ 10) (hp : p < 30) (hln : ln < a + b) (ha1 : A0 1 p = a) (hb1 : A0 2 p = b) (h9 : A0 9 = A 9) (hC3 : C ≤ 3) (hC : ∀ i, i < mk_L a b ln → mk_g A b ln i ≤ C) (hx : ∀ G A1 n la c l x9, mk_s (mk_g A b ln) (mk_L a b ln) = (n, la, c, l) → Mod T m G0 I A1 G → Mk A0 A1 (10 * (20 * p + ln)) n c l → q_R T mX9_make 4 89 223 [some (.ref m), some (.int (nI a)), some (.int (nI b)), some (.int w), some (.int (nI p)), some (.int (nI ln)), some (.int (nI n)), some (.int (nI la)), some (.int (nI (mk_L a b ln))), x9] [] G sz 0 0 E) : ∀ (i : Nat) (z : q_G × md_A × Nat × Nat × (Nat → Nat) × (Nat → Nat) × Option Value), Mod T m G0 I z.2.1 z.1 → mk_s (mk_g A b ln) i = (z.2.2.1, z.2.2.2.1, z.2.2.2.2.1, z.2.2.2.2.2.1) → i ≤ mk_L a b ln → Mk A0 z.2.1 (10 * (20 * p + ln)) z.2.2.1 z.2.2.2.2.1 z.2.2.2.2.2.1 → q_R T mX9_make 4 89 111 [some (.ref m), some (.int (nI a)), some (.int (nI b)), some (.int w), some (.int (nI p)), some (.int (nI ln)), some (.int (nI z.2.2.1)), some (.int (nI z.2.2.2.1)), some (.int (nI i)), z.2.2.2.2.2.2] [] z.1 sz 0 0 E := by
  refine q_indN (fun i _ => mk_L a b ln - i) _ (fun i z ih => ?_)
  obtain ⟨G, A1, n, la, c, l, x9⟩ := z
  dsimp only
  intro hM e hi hK
  have hL10 : mk_L a b ln ≤ 10 := by unfold mk_L; split <;> omega
  obtain ⟨j1, j2, j3, j4, j5⟩ := mk_inv (C := C) i n la c l (fun k hk => hC k (by omega)) e
  have hla : la ≤ 3 := by
    by_cases h0 : la = 0
    · omega
    · have := j5 h0; have := j2 (n - 1) (by omega); omega
  have hl10 : ∀ k, k < n → l k ≤ 10 := fun k hk => by have := (j2 k hk).2.2.2; omega
  refine q_iload dX9_make_111 rfl ?_
  refine q_aload_n dX9_make_113 rfl rfl ?_
  refine q_iload dX9_make_114 rfl ?_
  refine q_iload dX9_make_116 rfl ?_
  refine q_iv (As := [_, _]) dX9_make_118 ml_X9_125 mt_X9_lineLength mi_X9_lineLength se_X9_lineLength hM.1 rfl rfl (Nat.le_of_ble_eq_true rfl) (Nat.le_of_ble_eq_true rfl) (Nat.zero_le _) (Nat.zero_le _) (Nat.le_of_ble_eq_true rfl) (q_C.mono (c_X9_lineLength (w := a) (h := b) hM hp (by rw [hK.1 1 (by decide) (by decide)]; exact ha1) (by rw [hK.1 2 (by decide) (by decide)]; exact hb1) (by omega)) (fun v G1 sz1 hq => ?_))
  obtain ⟨rfl, rfl, rfl⟩ := hq
  rw [show (if ln < b then a else b) = mk_L a b ln from rfl]
  refine n_icmp_ge (tgt := 223) dX9_make_121 (by decide) (by omega) (by omega) (fun c121 => ?_) (fun c121 => ?_)
  · obtain rfl : i = mk_L a b ln := by omega
    exact hx G A1 n la c l x9 e hM hK
  · refine q_aload_n dX9_make_124 rfl rfl ?_
    refine q_iload dX9_make_125 rfl ?_
    refine q_iload dX9_make_127 rfl ?_
    refine q_iload dX9_make_129 rfl ?_
    refine q_iv (As := [_, _, _]) dX9_make_131 ml_X9_201 mt_X9_painted mi_X9_painted se_X9_painted hM.1 rfl rfl (Nat.le_of_ble_eq_true rfl) (Nat.le_of_ble_eq_true rfl) (Nat.zero_le _) (Nat.zero_le _) (Nat.le_of_ble_eq_true rfl) (q_C.mono (c_X9_painted (a := a) (b := b) hM hp (by rw [hK.1 2 (by decide) (by decide)]; exact hb1) hln ha hb (by omega)) (fun v G1 sz1 hq => ?_))
    obtain ⟨rfl, rfl, rfl⟩ := hq
    have hg : mk_g A1 b ln i = mk_g A b ln i := by unfold mk_g; rw [hK.1 9 (by decide) (by decide), h9]
    rw [hg]
    have hgC := hC i (by omega)
    refine s_istore dX9_make_134 (by decide) rfl ?_
    refine q_iload dX9_make_136 rfl ?_
    refine n_if_le (tgt := 186) dX9_make_138 (by decide) (by omega) (fun c138 => ?_) (fun c138 => ?_)
    · refine q_iload dX9_make_186 rfl ?_
      refine n_if_le (tgt := 213) dX9_make_188 (by decide) (by omega) (fun _ => ?_) (fun h => absurd h (by omega))
      rw [show mk_g A b ln i = 0 by omega]
      refine q_iload dX9_make_213 rfl ?_
      refine s_istore dX9_make_215 (by decide) rfl ?_
      refine s_iinc dX9_make_217 rfl (s_inc1 _) (by decide) rfl ?_
      refine q_goto (tgt := 111) dX9_make_220 (by decide) ?_
      exact ih (i + 1) (G, A1, n, 0, c, l, _) (by omega) hM (mk_s_0 e (by omega)) (by omega) hK
    · refine q_iload dX9_make_141 rfl ?_
      refine q_iload dX9_make_143 rfl ?_
      refine n_icmp_eq (tgt := 186) dX9_make_145 (by decide) (by omega) (by omega) (fun c145 => ?_) (fun c145 => ?_)
      · obtain ⟨n, rfl⟩ : ∃ k, n = k + 1 := ⟨n - 1, by have := (j5 (by omega)).1; omega⟩
        refine q_iload dX9_make_186 rfl ?_
        refine n_if_le (tgt := 213) dX9_make_188 (by decide) (by omega) (fun h => absurd h (by omega)) (fun _ => ?_)
        refine q_aload_n dX9_make_191 rfl rfl ?_
        refine q_mga 7 7 dX9_make_192 hM fl_X9_29 rfl ?_
        refine q_aload_n dX9_make_195 rfl rfl ?_
        refine q_iload dX9_make_196 rfl ?_
        refine q_iload dX9_make_198 rfl ?_
        refine q_iv (As := [_, _]) dX9_make_200 ml_X9_121 mt_X9_runAt mi_X9_runAt se_X9_runAt hM.1 rfl rfl (Nat.le_of_ble_eq_true rfl) (Nat.le_of_ble_eq_true rfl) (Nat.zero_le _) (Nat.zero_le _) (Nat.le_of_ble_eq_true rfl) (q_C.mono (c_X9_runAt hM _ _) (fun v G1 sz1 hq => ?_))
        obtain ⟨rfl, rfl, rfl⟩ := hq
        refine q_iload dX9_make_203 rfl ?_
        refine q_iadd dX9_make_205 (nI_add _ _) ?_
        refine q_iconst (v := nI 1) dX9_make_206 (by decide) ?_
        refine q_isub dX9_make_207 (show nI (10 * (20 * p + ln) + (n + 1)) - nI 1 = nI (10 * (20 * p + ln) + n) by rw [pk_sub (by omega)]; rfl) ?_
        refine q_dup2 dX9_make_208 rfl rfl ?_
        refine q_mld (k := 7) (v := nI (l n)) dX9_make_209 hM (by decide) rfl (show _ < (6000 : Nat) by omega) (congrArg nI (hK.2.2 n (by omega)).2) (fun b209 => ?_)
        refine q_iconst (v := nI 1) dX9_make_210 (by decide) ?_
        refine q_iadd dX9_make_211 (nI_add _ 1) ?_
        refine q_mst (k := 7) (v := l n + 1) dX9_make_212 hM (by decide) rfl (show _ < (6000 : Nat) by omega) rfl (by have := hl10 n (by omega); omega) (fun G hM => ?_)
        refine q_iload dX9_make_213 rfl ?_
        refine s_istore dX9_make_215 (by decide) rfl ?_
        refine s_iinc dX9_make_217 rfl (s_inc1 _) (by decide) rfl ?_
        refine q_goto (tgt := 111) dX9_make_220 (by decide) ?_
        exact ih (i + 1) (G, _, n + 1, mk_g A b ln i, c, _, _) (by omega) hM (mk_s_m e (by omega) (by omega)) (by omega) hK.more
      · refine q_aload_n dX9_make_148 rfl rfl ?_
        refine q_mga 6 6 dX9_make_149 hM fl_X9_26 rfl ?_
        refine q_aload_n dX9_make_152 rfl rfl ?_
        refine q_iload dX9_make_153 rfl ?_
        refine q_iload dX9_make_155 rfl ?_
        refine q_iv (As := [_, _]) dX9_make_157 ml_X9_121 mt_X9_runAt mi_X9_runAt se_X9_runAt hM.1 rfl rfl (Nat.le_of_ble_eq_true rfl) (Nat.le_of_ble_eq_true rfl) (Nat.zero_le _) (Nat.zero_le _) (Nat.le_of_ble_eq_true rfl) (q_C.mono (c_X9_runAt hM _ _) (fun v G1 sz1 hq => ?_))
        obtain ⟨rfl, rfl, rfl⟩ := hq
        refine q_iload dX9_make_160 rfl ?_
        refine q_iadd dX9_make_162 (nI_add _ _) ?_
        refine q_iload dX9_make_163 rfl ?_
        refine q_mst (k := 6) dX9_make_165 hM (by decide) rfl (show _ < (6000 : Nat) by omega) rfl (by omega) (fun G hM => ?_)
        refine q_aload_n dX9_make_166 rfl rfl ?_
        refine q_mga 7 7 dX9_make_167 hM fl_X9_29 rfl ?_
        refine q_aload_n dX9_make_170 rfl rfl ?_
        refine q_iload dX9_make_171 rfl ?_
        refine q_iload dX9_make_173 rfl ?_
        refine q_iv (As := [_, _]) dX9_make_175 ml_X9_121 mt_X9_runAt mi_X9_runAt se_X9_runAt hM.1 rfl rfl (Nat.le_of_ble_eq_true rfl) (Nat.le_of_ble_eq_true rfl) (Nat.zero_le _) (Nat.zero_le _) (Nat.le_of_ble_eq_true rfl) (q_C.mono (c_X9_runAt hM _ _) (fun v G1 sz1 hq => ?_))
        obtain ⟨rfl, rfl, rfl⟩ := hq
        refine q_iload dX9_make_178 rfl ?_
        refine q_iadd dX9_make_180 (nI_add _ _) ?_
        refine q_iconst (v := nI 0) dX9_make_181 (by decide) ?_
        refine q_mst (k := 7) dX9_make_182 hM (by decide) rfl (show _ < (6000 : Nat) by omega) rfl (by omega) (fun G hM => ?_)
        refine s_iinc dX9_make_183 rfl (s_inc1 _) (by decide) rfl ?_
        refine q_iload dX9_make_186 rfl ?_
        refine n_if_le (tgt := 213) dX9_make_188 (by decide) (by omega) (fun h => absurd h (by omega)) (fun _ => ?_)
        refine q_aload_n dX9_make_191 rfl rfl ?_
        refine q_mga 7 7 dX9_make_192 hM fl_X9_29 rfl ?_
        refine q_aload_n dX9_make_195 rfl rfl ?_
        refine q_iload dX9_make_196 rfl ?_
        refine q_iload dX9_make_198 rfl ?_
        refine q_iv (As := [_, _]) dX9_make_200 ml_X9_121 mt_X9_runAt mi_X9_runAt se_X9_runAt hM.1 rfl rfl (Nat.le_of_ble_eq_true rfl) (Nat.le_of_ble_eq_true rfl) (Nat.zero_le _) (Nat.zero_le _) (Nat.le_of_ble_eq_true rfl) (q_C.mono (c_X9_runAt hM _ _) (fun v G1 sz1 hq => ?_))
        obtain ⟨rfl, rfl, rfl⟩ := hq
        refine q_iload dX9_make_203 rfl ?_
        refine q_iadd dX9_make_205 (nI_add _ _) ?_
        refine q_iconst (v := nI 1) dX9_make_206 (by decide) ?_
        refine q_isub dX9_make_207 (show nI (10 * (20 * p + ln) + (n + 1)) - nI 1 = nI (10 * (20 * p + ln) + n) by rw [pk_sub (by omega)]; rfl) ?_
        refine q_dup2 dX9_make_208 rfl rfl ?_
        refine q_mld (k := 7) (v := nI 0) dX9_make_209 hM (by decide) rfl (show _ < (6000 : Nat) by omega) (congrArg nI (md_st_s _ _ _ _)) (fun b209 => ?_)
        refine q_iconst (v := nI 1) dX9_make_210 (by decide) ?_
        refine q_iadd dX9_make_211 (nI_add _ 1) ?_
        refine q_mst (k := 7) (v := 1) dX9_make_212 hM (by decide) rfl (show _ < (6000 : Nat) by omega) rfl (by omega) (fun G hM => ?_)
        refine q_iload dX9_make_213 rfl ?_
        refine s_istore dX9_make_215 (by decide) rfl ?_
        refine s_iinc dX9_make_217 rfl (s_inc1 _) (by decide) rfl ?_
        refine q_goto (tgt := 111) dX9_make_220 (by decide) ?_
        exact ih (i + 1) (G, _, n + 1, mk_g A b ln i, _, _, _) (by omega) hM (mk_s_n e (by omega) (by omega)) (by omega) hK.new

set_option maxHeartbeats 4000000 in
set_option maxRecDepth 100000 in
theorem l_X9_make_l {T : q_T} {m : Nat} {G0 : q_G} {I : md_I} {A A0 : md_A} {sz : Nat} {E : q_E} {a b p C : Nat} {w : Int32} (ha : a ≤ 10) (hb : b ≤ 10) (hp : p < 30) (ha1 : A0 1 p = a) (hb1 : A0 2 p = b) (h9 : A0 9 = A 9) (hC3 : C ≤ 3) (hC : ∀ ln i, ln < a + b → i < mk_L a b ln → mk_g A b ln i ≤ C) (hf10 : ∀ ln, ln < a + b → (mk_f A a b ln).1 ≤ 10) (hx : ∀ G A1 x6 x7 x8 x9, Mod T m G0 I A1 G → D_runs A0 A1 p (a + b) (mk_f A a b) → q_R T mX9_make 4 89 244 [some (.ref m), some (.int (nI a)), some (.int (nI b)), some (.int w), some (.int (nI p)), some (.int (nI (a + b))), x6, x7, x8, x9] [] G sz 0 0 E) : ∀ (ln : Nat) (z : q_G × md_A), ∀ x6 x7 x8 x9, Mod T m G0 I z.2 z.1 → ln ≤ a + b → D_runs A0 z.2 p ln (mk_f A a b) → q_R T mX9_make 4 89 91 [some (.ref m), some (.int (nI a)), some (.int (nI b)), some (.int w), some (.int (nI p)), some (.int (nI ln)), x6, x7, x8, x9] [] z.1 sz 0 0 E := by
  refine q_indN (fun ln _ => a + b - ln) _ (fun ln z ih => ?_)
  obtain ⟨G, A1⟩ := z
  dsimp only
  intro x6 x7 x8 x9 hM hln hD
  refine q_iload dX9_make_91 rfl ?_
  refine q_aload_n dX9_make_93 rfl rfl ?_
  refine q_iload dX9_make_94 rfl ?_
  refine q_iv (As := [_]) dX9_make_96 ml_X9_104 mt_X9_linesOf mi_X9_linesOf se_X9_linesOf hM.1 rfl rfl (Nat.le_of_ble_eq_true rfl) (Nat.le_of_ble_eq_true rfl) (Nat.zero_le _) (Nat.zero_le _) (Nat.le_of_ble_eq_true rfl) (q_C.mono (c_X9_linesOf (w := a) (h := b) hM hp (by rw [hD.1 1 (by decide) (by decide) (by decide)]; exact ha1) (by rw [hD.1 2 (by decide) (by decide) (by decide)]; exact hb1)) (fun v G1 sz1 hq => ?_))
  obtain ⟨rfl, rfl, rfl⟩ := hq
  refine n_icmp_ge (tgt := 244) dX9_make_99 (by decide) (by omega) (by omega) (fun c99 => ?_) (fun c99 => ?_)
  · obtain rfl : ln = a + b := by omega
    exact hx G A1 x6 x7 x8 x9 hM hD
  · refine q_iconst (v := nI 0) dX9_make_102 (by decide) ?_
    refine s_istore dX9_make_103 (by decide) rfl ?_
    refine q_iconst (v := nI 0) dX9_make_105 (by decide) ?_
    refine s_istore dX9_make_106 (by decide) rfl ?_
    refine q_iconst (v := nI 0) dX9_make_108 (by decide) ?_
    refine s_istore dX9_make_109 (by decide) rfl ?_
    refine l_X9_make_i (A := A) (A0 := A1) (C := C) ha hb hp (by omega) (by rw [hD.1 1 (by decide) (by decide) (by decide)]; exact ha1) (by rw [hD.1 2 (by decide) (by decide) (by decide)]; exact hb1) ((hD.1 9 (by decide) (by decide) (by decide)).trans h9) hC3 (fun i hi => hC ln i (by omega) hi) (fun G A2 n la c l x9 e hM hK => ?_) 0 (G, A1, 0, 0, _, _, x9) hM rfl (Nat.zero_le _) ⟨fun _ _ _ => rfl, fun _ _ => ⟨rfl, rfl⟩, fun i hi => absurd hi (Nat.not_lt_zero _)⟩
    have hL10 : mk_L a b ln ≤ 10 := by unfold mk_L; split <;> omega
    obtain ⟨j1, j2, j3, j4, j5⟩ := mk_inv (C := C) _ n la c l (fun k hk => hC ln k (by omega) hk) e
    have ef : mk_f A a b ln = (n, c, l) := by unfold mk_f mk_ln; rw [e]
    refine q_aload_n dX9_make_223 rfl rfl ?_
    refine q_mga 5 5 dX9_make_224 hM fl_X9_23 rfl ?_
    refine q_bipush (v := nI 20) dX9_make_227 (by decide) ?_
    refine q_iload dX9_make_229 rfl ?_
    refine q_imul dX9_make_231 (pk_mul _ _) ?_
    refine q_iload dX9_make_232 rfl ?_
    refine q_iadd dX9_make_234 (nI_add _ _) ?_
    refine q_iload dX9_make_235 rfl ?_
    refine q_mst (k := 5) dX9_make_237 hM (by decide) rfl (show _ < (600 : Nat) by omega) rfl (by omega) (fun G hM => ?_)
    refine s_iinc dX9_make_238 rfl (s_inc1 _) (by decide) rfl ?_
    refine q_goto (tgt := 91) dX9_make_241 (by decide) ?_
    exact ih (ln + 1) (G, _) (by omega) _ _ _ _ hM (by omega) (by have hn := hD.next (A2 := A2) hK.1 (by omega) hK.2.1 (by rw [ef]; exact hK.2.2) (fun k hk => hf10 k (by omega)); rw [ef] at hn; exact hn)

theorem nI_le3 {a b : Nat} (hb : b ≤ 1000000) (h : a ≤ b) : nI a ≤ nI b := by
  rw [Int32.le_iff_toInt_le, nI_toInt (by omega), nI_toInt (by omega)]; omega
theorem nI_le4 {a b : Nat} (ha : a ≤ 1000000) (hb : b ≤ 1000000) (h : nI a ≤ nI b) : a ≤ b := by
  rw [Int32.le_iff_toInt_le, nI_toInt (by omega), nI_toInt (by omega)] at h; omega
theorem mk_fit_g {A : md_A} {a b c ln i : Nat} (h : mk_fit A a b c) (hl : ln < a + b) (hi : i < mk_L a b ln) : mk_g A b ln i ≤ c := by
  unfold mk_g
  unfold mk_L at hi
  by_cases g : ln < b
  · rw [if_pos g] at hi ⊢; exact h ln i g hi
  · rw [if_neg g] at hi ⊢; exact h i (ln - b) hi (by omega)
theorem D_new_1 {I : md_I} {A : md_A} {a b c : Nat} : D_new I A a b c 1 (I 0) = a := by
  unfold D_new
  rw [md_fill_k _ (by decide), md_st_k _ (by decide), md_st_k _ (by decide), md_st_s]
theorem D_new_2 {I : md_I} {A : md_A} {a b c : Nat} : D_new I A a b c 2 (I 0) = b := by
  unfold D_new
  rw [md_fill_k _ (by decide), md_st_k _ (by decide), md_st_s]
theorem D_new_k {I : md_I} {A : md_A} {a b c k : Nat} (h : k ≠ 1 ∧ k ≠ 2 ∧ k ≠ 3 ∧ k ≠ 8) : D_new I A a b c k = A k := by
  unfold D_new
  rw [md_fill_k _ h.2.2.2, md_st_k _ h.2.2.1, md_st_k _ h.2.1, md_st_k _ h.1]
theorem D_runs_per {B A1 A3 : md_A} {p N : Nat} {f : Nat → Nat × (Nat → Nat) × (Nat → Nat)} (h : ∀ k, k < 10 ∨ k = 16 ∨ 19 ≤ k → A1 k = B k) (hD : D_runs A1 A3 p N f) : D_runs B (fun k => if k = 5 ∨ k = 6 ∨ k = 7 then A3 k else B k) p N f := by
  obtain ⟨h1, h2, h3, h4⟩ := hD
  refine ⟨fun k k5 k6 k7 => if_neg (by omega), ?_, fun j hj => ?_, fun ln hl i hi => h4 ln hl i hi⟩
  · show A3 5 = _
    rw [h2]
    unfold md_cp
    rw [va_up_s, va_up_s, h 5 (by decide)]
  · show A3 6 j = _ ∧ A3 7 j = _
    obtain ⟨e1, e2⟩ := h3 j hj
    rw [e1, e2, h 6 (by decide), h 7 (by decide)]
    exact ⟨rfl, rfl⟩
theorem D_runs_per2 {B A1 A3 : md_A} {p N : Nat} {f : Nat → Nat × (Nat → Nat) × (Nat → Nat)} (h : ∀ k, k < 10 ∨ k = 16 ∨ 19 ≤ k → A1 k = B k) (hD : D_runs A1 A3 p N f) (k : Nat) (hk : k < 10 ∨ k = 16 ∨ 19 ≤ k) : A3 k = if k = 5 ∨ k = 6 ∨ k = 7 then A3 k else B k := by
  by_cases g : k = 5 ∨ k = 6 ∨ k = 7
  · rw [if_pos g]
  · rw [if_neg g, hD.1 k (by omega) (by omega) (by omega)]; exact h k hk

set_option maxHeartbeats 4000000 in
set_option maxRecDepth 100000 in
theorem c_X9_make {T : q_T} {m : Nat} {G0 G : q_G} {I : md_I} {A : md_A} {sz t : Nat} (hM : Mod T m G0 I A G) (hI : Inv t I A) (x y w : Int32) : q_C T mX9_make 4 89 0 0 [.ref m, .int x, .int y, .int w] G sz (fun v G' sz' => sz = sz' ∧ ∃ (I' : md_I) (A' : md_A), Mod T m G0 I' A' G' ∧ ∃ (z : Int32) (I2 : md_I) (A2 : md_A), v = some (.int z) ∧ D_make I A x y w z I2 A2 ∧ Per I2 I' A2 A') := by
  refine q_C.of (by decide) rfl (by simp [Value.category]) (Nat.le_of_ble_eq_true rfl) ?_
  refine q_iload_n dX9_make_0 rfl ?_
  refine q_iconst (v := nI 1) dX9_make_1 (by decide) ?_
  refine q_bipush (v := nI 10) dX9_make_2 (by decide) ?_
  refine q_is (As := [_, _, _]) dX9_make_4 ml_X9_96 mt_X9_in ms_X9_in rfl (Nat.le_of_ble_eq_true rfl) (Nat.le_of_ble_eq_true rfl) (Nat.zero_le _) (Nat.zero_le _) (Nat.le_of_ble_eq_true rfl) (q_C.mono (c_X9_in _ _ _) (fun v G1 sz1 hq => ?_))
  rw [q_ixr (by omega) (by omega)] at hq
  obtain ⟨⟨⟨a, ha, ha2, rfl⟩, rfl⟩ | ⟨hV4, rfl⟩, rfl, rfl⟩ := hq
  · refine q_if_eq (tgt := 20) dX9_make_7 (by decide) (fun h => absurd h (by decide)) (fun _ => ?_)
    refine q_iload_n dX9_make_10 rfl ?_
    refine q_iconst (v := nI 1) dX9_make_11 (by decide) ?_
    refine q_bipush (v := nI 10) dX9_make_12 (by decide) ?_
    refine q_is (As := [_, _, _]) dX9_make_14 ml_X9_96 mt_X9_in ms_X9_in rfl (Nat.le_of_ble_eq_true rfl) (Nat.le_of_ble_eq_true rfl) (Nat.zero_le _) (Nat.zero_le _) (Nat.le_of_ble_eq_true rfl) (q_C.mono (c_X9_in _ _ _) (fun v G1 sz1 hq => ?_))
    rw [q_ixr (by omega) (by omega)] at hq
    obtain ⟨⟨⟨b, hb, hb2, rfl⟩, rfl⟩ | ⟨hV14, rfl⟩, rfl, rfl⟩ := hq
    · refine q_if_ne (tgt := 22) dX9_make_17 (by decide) (fun _ => ?_) (fun h => absurd h (by decide))
      refine q_iconst (v := nI 0) dX9_make_22 (by decide) ?_
      refine s_istore dX9_make_23 (by decide) rfl ?_
      refine l_X9_make_y ha2 hb2 (fun G x5 hM hok => ?_) (fun G hM ⟨y, x, h1, h2, h3⟩ => ⟨rfl, I, A, hM, _, I, A, rfl, Or.inr ⟨fun ⟨a', b', c', ⟨⟨e1, e2, e3⟩, ⟨e4, e5, e6⟩, ⟨e7, e8, e9⟩, e10⟩, hfit⟩ => h3 (by rw [e9]; exact nI_le3 (by omega) (hfit y x (by have := (nI_eq (by omega) (by omega)).mp e6; omega) (by have := (nI_eq (by omega) (by omega)).mp e3; omega))), rfl, rfl, rfl⟩, Per.rfl'⟩) 0 G _ hM (Nat.zero_le _) (fun _ h => absurd h (Nat.not_lt_zero _))
      refine q_aload_n dX9_make_71 rfl rfl ?_
      refine q_iload_n dX9_make_72 rfl ?_
      refine q_iload_n dX9_make_73 rfl ?_
      refine q_iload_n dX9_make_74 rfl ?_
      refine q_iv (As := [_, _, _]) dX9_make_75 ml_X9_198 mt_X9_puzzle mi_X9_puzzle se_X9_puzzle hM.1 rfl rfl (Nat.le_of_ble_eq_true rfl) (Nat.le_of_ble_eq_true rfl) (Nat.zero_le _) (Nat.zero_le _) (Nat.le_of_ble_eq_true rfl) (q_C.mono (c_X9_puzzle hM hI _ _ _) (fun v G sz1 hq => ?_))
      obtain ⟨rfl, I1, A1, hM1, z, I2, A2, rfl, ⟨a', b', c, ⟨⟨e1, e2, e3⟩, ⟨e4, e5, e6⟩, ⟨e7, e8, rfl⟩, e10⟩, rfl, rfl, rfl⟩ | ⟨hV75, rfl, rfl, rfl⟩, hper⟩ := hq
      · obtain rfl := (nI_eq (by omega) (by omega)).mp e3
        obtain rfl := (nI_eq (by omega) (by omega)).mp e6
        have hI0 := hI.1
        have hM := hM1
        refine s_istore dX9_make_78 (by decide) rfl ?_
        refine q_iload dX9_make_80 rfl ?_
        refine q_iconst (v := -1) dX9_make_82 (by decide) ?_
        refine q_icmp_ne (tgt := 88) dX9_make_83 (by decide) (fun _ => ?_) (fun h => absurd h (nI_m1 (by omega)))
        refine q_iconst (v := nI 0) dX9_make_88 (by decide) ?_
        refine s_istore dX9_make_89 (by decide) rfl ?_
        have hfit : mk_fit A a b c := fun y x hy hx => nI_le4 (by have := hI.2.2.2.1 (10 * y + x) (by omega); omega) (by omega) (hok y hy x hx)
        have hC : ∀ ln i, ln < a + b → i < mk_L a b ln → mk_g A b ln i ≤ c := fun ln i h1 h2 => mk_fit_g hfit h1 h2
        refine l_X9_make_l (A := A) (A0 := A1) (C := c) ha2 hb2 (by omega) (by rw [hper.2 1 (by decide)]; exact D_new_1) (by rw [hper.2 2 (by decide)]; exact D_new_2) (by rw [hper.2 9 (by decide)]; exact D_new_k (by decide)) (by omega) hC (fun ln hl => by have := (mk_inv (C := c) (mk_L a b ln) _ _ _ _ (fun k hk => hC ln k hl hk) rfl).1; unfold mk_f mk_ln; dsimp only; have hL : mk_L a b ln ≤ 10 := (by unfold mk_L; split <;> omega); omega) (fun G A3 x6 x7 x8 x9 hM hD => ?_) 0 (G, A1) _ _ _ _ hM (Nat.zero_le _) D_runs.zero
        refine q_iload dX9_make_244 rfl ?_
        exact q_ireturn dX9_make_246 rfl rfl ⟨rfl, I1, A3, hM, _, va_up I 0 (I 0 + 1), (fun k => if k = 5 ∨ k = 6 ∨ k = 7 then A3 k else D_new I A a b c k), rfl, Or.inl ⟨a, b, c, ⟨⟨ha, ha2, rfl⟩, ⟨hb, hb2, rfl⟩, ⟨e7, e8, rfl⟩, e10⟩, hfit, rfl, rfl, D_runs_per hper.2 hD⟩, ⟨hper.1, fun k hk => D_runs_per2 hper.2 hD k hk⟩⟩
      · refine s_istore dX9_make_78 (by decide) rfl ?_
        refine q_iload dX9_make_80 rfl ?_
        refine q_iconst (v := -1) dX9_make_82 (by decide) ?_
        refine q_icmp_ne (tgt := 88) dX9_make_83 (by decide) (fun h => absurd rfl h) (fun _ => ?_)
        refine q_iconst (v := -1) dX9_make_86 (by decide) ?_
        exact q_ireturn dX9_make_87 rfl rfl ⟨rfl, I1, A1, hM1, _, _, _, rfl, Or.inr ⟨fun ⟨a, b, c, h1, h2⟩ => hV75 ⟨a, b, c, h1⟩, rfl, rfl, rfl⟩, hper⟩
    · refine q_if_ne (tgt := 22) dX9_make_17 (by decide) (fun h => absurd h (by decide)) (fun _ => ?_)
      refine q_iconst (v := -1) dX9_make_20 (by decide) ?_
      exact q_ireturn dX9_make_21 rfl rfl ⟨rfl, I, A, hM, _, I, A, rfl, Or.inr ⟨fun ⟨a, b, c, ⟨⟨h1, h2, h3⟩, ⟨h4, h5, h6⟩, h7, h10⟩, h11⟩ => hV14 ⟨b, h4, h5, h6⟩, rfl, rfl, rfl⟩, Per.rfl'⟩
  · refine q_if_eq (tgt := 20) dX9_make_7 (by decide) (fun _ => ?_) (fun h => absurd h (by decide))
    refine q_iconst (v := -1) dX9_make_20 (by decide) ?_
    exact q_ireturn dX9_make_21 rfl rfl ⟨rfl, I, A, hM, _, I, A, rfl, Or.inr ⟨fun ⟨a, b, c, ⟨⟨h1, h2, h3⟩, ⟨h4, h5, h6⟩, h7, h10⟩, h11⟩ => hV4 ⟨a, h1, h2, h3⟩, rfl, rfl, rfl⟩, Per.rfl'⟩
