def tn_f (A : md_A) (p how ln : Nat) : Nat × (Nat → Nat) × (Nat → Nat) := (pz_n A p (tn_at A p how ln), tn_c A p how ln, tn_l A p how ln)
def D_trn (I : md_I) (x y : Int32) (p how : Nat) : Prop := p < I 0 ∧ x = nI p ∧ how ≤ 7 ∧ y = nI how ∧ I 0 ≠ 30
def D_turn (I : md_I) (A : md_A) (x y z : Int32) (I2 : md_I) (A2 : md_A) : Prop := (∃ p how, D_trn I x y p how ∧ z = nI (I 0) ∧ I2 = va_up I 0 (I 0 + 1) ∧ D_runs (D_new I A (tn_w A p how) (tn_h A p how) (A 3 p)) A2 (I 0) (tn_w A p how + tn_h A p how) (tn_f A p how)) ∨ (¬ (∃ p how, D_trn I x y p how) ∧ z = -1 ∧ I2 = I ∧ A2 = A)
theorem Mk.add {A0 A1 : md_A} {u n v w : Nat} {c l : Nat → Nat} (h : Mk A0 A1 u n c l) (hc : v = c n) (hl : w = l n) : Mk A0 (md_st (md_st A1 6 (u + n) v) 7 (u + n) w) u (n + 1) c l := by
  obtain ⟨h1, h2, h3⟩ := h
  subst hc
  subst hl
  refine ⟨fun k k6 k7 => by rw [md_st_k _ k7, md_st_k _ k6]; exact h1 k k6 k7, fun j hj => ?_, fun i hi => ?_⟩
  · rw [md_st_k _ (by decide), md_st_n _ (by omega), md_st_n _ (by omega), md_st_k _ (by decide)]
    exact h2 j hj
  · by_cases hin : i = n
    · subst hin
      rw [md_st_k _ (by decide), md_st_s, md_st_s]
      exact ⟨rfl, rfl⟩
    · rw [md_st_k _ (by decide), md_st_n _ (by omega), md_st_n _ (by omega), md_st_k _ (by decide)]
      exact h3 i (by omega)
theorem D_runs.nxt {A A1 A2 : md_A} {p N : Nat} {f : Nat → Nat × (Nat → Nat) × (Nat → Nat)} (h : D_runs A A1 p N f) (hN : N < 20) (hK : Mk (md_st A1 5 (20 * p + N) (f N).1) A2 (10 * (20 * p + N)) (f N).1 (f N).2.1 (f N).2.2) (hf : ∀ ln, ln < N → (f ln).1 ≤ 10) : D_runs A A2 p (N + 1) f := by
  obtain ⟨g1, g2, g3, g4⟩ := h
  obtain ⟨h1, h2, h3⟩ := hK
  refine ⟨fun k k5 k6 k7 => (h1 k k6 k7).trans ((md_st_k _ k5).trans (g1 k k5 k6 k7)), ?_, fun j hj => ?_, fun ln hl i hi => ?_⟩
  · rw [h1 5 (by decide) (by decide), ← md_cp_s]
    funext j
    rw [md_st_at, md_st_at, g2]
  · obtain ⟨e1, e2⟩ := h2 j (by omega)
    rw [md_st_k _ (by decide)] at e1 e2
    obtain ⟨e3, e4⟩ := g3 j hj
    exact ⟨e1.trans e3, e2.trans e4⟩
  · by_cases hlN : ln = N
    · subst hlN
      exact h3 i hi
    · have := hf ln (by omega)
      obtain ⟨e1, e2⟩ := h2 (10 * (20 * p + ln) + i) (by omega)
      rw [md_st_k _ (by decide)] at e1 e2
      obtain ⟨e3, e4⟩ := g4 ln (by omega) i hi
      exact ⟨e1.trans e3, e2.trans e4⟩

set_option maxHeartbeats 4000000 in
set_option maxRecDepth 100000 in
theorem l_X9_turn_k {T : q_T} {m : Nat} {G0 : q_G} {I : md_I} {A AB : md_A} {sz : Nat} {E : q_E} {p q how ln : Nat} {x3 : Option Value} (hpq : p < q) (hq0 : q < 30) (hln : ln < 20) (hat : tn_at A p how ln < A 1 p + A 2 p) (hwp : 1 ≤ A 1 p ∧ A 1 p ≤ 10 ∧ 1 ≤ A 2 p ∧ A 2 p ≤ 10) (hn : pz_n A p (tn_at A p how ln) ≤ 10) (h2 : AB 2 p = A 2 p) (h6 : ∀ j, j < 200 * q → AB 6 j = A 6 j) (h7 : ∀ j, j < 200 * q → AB 7 j = A 7 j) (hA6 : ∀ j, A 6 j ≤ 100000) (hA7 : ∀ j, A 7 j ≤ 100000) (hx : ∀ G A1 x9, Mod T m G0 I A1 G → Mk AB A1 (10 * (20 * q + ln)) (pz_n A p (tn_at A p how ln)) (tn_c A p how ln) (tn_l A p how ln) → q_R T mX9_turn 4 89 238 [some (.ref m), some (.int (nI p)), some (.int (nI how)), x3, some (.int (nI q)), some (.int (nI ln)), some (.int (nI (tn_at A p how ln))), some (.int (nI (pz_n A p (tn_at A p how ln)))), some (.int (nI (pz_n A p (tn_at A p how ln)))), x9] [] G sz 0 0 E) : ∀ (k : Nat) (z : q_G × md_A), ∀ x9, Mod T m G0 I z.2 z.1 → k ≤ pz_n A p (tn_at A p how ln) → Mk AB z.2 (10 * (20 * q + ln)) k (tn_c A p how ln) (tn_l A p how ln) → q_R T mX9_turn 4 89 146 [some (.ref m), some (.int (nI p)), some (.int (nI how)), x3, some (.int (nI q)), some (.int (nI ln)), some (.int (nI (tn_at A p how ln))), some (.int (nI (pz_n A p (tn_at A p how ln)))), some (.int (nI k)), x9] [] z.1 sz 0 0 E := by
  refine q_indN (fun k _ => pz_n A p (tn_at A p how ln) - k) _ (fun k z ih => ?_)
  obtain ⟨G, A1⟩ := z
  dsimp only
  intro x9 hM hk hK
  refine q_iload dX9_turn_146 rfl ?_
  refine q_iload dX9_turn_148 rfl ?_
  refine n_icmp_ge (tgt := 238) dX9_turn_150 (by decide) (by omega) (by omega) (fun c150 => ?_) (fun c150 => ?_)
  · obtain rfl : k = pz_n A p (tn_at A p how ln) := by omega
    exact hx G A1 x9 hM hK
  · refine q_aload_n dX9_turn_153 rfl rfl ?_
    refine q_iload_n dX9_turn_154 rfl ?_
    refine q_iload dX9_turn_155 rfl ?_
    refine q_iv (As := [_, _]) dX9_turn_157 ml_X9_121 mt_X9_runAt mi_X9_runAt se_X9_runAt hM.1 rfl rfl (Nat.le_of_ble_eq_true rfl) (Nat.le_of_ble_eq_true rfl) (Nat.zero_le _) (Nat.zero_le _) (Nat.le_of_ble_eq_true rfl) (q_C.mono (c_X9_runAt hM _ _) (fun v G1 sz1 hq => ?_))
    obtain ⟨rfl, rfl, rfl⟩ := hq
    refine q_aload_n dX9_turn_160 rfl rfl ?_
    refine q_iload_n dX9_turn_161 rfl ?_
    refine q_iload_n dX9_turn_162 rfl ?_
    refine q_iload dX9_turn_163 rfl ?_
    refine q_iv (As := [_, _, _]) dX9_turn_165 ml_X9_207 mt_X9_isRound mi_X9_isRound se_X9_isRound hM.1 rfl rfl (Nat.le_of_ble_eq_true rfl) (Nat.le_of_ble_eq_true rfl) (Nat.zero_le _) (Nat.zero_le _) (Nat.le_of_ble_eq_true rfl) (q_C.mono (c_X9_isRound (h := A 2 p) hM (by omega) (by rw [hK.1 2 (by decide) (by decide)]; exact h2) (by omega) (show tn_at A p how ln < 100 by omega)) (fun v G1 sz1 hq => ?_))
    obtain ⟨rfl, rfl, rfl⟩ := hq
    have hrd1 : tn_rd (A 2 p) how (tn_at A p how ln) ≤ 1 := by unfold tn_rd; (repeat' split) <;> omega
    refine n_if_eq (tgt := 181) dX9_turn_168 (by decide) (by omega) (fun c168 => ?_) (fun c168 => ?_)
    · have hix : tn_ix (pz_n A p (tn_at A p how ln)) (tn_rd (A 2 p) how (tn_at A p how ln)) k < pz_n A p (tn_at A p how ln) := by unfold tn_ix; split <;> omega
      refine q_iload dX9_turn_181 rfl ?_
      refine q_iadd dX9_turn_183 (show nI (10 * (20 * p + tn_at A p how ln)) + nI k = nI (10 * (20 * p + tn_at A p how ln) + tn_ix (pz_n A p (tn_at A p how ln)) (tn_rd (A 2 p) how (tn_at A p how ln)) k) by rw [show tn_ix (pz_n A p (tn_at A p how ln)) (tn_rd (A 2 p) how (tn_at A p how ln)) k = k from if_pos c168]; exact nI_add _ _) ?_
      refine s_istore dX9_turn_184 (by decide) rfl ?_
      refine q_aload_n dX9_turn_186 rfl rfl ?_
      refine q_mga 6 6 dX9_turn_187 hM fl_X9_26 rfl ?_
      refine q_aload_n dX9_turn_190 rfl rfl ?_
      refine q_iload dX9_turn_191 rfl ?_
      refine q_iload dX9_turn_193 rfl ?_
      refine q_iv (As := [_, _]) dX9_turn_195 ml_X9_121 mt_X9_runAt mi_X9_runAt se_X9_runAt hM.1 rfl rfl (Nat.le_of_ble_eq_true rfl) (Nat.le_of_ble_eq_true rfl) (Nat.zero_le _) (Nat.zero_le _) (Nat.le_of_ble_eq_true rfl) (q_C.mono (c_X9_runAt hM _ _) (fun v G1 sz1 hq => ?_))
      obtain ⟨rfl, rfl, rfl⟩ := hq
      refine q_iload dX9_turn_198 rfl ?_
      refine q_iadd dX9_turn_200 (nI_add _ _) ?_
      refine q_aload_n dX9_turn_201 rfl rfl ?_
      refine q_mga 6 6 dX9_turn_202 hM fl_X9_26 rfl ?_
      refine q_iload dX9_turn_205 rfl ?_
      refine q_mld (k := 6) (v := nI (tn_c A p how ln k)) dX9_turn_207 hM (by decide) rfl (show _ < (6000 : Nat) by omega) (congrArg nI ((hK.2.1 _ (by omega)).1.trans (h6 _ (by omega)))) (fun b207 => ?_)
      refine q_mst (k := 6) (v := tn_c A p how ln k) dX9_turn_208 hM (by decide) rfl (show _ < (6000 : Nat) by omega) rfl (by have : tn_c A p how ln k ≤ 100000 := hA6 _; omega) (fun G hM => ?_)
      refine q_aload_n dX9_turn_209 rfl rfl ?_
      refine q_mga 7 7 dX9_turn_210 hM fl_X9_29 rfl ?_
      refine q_aload_n dX9_turn_213 rfl rfl ?_
      refine q_iload dX9_turn_214 rfl ?_
      refine q_iload dX9_turn_216 rfl ?_
      refine q_iv (As := [_, _]) dX9_turn_218 ml_X9_121 mt_X9_runAt mi_X9_runAt se_X9_runAt hM.1 rfl rfl (Nat.le_of_ble_eq_true rfl) (Nat.le_of_ble_eq_true rfl) (Nat.zero_le _) (Nat.zero_le _) (Nat.le_of_ble_eq_true rfl) (q_C.mono (c_X9_runAt hM _ _) (fun v G1 sz1 hq => ?_))
      obtain ⟨rfl, rfl, rfl⟩ := hq
      refine q_iload dX9_turn_221 rfl ?_
      refine q_iadd dX9_turn_223 (nI_add _ _) ?_
      refine q_aload_n dX9_turn_224 rfl rfl ?_
      refine q_mga 7 7 dX9_turn_225 hM fl_X9_29 rfl ?_
      refine q_iload dX9_turn_228 rfl ?_
      refine q_mld (k := 7) (v := nI (tn_l A p how ln k)) dX9_turn_230 hM (by decide) rfl (show _ < (6000 : Nat) by omega) (congrArg nI ((congrFun (md_st_k _ (by decide)) _).trans ((hK.2.1 _ (by omega)).2.trans (h7 _ (by omega))))) (fun b230 => ?_)
      refine q_mst (k := 7) (v := tn_l A p how ln k) dX9_turn_231 hM (by decide) rfl (show _ < (6000 : Nat) by omega) rfl (by have : tn_l A p how ln k ≤ 100000 := hA7 _; omega) (fun G hM => ?_)
      refine s_iinc dX9_turn_232 rfl (s_inc1 _) (by decide) rfl ?_
      refine q_goto (tgt := 146) dX9_turn_235 (by decide) ?_
      exact ih (k + 1) (G, _) (by omega) _ hM (by omega) (hK.add rfl rfl)
    · have hix : tn_ix (pz_n A p (tn_at A p how ln)) (tn_rd (A 2 p) how (tn_at A p how ln)) k < pz_n A p (tn_at A p how ln) := by unfold tn_ix; split <;> omega
      refine q_iload dX9_turn_171 rfl ?_
      refine q_iconst (v := nI 1) dX9_turn_173 (by decide) ?_
      refine q_isub dX9_turn_174 (pk_sub (by omega)) ?_
      refine q_iload dX9_turn_175 rfl ?_
      refine q_isub dX9_turn_177 (pk_sub (by omega)) ?_
      refine q_goto (tgt := 183) dX9_turn_178 (by decide) ?_
      refine q_iadd dX9_turn_183 (show nI (10 * (20 * p + tn_at A p how ln)) + nI (pz_n A p (tn_at A p how ln) - 1 - k) = nI (10 * (20 * p + tn_at A p how ln) + tn_ix (pz_n A p (tn_at A p how ln)) (tn_rd (A 2 p) how (tn_at A p how ln)) k) by rw [show tn_ix (pz_n A p (tn_at A p how ln)) (tn_rd (A 2 p) how (tn_at A p how ln)) k = pz_n A p (tn_at A p how ln) - 1 - k from if_neg c168]; exact nI_add _ _) ?_
      refine s_istore dX9_turn_184 (by decide) rfl ?_
      refine q_aload_n dX9_turn_186 rfl rfl ?_
      refine q_mga 6 6 dX9_turn_187 hM fl_X9_26 rfl ?_
      refine q_aload_n dX9_turn_190 rfl rfl ?_
      refine q_iload dX9_turn_191 rfl ?_
      refine q_iload dX9_turn_193 rfl ?_
      refine q_iv (As := [_, _]) dX9_turn_195 ml_X9_121 mt_X9_runAt mi_X9_runAt se_X9_runAt hM.1 rfl rfl (Nat.le_of_ble_eq_true rfl) (Nat.le_of_ble_eq_true rfl) (Nat.zero_le _) (Nat.zero_le _) (Nat.le_of_ble_eq_true rfl) (q_C.mono (c_X9_runAt hM _ _) (fun v G1 sz1 hq => ?_))
      obtain ⟨rfl, rfl, rfl⟩ := hq
      refine q_iload dX9_turn_198 rfl ?_
      refine q_iadd dX9_turn_200 (nI_add _ _) ?_
      refine q_aload_n dX9_turn_201 rfl rfl ?_
      refine q_mga 6 6 dX9_turn_202 hM fl_X9_26 rfl ?_
      refine q_iload dX9_turn_205 rfl ?_
      refine q_mld (k := 6) (v := nI (tn_c A p how ln k)) dX9_turn_207 hM (by decide) rfl (show _ < (6000 : Nat) by omega) (congrArg nI ((hK.2.1 _ (by omega)).1.trans (h6 _ (by omega)))) (fun b207 => ?_)
      refine q_mst (k := 6) (v := tn_c A p how ln k) dX9_turn_208 hM (by decide) rfl (show _ < (6000 : Nat) by omega) rfl (by have : tn_c A p how ln k ≤ 100000 := hA6 _; omega) (fun G hM => ?_)
      refine q_aload_n dX9_turn_209 rfl rfl ?_
      refine q_mga 7 7 dX9_turn_210 hM fl_X9_29 rfl ?_
      refine q_aload_n dX9_turn_213 rfl rfl ?_
      refine q_iload dX9_turn_214 rfl ?_
      refine q_iload dX9_turn_216 rfl ?_
      refine q_iv (As := [_, _]) dX9_turn_218 ml_X9_121 mt_X9_runAt mi_X9_runAt se_X9_runAt hM.1 rfl rfl (Nat.le_of_ble_eq_true rfl) (Nat.le_of_ble_eq_true rfl) (Nat.zero_le _) (Nat.zero_le _) (Nat.le_of_ble_eq_true rfl) (q_C.mono (c_X9_runAt hM _ _) (fun v G1 sz1 hq => ?_))
      obtain ⟨rfl, rfl, rfl⟩ := hq
      refine q_iload dX9_turn_221 rfl ?_
      refine q_iadd dX9_turn_223 (nI_add _ _) ?_
      refine q_aload_n dX9_turn_224 rfl rfl ?_
      refine q_mga 7 7 dX9_turn_225 hM fl_X9_29 rfl ?_
      refine q_iload dX9_turn_228 rfl ?_
      refine q_mld (k := 7) (v := nI (tn_l A p how ln k)) dX9_turn_230 hM (by decide) rfl (show _ < (6000 : Nat) by omega) (congrArg nI ((congrFun (md_st_k _ (by decide)) _).trans ((hK.2.1 _ (by omega)).2.trans (h7 _ (by omega))))) (fun b230 => ?_)
      refine q_mst (k := 7) (v := tn_l A p how ln k) dX9_turn_231 hM (by decide) rfl (show _ < (6000 : Nat) by omega) rfl (by have : tn_l A p how ln k ≤ 100000 := hA7 _; omega) (fun G hM => ?_)
      refine s_iinc dX9_turn_232 rfl (s_inc1 _) (by decide) rfl ?_
      refine q_goto (tgt := 146) dX9_turn_235 (by decide) ?_
      exact ih (k + 1) (G, _) (by omega) _ hM (by omega) (hK.add rfl rfl)

set_option maxHeartbeats 4000000 in
set_option maxRecDepth 100000 in
theorem l_X9_turn_l {T : q_T} {m : Nat} {G0 : q_G} {I : md_I} {A A0 : md_A} {sz : Nat} {E : q_E} {p q how : Nat} {x3 : Option Value} (hpq : p < q) (hq0 : q < 30) (hwp : 1 ≤ A 1 p ∧ A 1 p ≤ 10 ∧ 1 ≤ A 2 p ∧ A 2 p ≤ 10) (hw1 : A0 1 q = tn_w A p how) (hh1 : A0 2 q = tn_h A p how) (h1 : A0 1 p = A 1 p) (h2 : A0 2 p = A 2 p) (h5 : A0 5 = A 5) (h6 : A0 6 = A 6) (h7 : A0 7 = A 7) (hn : ∀ ln, ln < A 1 p + A 2 p → pz_n A p (tn_at A p how ln) ≤ 10) (hA6 : ∀ j, A 6 j ≤ 100000) (hA7 : ∀ j, A 7 j ≤ 100000) (hx : ∀ G A1 x6 x7 x8 x9, Mod T m G0 I A1 G → D_runs A0 A1 q (tn_w A p how + tn_h A p how) (tn_f A p how) → q_R T mX9_turn 4 89 244 [some (.ref m), some (.int (nI p)), some (.int (nI how)), x3, some (.int (nI q)), some (.int (nI (tn_w A p how + tn_h A p how))), x6, x7, x8, x9] [] G sz 0 0 E) : ∀ (ln : Nat) (z : q_G × md_A), ∀ x6 x7 x8 x9, Mod T m G0 I z.2 z.1 → ln ≤ tn_w A p how + tn_h A p how → D_runs A0 z.2 q ln (tn_f A p how) → q_R T mX9_turn 4 89 93 [some (.ref m), some (.int (nI p)), some (.int (nI how)), x3, some (.int (nI q)), some (.int (nI ln)), x6, x7, x8, x9] [] z.1 sz 0 0 E := by
  refine q_indN (fun ln _ => tn_w A p how + tn_h A p how - ln) _ (fun ln z ih => ?_)
  obtain ⟨G, A1⟩ := z
  dsimp only
  intro x6 x7 x8 x9 hM hln hD
  have hwh : tn_w A p how + tn_h A p how = A 1 p + A 2 p := by unfold tn_w tn_h; split <;> omega
  refine q_iload dX9_turn_93 rfl ?_
  refine q_aload_n dX9_turn_95 rfl rfl ?_
  refine q_iload dX9_turn_96 rfl ?_
  refine q_iv (As := [_]) dX9_turn_98 ml_X9_104 mt_X9_linesOf mi_X9_linesOf se_X9_linesOf hM.1 rfl rfl (Nat.le_of_ble_eq_true rfl) (Nat.le_of_ble_eq_true rfl) (Nat.zero_le _) (Nat.zero_le _) (Nat.le_of_ble_eq_true rfl) (q_C.mono (c_X9_linesOf (w := tn_w A p how) (h := tn_h A p how) hM hq0 (by rw [hD.1 1 (by decide) (by decide) (by decide)]; exact hw1) (by rw [hD.1 2 (by decide) (by decide) (by decide)]; exact hh1)) (fun v G1 sz1 hq => ?_))
  obtain ⟨rfl, rfl, rfl⟩ := hq
  refine n_icmp_ge (tgt := 244) dX9_turn_101 (by decide) (by omega) (by omega) (fun c101 => ?_) (fun c101 => ?_)
  · obtain rfl : ln = tn_w A p how + tn_h A p how := by omega
    exact hx G A1 x6 x7 x8 x9 hM hD
  · refine q_aload_n dX9_turn_104 rfl rfl ?_
    refine q_iload_n dX9_turn_105 rfl ?_
    refine q_iload_n dX9_turn_106 rfl ?_
    refine q_iload dX9_turn_107 rfl ?_
    refine q_iv (As := [_, _, _]) dX9_turn_109 ml_X9_204 mt_X9_source mi_X9_source se_X9_source hM.1 rfl rfl (Nat.le_of_ble_eq_true rfl) (Nat.le_of_ble_eq_true rfl) (Nat.zero_le _) (Nat.zero_le _) (Nat.le_of_ble_eq_true rfl) (q_C.mono (c_X9_source (w := A 1 p) (h := A 2 p) hM (by omega) (by rw [hD.1 1 (by decide) (by decide) (by decide)]; exact h1) (by rw [hD.1 2 (by decide) (by decide) (by decide)]; exact h2) (by omega) (by omega) (by omega)) (fun v G1 sz1 hq => ?_))
    obtain ⟨rfl, rfl, rfl⟩ := hq
    have hsl : tn_at A p how ln < A 1 p + A 2 p := tn_src_lt (how := how) (show 1 ≤ A 1 p by omega) (show 1 ≤ A 2 p by omega) (show ln < A 1 p + A 2 p by omega)
    rw [show tn_src (A 1 p) (A 2 p) how ln = tn_at A p how ln from rfl]
    have hn10 := hn ln (by omega)
    refine s_istore dX9_turn_112 (by decide) rfl ?_
    refine q_aload_n dX9_turn_114 rfl rfl ?_
    refine q_mga 5 5 dX9_turn_115 hM fl_X9_23 rfl ?_
    refine q_bipush (v := nI 20) dX9_turn_118 (by decide) ?_
    refine q_iload_n dX9_turn_120 rfl ?_
    refine q_imul dX9_turn_121 (pk_mul _ _) ?_
    refine q_iload dX9_turn_122 rfl ?_
    refine q_iadd dX9_turn_124 (nI_add _ _) ?_
    refine q_mld (k := 5) (v := nI (pz_n A p (tn_at A p how ln))) dX9_turn_125 hM (by decide) rfl (show _ < (600 : Nat) by omega) (congrArg nI (by rw [hD.2.1, md_cp_out _ (by omega), h5]; rfl)) (fun b125 => ?_)
    refine s_istore dX9_turn_126 (by decide) rfl ?_
    refine q_aload_n dX9_turn_128 rfl rfl ?_
    refine q_mga 5 5 dX9_turn_129 hM fl_X9_23 rfl ?_
    refine q_bipush (v := nI 20) dX9_turn_132 (by decide) ?_
    refine q_iload dX9_turn_134 rfl ?_
    refine q_imul dX9_turn_136 (pk_mul _ _) ?_
    refine q_iload dX9_turn_137 rfl ?_
    refine q_iadd dX9_turn_139 (nI_add _ _) ?_
    refine q_iload dX9_turn_140 rfl ?_
    refine q_mst (k := 5) (v := pz_n A p (tn_at A p how ln)) dX9_turn_142 hM (by decide) rfl (show _ < (600 : Nat) by omega) rfl (by omega) (fun G hM => ?_)
    refine q_iconst (v := nI 0) dX9_turn_143 (by decide) ?_
    refine s_istore dX9_turn_144 (by decide) rfl ?_
    refine l_X9_turn_k (A := A) (AB := md_st A1 5 (20 * q + ln) (pz_n A p (tn_at A p how ln))) hpq hq0 (by omega) hsl hwp hn10 (by rw [md_st_k _ (by decide), hD.1 2 (by decide) (by decide) (by decide)]; exact h2) (fun j hj => by rw [md_st_k _ (by decide)]; exact (hD.2.2.1 j hj).1.trans (congrFun h6 j)) (fun j hj => by rw [md_st_k _ (by decide)]; exact (hD.2.2.1 j hj).2.trans (congrFun h7 j)) hA6 hA7 (fun G A2 x9 hM hK => ?_) 0 (G, md_st A1 5 (20 * q + ln) (pz_n A p (tn_at A p how ln))) _ hM (Nat.zero_le _) ⟨fun _ _ _ => rfl, fun _ _ => ⟨rfl, rfl⟩, fun i hi => absurd hi (Nat.not_lt_zero _)⟩
    refine s_iinc dX9_turn_238 rfl (s_inc1 _) (by decide) rfl ?_
    refine q_goto (tgt := 93) dX9_turn_241 (by decide) ?_
    exact ih (ln + 1) (G, A2) (by omega) _ _ _ _ hM (by omega) (hD.nxt (by omega) hK (fun k hk => hn k (by omega)))

theorem D_new_1n {I : md_I} {A : md_A} {a b c p : Nat} (h : p ≠ I 0) : D_new I A a b c 1 p = A 1 p := by
  unfold D_new
  rw [md_fill_k _ (by decide), md_st_k _ (by decide), md_st_k _ (by decide), md_st_n _ h]
theorem D_new_2n {I : md_I} {A : md_A} {a b c p : Nat} (h : p ≠ I 0) : D_new I A a b c 2 p = A 2 p := by
  unfold D_new
  rw [md_fill_k _ (by decide), md_st_k _ (by decide), md_st_n _ h, md_st_k _ (by decide)]

set_option maxHeartbeats 4000000 in
set_option maxRecDepth 100000 in
theorem c_X9_turn {T : q_T} {m : Nat} {G0 G : q_G} {I : md_I} {A : md_A} {sz t : Nat} (hM : Mod T m G0 I A G) (hI : Inv t I A) (x y : Int32) : q_C T mX9_turn 4 89 0 0 [.ref m, .int x, .int y] G sz (fun v G' sz' => sz = sz' ∧ ∃ (I' : md_I) (A' : md_A), Mod T m G0 I' A' G' ∧ ∃ (z : Int32) (I2 : md_I) (A2 : md_A), v = some (.int z) ∧ D_turn I A x y z I2 A2 ∧ Per I2 I' A2 A') := by
  refine q_C.of (by decide) rfl (by simp [Value.category]) (Nat.le_of_ble_eq_true rfl) ?_
  have hM0 := hM
  refine q_aload_n dX9_turn_0 rfl rfl ?_
  refine q_iload_n dX9_turn_1 rfl ?_
  refine q_iv (As := [_]) dX9_turn_2 ml_X9_100 mt_X9_isPuzzle mi_X9_isPuzzle se_X9_isPuzzle hM.1 rfl rfl (Nat.le_of_ble_eq_true rfl) (Nat.le_of_ble_eq_true rfl) (Nat.zero_le _) (Nat.zero_le _) (Nat.le_of_ble_eq_true rfl) (q_C.mono (c_X9_isPuzzle hM _) (fun v G1 sz1 hq => ?_))
  obtain ⟨⟨⟨p, hp, rfl⟩, rfl⟩ | ⟨hV2, rfl⟩, rfl, rfl⟩ := hq
  · have hz := (hI.2.1 p hp).1
    have hp30 := hI.1
    have hwp := hI.puz p hp
    have hc3 := hz.2.2.2.1
    refine q_if_eq (tgt := 18) dX9_turn_5 (by decide) (fun h => absurd h (by decide)) (fun _ => ?_)
    refine q_iload_n dX9_turn_8 rfl ?_
    refine q_iconst (v := nI 0) dX9_turn_9 (by decide) ?_
    refine q_bipush (v := nI 7) dX9_turn_10 (by decide) ?_
    refine q_is (As := [_, _, _]) dX9_turn_12 ml_X9_96 mt_X9_in ms_X9_in rfl (Nat.le_of_ble_eq_true rfl) (Nat.le_of_ble_eq_true rfl) (Nat.zero_le _) (Nat.zero_le _) (Nat.le_of_ble_eq_true rfl) (q_C.mono (c_X9_in _ _ _) (fun v G1 sz1 hq => ?_))
    rw [q_ixn (by omega)] at hq
    obtain ⟨⟨⟨how, hhow, rfl⟩, rfl⟩ | ⟨hV12, rfl⟩, rfl, rfl⟩ := hq
    · refine q_if_ne (tgt := 20) dX9_turn_15 (by decide) (fun _ => ?_) (fun h => absurd h (by decide))
      refine q_iload_n dX9_turn_20 rfl ?_
      refine q_iconst (v := nI 4) dX9_turn_21 (by decide) ?_
      refine q_iand dX9_turn_22 (n_and _ _) ?_
      refine n_if_eq (tgt := 30) dX9_turn_23 (by decide) (Nat.lt_of_le_of_lt Nat.and_le_right (by decide)) (fun c23 => ?_) (fun c23 => ?_)
      · refine q_iconst (v := nI 0) dX9_turn_30 (by decide) ?_
        refine s_istore_n dX9_turn_31 (by decide) rfl ?_
        refine q_aload_n dX9_turn_32 rfl rfl ?_
        refine q_iload_n dX9_turn_33 rfl ?_
        refine q_if_eq (tgt := 46) dX9_turn_34 (by decide) (fun _ => ?_) (fun h => absurd h (by decide))
        refine q_aload_n dX9_turn_46 rfl rfl ?_
        refine q_mga 1 1 dX9_turn_47 hM fl_X9_9 rfl ?_
        refine q_iload_n dX9_turn_50 rfl ?_
        refine q_mld (k := 1) (v := nI _) dX9_turn_51 hM (by decide) rfl (show _ < (30 : Nat) by omega) rfl (fun b51 => ?_)
        refine q_iload_n dX9_turn_52 rfl ?_
        refine q_if_eq (tgt := 65) dX9_turn_53 (by decide) (fun _ => ?_) (fun h => absurd h (by decide))
        refine q_aload_n dX9_turn_65 rfl rfl ?_
        refine q_mga 2 2 dX9_turn_66 hM fl_X9_13 rfl ?_
        refine q_iload_n dX9_turn_69 rfl ?_
        refine q_mld (k := 2) (v := nI _) dX9_turn_70 hM (by decide) rfl (show _ < (30 : Nat) by omega) rfl (fun b70 => ?_)
        refine q_aload_n dX9_turn_71 rfl rfl ?_
        refine q_mga 3 3 dX9_turn_72 hM fl_X9_16 rfl ?_
        refine q_iload_n dX9_turn_75 rfl ?_
        refine q_mld (k := 3) (v := nI _) dX9_turn_76 hM (by decide) rfl (show _ < (30 : Nat) by omega) rfl (fun b76 => ?_)
        refine q_iv (As := [_, _, _]) dX9_turn_77 ml_X9_198 mt_X9_puzzle mi_X9_puzzle se_X9_puzzle hM.1 rfl rfl (Nat.le_of_ble_eq_true rfl) (Nat.le_of_ble_eq_true rfl) (Nat.zero_le _) (Nat.zero_le _) (Nat.le_of_ble_eq_true rfl) (q_C.mono (c_X9_puzzle hM hI _ _ _) (fun v G sz1 hq => ?_))
        obtain ⟨rfl, I1, A1, hM1, z, I2, A2, rfl, ⟨a, b, c, ⟨⟨e1, e2, e3⟩, ⟨e4, e5, e6⟩, ⟨e7, e8, e9⟩, e10⟩, rfl, rfl, rfl⟩ | ⟨hV77, rfl, rfl, rfl⟩, hper⟩ := hq
        · obtain rfl := (nI_eq (by omega) (by omega)).mp e3
          obtain rfl := (nI_eq (by omega) (by omega)).mp e6
          obtain rfl := (nI_eq (by omega) (by omega)).mp e9
          have hM := hM1
          have hw : tn_w A p how = A 1 p := if_pos c23
          have hh : tn_h A p how = A 2 p := if_pos c23
          have hper : Per (va_up I 0 (I 0 + 1)) I1 (D_new I A (tn_w A p how) (tn_h A p how) (A 3 p)) A1 := by rw [hw, hh]; exact hper
          refine s_istore dX9_turn_80 (by decide) rfl ?_
          refine q_iload dX9_turn_82 rfl ?_
          refine q_iconst (v := -1) dX9_turn_84 (by decide) ?_
          refine q_icmp_ne (tgt := 90) dX9_turn_85 (by decide) (fun _ => ?_) (fun h => absurd h (nI_m1 (by omega)))
          refine q_iconst (v := nI 0) dX9_turn_90 (by decide) ?_
          refine s_istore dX9_turn_91 (by decide) rfl ?_
          refine l_X9_turn_l (A := A) (A0 := A1) hp (by omega) hwp (by rw [hper.2 1 (by decide)]; exact D_new_1) (by rw [hper.2 2 (by decide)]; exact D_new_2) (by rw [hper.2 1 (by decide)]; exact D_new_1n (by omega)) (by rw [hper.2 2 (by decide)]; exact D_new_2n (by omega)) ((hper.2 5 (by decide)).trans (D_new_k (by decide))) ((hper.2 6 (by decide)).trans (D_new_k (by decide))) ((hper.2 7 (by decide)).trans (D_new_k (by decide))) (fun ln hl => (hz.2.2.2.2 _ (tn_src_lt hwp.1 hwp.2.2.1 hl)).1) (hM0.2.2.2.2 6) (hM0.2.2.2.2 7) (fun G A3 x6 x7 x8 x9 hM hD => ?_) 0 (G, A1) _ _ _ _ hM (Nat.zero_le _) D_runs.zero
          refine q_iload dX9_turn_244 rfl ?_
          exact q_ireturn dX9_turn_246 rfl rfl ⟨rfl, I1, A3, hM, _, va_up I 0 (I 0 + 1), (fun k => if k = 5 ∨ k = 6 ∨ k = 7 then A3 k else D_new I A (tn_w A p how) (tn_h A p how) (A 3 p) k), rfl, Or.inl ⟨p, how, ⟨hp, rfl, hhow, rfl, e10⟩, rfl, rfl, D_runs_per hper.2 hD⟩, ⟨hper.1, fun k hk => D_runs_per2 hper.2 hD k hk⟩⟩
        · refine s_istore dX9_turn_80 (by decide) rfl ?_
          refine q_iload dX9_turn_82 rfl ?_
          refine q_iconst (v := -1) dX9_turn_84 (by decide) ?_
          refine q_icmp_ne (tgt := 90) dX9_turn_85 (by decide) (fun h => absurd rfl h) (fun _ => ?_)
          refine q_iconst (v := -1) dX9_turn_88 (by decide) ?_
          exact q_ireturn dX9_turn_89 rfl rfl ⟨rfl, I1, A1, hM1, _, _, _, rfl, Or.inr ⟨fun ⟨p2, how2, h1, h2, h3, h4, h5⟩ => hV77 ⟨A2 1 p, A2 2 p, A2 3 p, ⟨by omega, by omega, rfl⟩, ⟨by omega, by omega, rfl⟩, ⟨by omega, by omega, rfl⟩, h5⟩, rfl, rfl, rfl⟩, hper⟩
      · refine q_iconst (v := nI 1) dX9_turn_26 (by decide) ?_
        refine q_goto (tgt := 31) dX9_turn_27 (by decide) ?_
        refine s_istore_n dX9_turn_31 (by decide) rfl ?_
        refine q_aload_n dX9_turn_32 rfl rfl ?_
        refine q_iload_n dX9_turn_33 rfl ?_
        refine q_if_eq (tgt := 46) dX9_turn_34 (by decide) (fun h => absurd h (by decide)) (fun _ => ?_)
        refine q_aload_n dX9_turn_37 rfl rfl ?_
        refine q_mga 2 2 dX9_turn_38 hM fl_X9_13 rfl ?_
        refine q_iload_n dX9_turn_41 rfl ?_
        refine q_mld (k := 2) (v := nI _) dX9_turn_42 hM (by decide) rfl (show _ < (30 : Nat) by omega) rfl (fun b42 => ?_)
        refine q_goto (tgt := 52) dX9_turn_43 (by decide) ?_
        refine q_iload_n dX9_turn_52 rfl ?_
        refine q_if_eq (tgt := 65) dX9_turn_53 (by decide) (fun h => absurd h (by decide)) (fun _ => ?_)
        refine q_aload_n dX9_turn_56 rfl rfl ?_
        refine q_mga 1 1 dX9_turn_57 hM fl_X9_9 rfl ?_
        refine q_iload_n dX9_turn_60 rfl ?_
        refine q_mld (k := 1) (v := nI _) dX9_turn_61 hM (by decide) rfl (show _ < (30 : Nat) by omega) rfl (fun b61 => ?_)
        refine q_goto (tgt := 71) dX9_turn_62 (by decide) ?_
        refine q_aload_n dX9_turn_71 rfl rfl ?_
        refine q_mga 3 3 dX9_turn_72 hM fl_X9_16 rfl ?_
        refine q_iload_n dX9_turn_75 rfl ?_
        refine q_mld (k := 3) (v := nI _) dX9_turn_76 hM (by decide) rfl (show _ < (30 : Nat) by omega) rfl (fun b76 => ?_)
        refine q_iv (As := [_, _, _]) dX9_turn_77 ml_X9_198 mt_X9_puzzle mi_X9_puzzle se_X9_puzzle hM.1 rfl rfl (Nat.le_of_ble_eq_true rfl) (Nat.le_of_ble_eq_true rfl) (Nat.zero_le _) (Nat.zero_le _) (Nat.le_of_ble_eq_true rfl) (q_C.mono (c_X9_puzzle hM hI _ _ _) (fun v G sz1 hq => ?_))
        obtain ⟨rfl, I1, A1, hM1, z, I2, A2, rfl, ⟨a, b, c, ⟨⟨e1, e2, e3⟩, ⟨e4, e5, e6⟩, ⟨e7, e8, e9⟩, e10⟩, rfl, rfl, rfl⟩ | ⟨hV77, rfl, rfl, rfl⟩, hper⟩ := hq
        · obtain rfl := (nI_eq (by omega) (by omega)).mp e3
          obtain rfl := (nI_eq (by omega) (by omega)).mp e6
          obtain rfl := (nI_eq (by omega) (by omega)).mp e9
          have hM := hM1
          have hw : tn_w A p how = A 2 p := if_neg c23
          have hh : tn_h A p how = A 1 p := if_neg c23
          have hper : Per (va_up I 0 (I 0 + 1)) I1 (D_new I A (tn_w A p how) (tn_h A p how) (A 3 p)) A1 := by rw [hw, hh]; exact hper
          refine s_istore dX9_turn_80 (by decide) rfl ?_
          refine q_iload dX9_turn_82 rfl ?_
          refine q_iconst (v := -1) dX9_turn_84 (by decide) ?_
          refine q_icmp_ne (tgt := 90) dX9_turn_85 (by decide) (fun _ => ?_) (fun h => absurd h (nI_m1 (by omega)))
          refine q_iconst (v := nI 0) dX9_turn_90 (by decide) ?_
          refine s_istore dX9_turn_91 (by decide) rfl ?_
          refine l_X9_turn_l (A := A) (A0 := A1) hp (by omega) hwp (by rw [hper.2 1 (by decide)]; exact D_new_1) (by rw [hper.2 2 (by decide)]; exact D_new_2) (by rw [hper.2 1 (by decide)]; exact D_new_1n (by omega)) (by rw [hper.2 2 (by decide)]; exact D_new_2n (by omega)) ((hper.2 5 (by decide)).trans (D_new_k (by decide))) ((hper.2 6 (by decide)).trans (D_new_k (by decide))) ((hper.2 7 (by decide)).trans (D_new_k (by decide))) (fun ln hl => (hz.2.2.2.2 _ (tn_src_lt hwp.1 hwp.2.2.1 hl)).1) (hM0.2.2.2.2 6) (hM0.2.2.2.2 7) (fun G A3 x6 x7 x8 x9 hM hD => ?_) 0 (G, A1) _ _ _ _ hM (Nat.zero_le _) D_runs.zero
          refine q_iload dX9_turn_244 rfl ?_
          exact q_ireturn dX9_turn_246 rfl rfl ⟨rfl, I1, A3, hM, _, va_up I 0 (I 0 + 1), (fun k => if k = 5 ∨ k = 6 ∨ k = 7 then A3 k else D_new I A (tn_w A p how) (tn_h A p how) (A 3 p) k), rfl, Or.inl ⟨p, how, ⟨hp, rfl, hhow, rfl, e10⟩, rfl, rfl, D_runs_per hper.2 hD⟩, ⟨hper.1, fun k hk => D_runs_per2 hper.2 hD k hk⟩⟩
        · refine s_istore dX9_turn_80 (by decide) rfl ?_
          refine q_iload dX9_turn_82 rfl ?_
          refine q_iconst (v := -1) dX9_turn_84 (by decide) ?_
          refine q_icmp_ne (tgt := 90) dX9_turn_85 (by decide) (fun h => absurd rfl h) (fun _ => ?_)
          refine q_iconst (v := -1) dX9_turn_88 (by decide) ?_
          exact q_ireturn dX9_turn_89 rfl rfl ⟨rfl, I1, A1, hM1, _, _, _, rfl, Or.inr ⟨fun ⟨p2, how2, h1, h2, h3, h4, h5⟩ => hV77 ⟨A2 2 p, A2 1 p, A2 3 p, ⟨by omega, by omega, rfl⟩, ⟨by omega, by omega, rfl⟩, ⟨by omega, by omega, rfl⟩, h5⟩, rfl, rfl, rfl⟩, hper⟩
    · refine q_if_ne (tgt := 20) dX9_turn_15 (by decide) (fun h => absurd h (by decide)) (fun _ => ?_)
      refine q_iconst (v := -1) dX9_turn_18 (by decide) ?_
      exact q_ireturn dX9_turn_19 rfl rfl ⟨rfl, I, A, hM, _, I, A, rfl, Or.inr ⟨fun ⟨p2, how2, h1, h2, h3, h4, h5⟩ => hV12 ⟨how2, h3, h4⟩, rfl, rfl, rfl⟩, Per.rfl'⟩
  · refine q_if_eq (tgt := 18) dX9_turn_5 (by decide) (fun _ => ?_) (fun h => absurd h (by decide))
    refine q_iconst (v := -1) dX9_turn_18 (by decide) ?_
    exact q_ireturn dX9_turn_19 rfl rfl ⟨rfl, I, A, hM, _, I, A, rfl, Or.inr ⟨fun ⟨p2, how2, h1, h2, h3, h4, h5⟩ => hV2 ⟨p2, h1, h2⟩, rfl, rfl, rfl⟩, Per.rfl'⟩
