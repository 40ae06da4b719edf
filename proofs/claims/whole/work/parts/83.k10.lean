/-! THE CLASS: a puzzle with runs is made -/
abbrev ru_F : Type := Nat → Nat × (Nat → Nat) × (Nat → Nat)
def LinR (T : q_T) (G : q_G) (u w h ln : Nat) (f : ru_F) : Prop := Lin T G (u + 2 + 4 * ln) (li_fi w h ln) (li_sr w h ln) (if ln < h then w else h) (if ln < h then h else 0) (f ln).2.1 (f ln).2.2 (f ln).1
/-- the first K lines have their runs -/
def PuzR (T : q_T) (G : q_G) (u w h c K : Nat) (f : ru_F) : Prop := G u = some (q_ob 5 (pu_ob u w h c (u + 2 + 4 * (w + h)) 0)) ∧ (∃ f : Nat → Option Nat, G (u + 1) = some (q_ra T 6 (w + h) f) ∧ ∀ k, k < w + h → f k = some (u + 2 + 4 * k)) ∧ (∀ ln, ln < w + h → (ln < K → LinR T G u w h ln f) ∧ (K ≤ ln → LinN T G u w h ln)) ∧ ∃ F : Nat → Nat, G (u + 2 + 4 * (w + h)) = some (q_ia T (w * h) (fun i => nI (F i))) ∧ ∀ x, x < w * h → F x = 1 <<< (c + 1) - 1
theorem PuzN.R {T : q_T} {G : q_G} {u w h c : Nat} (H : PuzN T G u w h c) (f : ru_F) : PuzR T G u w h c 0 f := ⟨H.1, H.2.1, fun ln hl => ⟨fun h => absurd h (Nat.not_lt_zero _), fun _ => H.2.2.1 ln hl⟩, H.2.2.2⟩
theorem PuzR.next {T : q_T} {G G' : q_G} {u w h c K : Nat} {f : ru_F} (H : PuzR T G u w h c K f) (hK : K < w + h) (hF : ∀ b, b < u + 2 + 4 * K ∨ u + 2 + 4 * K + 4 ≤ b → G' b = G b) (hL : LinR T G' u w h K f) : PuzR T G' u w h c (K + 1) f := by
  obtain ⟨h1, ⟨g, h2, h3⟩, h4, F, h5, h6⟩ := H
  refine ⟨(hF _ (by omega)).trans h1, ⟨g, (hF _ (by omega)).trans h2, h3⟩, fun ln hl => ⟨fun hk => ?_, fun hk => ((h4 ln hl).2 (by omega)).fr (fun b b1 b2 => hF b (by omega))⟩, F, (hF _ (by omega)).trans h5, h6⟩
  by_cases e : ln = K
  · rw [e]; exact hL
  · exact ((h4 ln hl).1 (by omega)).fr (fun b b1 b2 => hF b (by omega))
theorem tn_S (c l : Nat → Nat) (n rd : Nat) : ln_S (fun k => c (tn_ix n rd k)) (fun k => l (tn_ix n rd k)) n 0 = ln_S c l n 0 := by
  unfold tn_ix
  by_cases h : rd = 0
  · simp only [h, if_true]
  · simp only [h, if_false]
    exact ln_S_rev c l n
theorem tn_L {A : md_A} {p how ln : Nat} (hz : Pz A p) (hl : ln < A 1 p + A 2 p) : pz_L A p (tn_at A p how ln) = if ln < tn_h A p how then tn_w A p how else tn_h A p how := by
  have := hz.2.1; have := hz.2.2.1
  unfold pz_L tn_at tn_src tn_h tn_w
  (repeat' split) <;> omega
theorem tn_wh (A : md_A) (p how : Nat) : tn_w A p how + tn_h A p how = A 1 p + A 2 p := by
  unfold tn_w tn_h
  split <;> omega
theorem tn_wb {A : md_A} {p how : Nat} (hz : Pz A p) : (1 ≤ tn_w A p how ∧ tn_w A p how ≤ 10) ∧ (1 ≤ tn_h A p how ∧ tn_h A p how ≤ 10) := by
  have := hz.2.1; have := hz.2.2.1
  unfold tn_w tn_h
  split <;> omega

set_option maxHeartbeats 4000000 in
set_option maxRecDepth 100000 in
theorem l_turned {T : q_T} {G0 : q_G} {sz u t p D how : Nat} {A : md_A} {E : q_E} {x2 : Option Value} {bc bs : Nat} (hz : Pz A p) (hho : how < 8) (hut : u + 2 + 4 * (A 1 p + A 2 p) ≤ t) (hE : ∀ G, PuzR T G t (tn_w A p how) (tn_h A p how) (A 3 p) ((tn_w A p how) + (tn_h A p how)) (tn_f A p how) → (∀ b, b < t → G b = G0 b) → E (some (.ref t)) G sz) : ∀ (mZ : Nat) (k : Nat) (G : q_G) (x5 : Option Value), mZ = (tn_w A p how) + (tn_h A p how) - k → (k ≤ (tn_w A p how) + (tn_h A p how)) → (PuzL T G u A p D) → (PuzR T G t (tn_w A p how) (tn_h A p how) (A 3 p) k (tn_f A p how)) → (∀ b, b < t → G b = G0 b) → q_R T mX4_turned 5 112 57 [some (.ref u), some (.int (nI how)), x2, some (.ref t), some (.int (nI k)), x5] [] G sz bc bs E := by
  intro mZ
  induction mZ using Nat.strongRecOn with | ind mZ ih => ?_
  intro k G x5 hm hk hP hR hF
  have hu := hP.1
  obtain ⟨f, hls, hf⟩ := hP.2.1
  have hu2 := hR.1
  obtain ⟨f2, hls2, hf2⟩ := hR.2.1
  have hwh := tn_wh A p how
  obtain ⟨hwb, hhb⟩ := tn_wb (how := how) hz
  refine q_iload dX4_turned_57 rfl ?_
  refine q_aload_n dX4_turned_59 rfl rfl ?_
  refine q_get dX4_turned_60 fl_X4_26 hu2 rfl ?_
  refine q_alen (t := 6) (v := nI ((tn_w A p how) + (tn_h A p how))) dX4_turned_63 hls2 rfl rfl ?_
  refine n_icmp_ge (tgt := 106) dX4_turned_64 (by decide) (by omega) (by omega) (fun c64 => ?_) (fun c64 => ?_)
  · obtain rfl : k = (tn_w A p how) + (tn_h A p how) := by omega
    refine q_aload_n dX4_turned_106 rfl rfl ?_
    exact q_areturn dX4_turned_107 rfl (Or.inl ⟨_, rfl⟩) rfl (hE G hR hF)
  · refine q_aload_n dX4_turned_67 rfl rfl ?_
    refine q_iload dX4_turned_68 rfl ?_
    refine q_iload_n dX4_turned_70 rfl ?_
    refine q_iv (As := [_, _]) dX4_turned_71 ml_X4_71 mt_X4_sourceOf mi_X4_sourceOf se_X4_sourceOf hu rfl rfl (Nat.le_of_ble_eq_true rfl) (Nat.le_of_ble_eq_true rfl) (Nat.zero_le _) (Nat.zero_le _) (Nat.le_of_ble_eq_true rfl) (q_C.mono (c_X4_sourceOf hu hz.2.1 hz.2.2.1 (by omega) hho) (fun v G1 sz1 hq => ?_))
    obtain ⟨rfl, rfl, rfl⟩ := hq
    have hsl : tn_at A p how k < A 1 p + A 2 p := tn_src_lt hz.2.1.1 hz.2.2.1.1 (by omega)
    obtain ⟨g0, j0, e0, C0, L0, P0, hlk, -⟩ := id ((hR.2.2.1 k (by omega)).2 (Nat.le_refl _) (fun _ => 0) (fun _ => 0))
    have hsc : tn_src (A 1 p) (A 2 p) how k = tn_at A p how k := rfl
    rw [hsc]
    refine s_istore dX4_turned_74 (by decide) rfl ?_
    refine q_aload_n dX4_turned_76 rfl rfl ?_
    refine q_get dX4_turned_77 fl_X4_26 hu2 rfl ?_
    refine q_iload dX4_turned_80 rfl ?_
    refine q_aaload (t := 6) (v := .ref (t + 2 + 4 * k)) dX4_turned_82 hls2 rfl rfl (by omega) (by omega) (congrArg va_rf (hf2 k (by omega))) ?_
    refine q_aload_n dX4_turned_83 rfl rfl ?_
    refine q_get dX4_turned_84 fl_X4_26 hu rfl ?_
    refine q_iload dX4_turned_87 rfl ?_
    refine q_aaload (t := 6) (v := .ref (u + 2 + 4 * tn_at A p how k)) dX4_turned_89 hls rfl rfl hsl (by omega) (congrArg va_rf (hf (tn_at A p how k) hsl)) ?_
    refine q_aload_n dX4_turned_90 rfl rfl ?_
    refine q_iload dX4_turned_91 rfl ?_
    refine q_iload_n dX4_turned_93 rfl ?_
    refine q_iv (As := [_, _]) dX4_turned_94 ml_X4_75 mt_X4_isBackwards mi_X4_isBackwards se_X4_isBackwards hu rfl rfl (Nat.le_of_ble_eq_true rfl) (Nat.le_of_ble_eq_true rfl) (Nat.zero_le _) (Nat.zero_le _) (Nat.le_of_ble_eq_true rfl) (q_C.mono (c_X4_isBackwards hu hz.2.2.1 (by omega) hho) (fun v G1 sz1 hq => ?_))
    obtain ⟨rfl, rfl, rfl⟩ := hq
    have hle : (if k < tn_h A p how then tn_w A p how else tn_h A p how) = pz_L A p (tn_at A p how k) := (tn_L hz (by omega)).symm
    have hn0 := (hR.2.2.1 k (by omega)).2 (Nat.le_refl _)
    refine q_iv (As := [_, _]) dX4_turned_97 ml_X4_78 mt_X3_copyRuns mi_X3_copyRuns se_X3_copyRuns hlk rfl rfl (Nat.le_of_ble_eq_true rfl) (Nat.le_of_ble_eq_true rfl) (Nat.zero_le _) (Nat.zero_le _) (Nat.le_of_ble_eq_true rfl) (q_C.mono (c_X3_copyRuns hn0 (hP.2.2 (tn_at A p how k) hsl) (tn_rd_le _ _ _) (by omega) (by rw [hle]; exact pz_L_le hz) (by rw [tn_S, hle]; exact (hz.2.2.2.2 _ hsl).2.1)) (fun v G1 sz1 hq => ?_))
    obtain ⟨rfl, rfl, hLk, hN⟩ := hq
    refine s_iinc dX4_turned_100 rfl (s_inc1 _) (by decide) rfl ?_
    refine q_goto (tgt := 57) dX4_turned_103 (by decide) ?_
    exact ih _ (by omega) (k + 1) G1 _ rfl (by omega) (hP.fr (fun b b1 b2 => hN b (by omega))) (hR.next (by omega) hN hLk) (fun b hb => (hN b (by omega)).trans (hF b hb))

set_option maxHeartbeats 4000000 in
set_option maxRecDepth 100000 in
theorem c_X4_turned {T : q_T} {G0 : q_G} {sz u p D how : Nat} {A : md_A} (hP : PuzL T G0 u A p D) (hz : Pz A p) (hho : how < 8) (hus : u + 2 + 4 * (A 1 p + A 2 p) ≤ sz) : q_C T mX4_turned 5 112 83 1207 [.ref u, .int (nI how)] G0 sz (fun v G' sz' => sz' = sz + 3 + 4 * ((tn_w A p how) + (tn_h A p how)) ∧ v = some (.ref sz) ∧ (∀ b, b < sz → G' b = G0 b) ∧ PuzR T G' sz (tn_w A p how) (tn_h A p how) (A 3 p) ((tn_w A p how) + (tn_h A p how)) (tn_f A p how)) := by
  refine q_C.of (by decide) rfl (by simp [Value.category]) (Nat.le_of_ble_eq_true rfl) ?_
  have hu := hP.1
  have hF : ∀ b, b < sz → G0 b = G0 b := fun _ _ => rfl
  have b1 := hz.2
  refine q_iload_n dX4_turned_0 rfl ?_
  refine q_iconst (v := nI 4) dX4_turned_1 (by decide) ?_
  refine q_iand dX4_turned_2 (n_and _ _) ?_
  refine n_if_eq (tgt := 10) dX4_turned_3 (by decide) (Nat.lt_of_le_of_lt Nat.and_le_left (by omega)) (fun c3 => ?_) (fun c3 => ?_)
  · refine q_iconst (v := nI 0) dX4_turned_10 (by decide) ?_
    refine s_istore_n dX4_turned_11 (by decide) rfl ?_
    have hw : tn_w A p how = A 1 p := if_pos c3
    have hh : tn_h A p how = A 2 p := if_pos c3
    refine w_new dX4_turned_12 nw_X4_10 (by omega) (by omega) (fun G hv hN => ?_)
    have hP := hP.fr (fun b b1 b2 => hN b (by omega))
    have hu := hP.1
    have hF : ∀ b, b < sz → G b = G0 b := fun b hb => (hN b (by omega)).trans (hF b hb)
    refine q_dup dX4_turned_15 rfl ?_
    refine q_iload_n dX4_turned_16 rfl ?_
    refine q_if_eq (tgt := 27) dX4_turned_17 (by decide) (fun _ => ?_) (fun h => absurd h (by decide))
    refine q_aload_n dX4_turned_27 rfl rfl ?_
    refine q_get dX4_turned_28 fl_X4_9 hu rfl ?_
    refine q_iload_n dX4_turned_31 rfl ?_
    refine q_if_eq (tgt := 42) dX4_turned_32 (by decide) (fun _ => ?_) (fun h => absurd h (by decide))
    refine q_aload_n dX4_turned_42 rfl rfl ?_
    refine q_get dX4_turned_43 fl_X4_15 hu rfl ?_
    refine q_aload_n dX4_turned_46 rfl rfl ?_
    refine q_get dX4_turned_47 fl_X4_18 hu rfl ?_
    refine q_ii (As := [_, _, _]) dX4_turned_50 ml_X4_68 mt_X4_init rfl mi_X4_init rfl rfl (Nat.le_of_ble_eq_true rfl) (Nat.le_of_ble_eq_true rfl) (by omega) (by omega) (Nat.le_of_ble_eq_true rfl) (q_C.mono (c_X4_init hv hz.2.1 hz.2.2.1 (by omega)) (fun v G sz1 hq => ?_))
    obtain ⟨rfl, rfl, hN, hPN⟩ := hq
    have hP := hP.fr (fun b b1 b2 => hN b (by omega))
    have hu := hP.1
    have hF : ∀ b, b < sz → G b = G0 b := fun b hb => (hN b (by omega)).trans (hF b hb)
    rw [← hw, ← hh] at hPN
    rw [show sz + 3 + 4 * (A 1 p + A 2 p) = sz + 3 + 4 * ((tn_w A p how) + (tn_h A p how)) by omega]
    refine s_astore_n dX4_turned_53 (by decide) rfl rfl ?_
    refine q_iconst (v := nI 0) dX4_turned_54 (by decide) ?_
    refine s_istore dX4_turned_55 (by decide) rfl ?_
    exact l_turned hz hho (by omega) (fun G h1 h2 => ⟨rfl, rfl, h2, h1⟩) _ 0 G _ rfl (Nat.zero_le _) hP (hPN.R _) hF
  · refine q_iconst (v := nI 1) dX4_turned_6 (by decide) ?_
    refine q_goto (tgt := 11) dX4_turned_7 (by decide) ?_
    refine s_istore_n dX4_turned_11 (by decide) rfl ?_
    have hw : tn_w A p how = A 2 p := if_neg c3
    have hh : tn_h A p how = A 1 p := if_neg c3
    refine w_new dX4_turned_12 nw_X4_10 (by omega) (by omega) (fun G hv hN => ?_)
    have hP := hP.fr (fun b b1 b2 => hN b (by omega))
    have hu := hP.1
    have hF : ∀ b, b < sz → G b = G0 b := fun b hb => (hN b (by omega)).trans (hF b hb)
    refine q_dup dX4_turned_15 rfl ?_
    refine q_iload_n dX4_turned_16 rfl ?_
    refine q_if_eq (tgt := 27) dX4_turned_17 (by decide) (fun h => absurd h (by decide)) (fun _ => ?_)
    refine q_aload_n dX4_turned_20 rfl rfl ?_
    refine q_get dX4_turned_21 fl_X4_15 hu rfl ?_
    refine q_goto (tgt := 31) dX4_turned_24 (by decide) ?_
    refine q_iload_n dX4_turned_31 rfl ?_
    refine q_if_eq (tgt := 42) dX4_turned_32 (by decide) (fun h => absurd h (by decide)) (fun _ => ?_)
    refine q_aload_n dX4_turned_35 rfl rfl ?_
    refine q_get dX4_turned_36 fl_X4_9 hu rfl ?_
    refine q_goto (tgt := 46) dX4_turned_39 (by decide) ?_
    refine q_aload_n dX4_turned_46 rfl rfl ?_
    refine q_get dX4_turned_47 fl_X4_18 hu rfl ?_
    refine q_ii (As := [_, _, _]) dX4_turned_50 ml_X4_68 mt_X4_init rfl mi_X4_init rfl rfl (Nat.le_of_ble_eq_true rfl) (Nat.le_of_ble_eq_true rfl) (by omega) (by omega) (Nat.le_of_ble_eq_true rfl) (q_C.mono (c_X4_init hv hz.2.2.1 hz.2.1 (by omega)) (fun v G sz1 hq => ?_))
    obtain ⟨rfl, rfl, hN, hPN⟩ := hq
    have hP := hP.fr (fun b b1 b2 => hN b (by omega))
    have hu := hP.1
    have hF : ∀ b, b < sz → G b = G0 b := fun b hb => (hN b (by omega)).trans (hF b hb)
    rw [← hw, ← hh] at hPN
    rw [show sz + 3 + 4 * (A 2 p + A 1 p) = sz + 3 + 4 * ((tn_w A p how) + (tn_h A p how)) by omega]
    refine s_astore_n dX4_turned_53 (by decide) rfl rfl ?_
    refine q_iconst (v := nI 0) dX4_turned_54 (by decide) ?_
    refine s_istore dX4_turned_55 (by decide) rfl ?_
    exact l_turned hz hho (by omega) (fun G h1 h2 => ⟨rfl, rfl, h2, h1⟩) _ 0 G _ rfl (Nat.zero_le _) hP (hPN.R _) hF
