/-! THE FACE: hint, state -/
theorem ln_K_one {c l : Nat → Nat} {n L : Nat} {may : Nat → Nat} (hl : ∀ i, i < n → 1 ≤ l i) (hc : ∀ i, i < n → c i ≤ 3) {i : Nat} (hi : i < L) (hm : may i < 16) (hw : 0 < ln_W c l n L may) : 1 ≤ ln_K c l n L may i := by
  obtain ⟨q, hq⟩ := (pl_W_pos hl (show i + 1 ≤ L by omega)).mp hw
  have hcol : ∀ m q, (∀ i, i < m → c i ≤ 3) → pl_col c l m q ≤ 3 := by
    intro m
    induction m with
    | zero => intro q _; exact Nat.zero_le _
    | succ m ih =>
      intro q hq
      show (if _ then c m else pl_col c l m q) ≤ 3
      split
      · exact hq m (by omega)
      · exact ih q (fun i h => hq i (by omega))
  have hb := (pl_K_bit hl hc hi (show pl_col c l n q < 4 by have := hcol n q hc; omega) hm).mpr ⟨q, hq, rfl⟩
  rcases Nat.eq_zero_or_pos (ln_K c l n L may i) with h | h
  · rw [h, Nat.zero_testBit] at hb; cases hb
  · exact h
/-- what the walks over a game's lines know -/
def Adv (T : q_T) (X : Nat) (G0 G : q_G) (S : Nat → Nat) : Prop := Scn T G (X + 7) ∧ G (X + 4) = some (q_ia T 100 (fun i => nI (S i))) ∧ ∀ b, b ≠ X + 4 ∧ b ≠ X + 8 ∧ b ≠ X + 9 → G b = G0 b

set_option maxHeartbeats 4000000 in
set_option maxRecDepth 100000 in
theorem l_broken {T : q_T} {G0 : q_G} {sz X t g : Nat} {I : md_I} {A : md_A} {pa gq lv O : Nat → Nat} {m vb : Nat} {S1 : Nat → Nat} {E : q_E} (R : Rep T X I A G0 sz pa gq lv O m vb) (hI : Inv t I A) (hg : g < I 7) (hon : pz_on A (A 19 g) S1 (gm_S A g)) (hE : ∀ G, Adv T X G0 G S1 → E (some (.int (nI (gm_broken A g)))) G sz) : ∀ (mZ : Nat) (k bn : Nat) (G : q_G), mZ = A 1 (A 19 g) + A 2 (A 19 g) - k → (k ≤ A 1 (A 19 g) + A 2 (A 19 g)) → (bn = ln_sum (fun l => if pz_W A (A 19 g) l (gm_S A g) = 0 then 1 else 0) 0 k) → (Adv T X G0 G S1) → q_R T mX8_brokenLines 2 50 21 [some (.ref X), some (.ref (gq g)), some (.ref (pa (A 19 g) + 1)), some (.int (nI bn)), some (.int (nI k))] [] G sz 0 0 E := by
  intro mZ
  induction mZ using Nat.strongRecOn with | ind mZ ih => ?_
  intro k bn G hm hkl hb hA
  obtain ⟨hgeo, hX, hcP, hcG, hcan, hscr, hsht, hscn, hstl, hsea, hpic, hlvs, hgra, hgs1, hgs2, hPz, hGm⟩ := id R
  have hgX := hgeo.1
  have hI0 := hI.1
  have hI7 := hI.2.2.2.2.1
  obtain ⟨hp, gM, gC, gB, gA, hGam, hgm, hgc⟩ := hGm g hg
  obtain ⟨hgo, hgM, hgC, hgB, hgA⟩ := id hGam
  have hgi := hI.2.2.2.2.2.1 g hg
  have hz := (hI.2.1 (A 19 g) hp).1
  obtain ⟨hPl, Fd, hd, hFd⟩ := hPz (A 19 g) hp
  have hu := hPl.1
  obtain ⟨fL, hls, hfL⟩ := hPl.2.1
  have hwh := pz_size hz
  have hb10 := hz.2
  have hgp := hgeo.2.2.1 _ hp
  have hgg := hgeo.2.2.2.1 g hg
  have hgpg := Geo.ap (n := 5) (n' := 3 + 4 * (A 1 (A 19 g) + A 2 (A 19 g))) (fun b b1 b2 => hgg.2.2 b b1 b2) (fun b b1 b2 => hgp.2.2 b b1 (by omega)) (by omega) (by omega) (by omega)
  have hps1 := pz_on_ps hon.symm (gm_S_lt hI hg)
  obtain ⟨hscn1, hs1, hF⟩ := hA
  have hX := (hF _ (by omega)).trans hX
  have hgo := (hF _ (by omega)).trans hgo
  have hgM := (hF _ (by omega)).trans hgM
  have hls := (hF _ (by omega)).trans hls
  refine q_iload dX8_brokenLines_21 rfl ?_
  refine q_aload_n dX8_brokenLines_23 rfl rfl ?_
  refine q_alen (t := 6) (v := nI (A 1 (A 19 g) + A 2 (A 19 g))) dX8_brokenLines_24 hls rfl rfl ?_
  refine n_icmp_ge (tgt := 55) dX8_brokenLines_25 (by decide) (by omega) (by omega) (fun c25 => ?_) (fun c25 => ?_)
  · obtain rfl : k = A 1 (A 19 g) + A 2 (A 19 g) := by omega
    refine q_iload_n dX8_brokenLines_55 rfl ?_
    exact q_ireturn dX8_brokenLines_56 rfl rfl (by rw [hb]; exact hE G ⟨hscn1, hs1, hF⟩)
  · have hk : k < A 1 (A 19 g) + A 2 (A 19 g) := c25
    refine q_aload_n dX8_brokenLines_28 rfl rfl ?_
    refine q_get dX8_brokenLines_29 fl_X8_38 hX rfl ?_
    refine q_aload_n dX8_brokenLines_32 rfl rfl ?_
    refine q_iload dX8_brokenLines_33 rfl ?_
    refine q_aaload (t := 6) (v := .ref (pa (A 19 g) + 2 + 4 * k)) dX8_brokenLines_35 hls rfl rfl (by omega) (by omega) (congrArg va_rf (hfL k hk)) ?_
    refine q_aload_n dX8_brokenLines_36 rfl rfl ?_
    refine q_get dX8_brokenLines_37 fl_X8_25 hX rfl ?_
    have hLk := (hPl.2.2 k hk).fr (fun b b1 b2 => hF b (by omega))
    refine q_iv (As := [_, _]) dX8_brokenLines_40 ml_X8_270 mt_X5_weigh mi_X5_weigh se_X5_weigh hscn1.1 rfl rfl (Nat.le_of_ble_eq_true rfl) (Nat.le_of_ble_eq_true rfl) (Nat.zero_le _) (Nat.zero_le _) (Nat.le_of_ble_eq_true rfl) (q_C.mono (c_X5_weigh hscn1 hLk hs1 (by omega) (by omega) (by omega) (fun i hi => by rw [li_cell]; exact ⟨Nat.lt_of_lt_of_le (pz_cell_lt hz hk hi) hwh, hps1 _ (pz_cell_lt hz hk hi)⟩)) (fun v G1 sz1 hq => ?_))
    obtain ⟨rfl, hN, hv, K1, R1, hk1, hr1⟩ := hq
    have hmay : (fun i => S1 (li_fi (A 1 (A 19 g)) (A 2 (A 19 g)) k + i * li_sr (A 1 (A 19 g)) (A 2 (A 19 g)) k)) = (fun j => S1 (pz_cell A (A 19 g) k j)) := funext fun i => by rw [li_cell]; rfl
    rw [hmay] at hv
    have hWo := pz_on_W hz hk hon
    have hA1 : Adv T X G0 G1 S1 := ⟨⟨(hN _ (by omega)).trans hscn1.1, ⟨K1, hk1⟩, ⟨R1, hr1⟩, hscn1.2.2.2.imp (fun Y hY => (hN _ (by omega)).trans hY)⟩, (hN _ (by omega)).trans hs1, fun b hb => (hN b (by omega)).trans (hF b hb)⟩
    rcases hv with ⟨hv, rfl⟩ | ⟨hv, rfl, K2, hk2, hK2⟩
    · have hv : pz_W A (A 19 g) k S1 = 0 := hv
      rw [hWo] at hv
      refine q_if_ne (tgt := 49) dX8_brokenLines_43 (by decide) (fun h => absurd h (by decide)) (fun _ => ?_)
      refine s_iinc dX8_brokenLines_46 rfl (s_inc1 _) (by decide) rfl ?_
      refine s_iinc dX8_brokenLines_49 rfl (s_inc1 _) (by decide) rfl ?_
      refine q_goto (tgt := 21) dX8_brokenLines_52 (by decide) ?_
      exact ih _ (by omega) (k + 1) _ G1 rfl (by omega) (by rw [ln_sum_snoc, hb, Nat.zero_add, if_pos hv]) hA1
    · have hv1 : 0 < pz_W A (A 19 g) k S1 := hv
      have hv := hv1
      rw [hWo] at hv
      refine q_if_ne (tgt := 49) dX8_brokenLines_43 (by decide) (fun _ => ?_) (fun h => absurd h (by decide))
      refine s_iinc dX8_brokenLines_49 rfl (s_inc1 _) (by decide) rfl ?_
      refine q_goto (tgt := 21) dX8_brokenLines_52 (by decide) ?_
      exact ih _ (by omega) (k + 1) _ G1 rfl (by omega) (by rw [ln_sum_snoc, hb, Nat.zero_add, if_neg (by omega), Nat.add_zero]) hA1

set_option maxHeartbeats 4000000 in
set_option maxRecDepth 100000 in
theorem c_X8_brokenLines {T : q_T} {G0 : q_G} {sz X t g : Nat} {I : md_I} {A : md_A} {pa gq lv O : Nat → Nat} {m vb : Nat} (R : Rep T X I A G0 sz pa gq lv O m vb) (hI : Inv t I A) (hg : g < I 7) : q_C T mX8_brokenLines 2 50 0 0 [.ref X, .ref (gq g)] G0 sz (fun v G' sz' => sz = sz' ∧ v = some (.int (nI (gm_broken A g))) ∧ ∃ S1, Adv T X G0 G' S1) := by
  refine q_C.of (by decide) rfl (by simp [Value.category]) (Nat.le_of_ble_eq_true rfl) ?_
  obtain ⟨hgeo, hX, hcP, hcG, hcan, hscr, hsht, hscn, hstl, hsea, hpic, hlvs, hgra, hgs1, hgs2, hPz, hGm⟩ := id R
  have hgX := hgeo.1
  have hI0 := hI.1
  have hI7 := hI.2.2.2.2.1
  obtain ⟨hp, gM, gC, gB, gA, hGam, hgm, hgc⟩ := hGm g hg
  obtain ⟨hgo, hgM, hgC, hgB, hgA⟩ := id hGam
  have hgi := hI.2.2.2.2.2.1 g hg
  have hz := (hI.2.1 (A 19 g) hp).1
  obtain ⟨hPl, Fd, hd, hFd⟩ := hPz (A 19 g) hp
  have hu := hPl.1
  obtain ⟨fL, hls, hfL⟩ := hPl.2.1
  have hwh := pz_size hz
  have hb10 := hz.2
  have hgp := hgeo.2.2.1 _ hp
  have hgg := hgeo.2.2.2.1 g hg
  have hgpg := Geo.ap (n := 5) (n' := 3 + 4 * (A 1 (A 19 g) + A 2 (A 19 g))) (fun b b1 b2 => hgg.2.2 b b1 b2) (fun b b1 b2 => hgp.2.2 b b1 (by omega)) (by omega) (by omega) (by omega)
  refine q_aload_n dX8_brokenLines_0 rfl rfl ?_
  refine q_aload_n dX8_brokenLines_1 rfl rfl ?_
  refine q_get dX8_brokenLines_2 fl_X8_25 hX rfl ?_
  obtain ⟨F0, hF0⟩ := hscr
  refine q_iv (As := [_]) dX8_brokenLines_5 ml_X8_267 mt_X0_marksAsSets mi_X0_marksAsSets se_X0_marksAsSets hgo rfl rfl (Nat.le_of_ble_eq_true rfl) (Nat.le_of_ble_eq_true rfl) (Nat.zero_le _) (Nat.zero_le _) (Nat.le_of_ble_eq_true rfl) (q_C.mono (c_X0_marksAsSets hgo hgM hu hF0 hwh ⟨hwh, by omega⟩ (by omega) (fun i hi => by rw [hgm i hi]; exact hgi.2.2.2.2.2.1 i hi) (by omega) (by omega)) (fun v G sz1 hq => ?_))
  obtain ⟨rfl, rfl, ⟨S1, hs1, hS1⟩, hN⟩ := hq
  have hon : pz_on A (A 19 g) S1 (gm_S A g) := fun x hx => by rw [hS1 x hx, hgm x hx]; rfl
  have hA : Adv T X G0 G S1 := ⟨hscn.fr (fun b b1 b2 => hN b (by omega)), hs1, fun b hb => hN b (by omega)⟩
  have hgo := (hN _ (by omega)).trans hgo
  have hu := (hN _ (by omega)).trans hu
  refine q_aload_n dX8_brokenLines_8 rfl rfl ?_
  refine q_get dX8_brokenLines_9 fl_X8_212 hgo rfl ?_
  refine q_get dX8_brokenLines_12 fl_X8_190 hu rfl ?_
  refine s_astore_n dX8_brokenLines_15 (by decide) rfl rfl ?_
  refine q_iconst (v := nI 0) dX8_brokenLines_16 (by decide) ?_
  refine s_istore_n dX8_brokenLines_17 (by decide) rfl ?_
  refine q_iconst (v := nI 0) dX8_brokenLines_18 (by decide) ?_
  refine s_istore dX8_brokenLines_19 (by decide) rfl ?_
  exact l_broken R hI hg hon (fun G hA => ⟨rfl, rfl, S1, hA⟩) _ 0 0 G rfl (Nat.zero_le _) rfl hA

set_option maxHeartbeats 4000000 in
set_option maxRecDepth 100000 in
theorem l_adv_i {T : q_T} {G0 : q_G} {sz X t g : Nat} {I : md_I} {A : md_A} {pa gq lv O : Nat → Nat} {m vb : Nat} {S1 : Nat → Nat} {E : q_E} (R : Rep T X I A G0 sz pa gq lv O m vb) (hI : Inv t I A) (hg : g < I 7) (hon : pz_on A (A 19 g) S1 (gm_S A g)) {G : q_G} {k : Nat} {K : Nat → Nat} (hA : Adv T X G0 G S1) (hk : k < A 1 (A 19 g) + A 2 (A 19 g)) (hkp : G (X + 8) = some (q_ia T 10 (fun i => nI (K i)))) (hK : ∀ i, i < pz_L A (A 19 g) k → K i = pz_K A (A 19 g) k (gm_S A g) i) (hKp : ∀ i, i < pz_L A (A 19 g) k → 1 ≤ pz_K A (A 19 g) k (gm_S A g) i) (hx : ∀ x5, (∀ j, j < pz_L A (A 19 g) k → ¬ gm_hit A g k j) → q_R T mX8_adviceFor 2 50 122 [some (.ref X), some (.ref (gq g)), some (.ref (pa (A 19 g) + 1)), some (.int (nI k)), some (.int (nI (pz_L A (A 19 g) k))), x5] [] G sz 0 0 E) (hE : ∀ i, i < pz_L A (A 19 g) k → (∀ j, j < i → ¬ gm_hit A g k j) → gm_hit A g k i → E (some (.int (nI (4 * pz_cell A (A 19 g) k i + pz_log (pz_K A (A 19 g) k (gm_S A g) i))))) G sz) : ∀ (mZ : Nat) (i : Nat) (x5 : Option Value), mZ = pz_L A (A 19 g) k - i → (i ≤ pz_L A (A 19 g) k) → (∀ j, j < i → ¬ gm_hit A g k j) → q_R T mX8_adviceFor 2 50 49 [some (.ref X), some (.ref (gq g)), some (.ref (pa (A 19 g) + 1)), some (.int (nI k)), some (.int (nI i)), x5] [] G sz 0 0 E := by
  intro mZ
  induction mZ using Nat.strongRecOn with | ind mZ ih => ?_
  intro i x5 hm hi hno
  obtain ⟨hgeo, hX, hcP, hcG, hcan, hscr, hsht, hscn, hstl, hsea, hpic, hlvs, hgra, hgs1, hgs2, hPz, hGm⟩ := id R
  have hgX := hgeo.1
  have hI0 := hI.1
  have hI7 := hI.2.2.2.2.1
  obtain ⟨hp, gM, gC, gB, gA, hGam, hgm, hgc⟩ := hGm g hg
  obtain ⟨hgo, hgM, hgC, hgB, hgA⟩ := id hGam
  have hgi := hI.2.2.2.2.2.1 g hg
  have hz := (hI.2.1 (A 19 g) hp).1
  obtain ⟨hPl, Fd, hd, hFd⟩ := hPz (A 19 g) hp
  have hu := hPl.1
  obtain ⟨fL, hls, hfL⟩ := hPl.2.1
  have hwh := pz_size hz
  have hb10 := hz.2
  have hgp := hgeo.2.2.1 _ hp
  have hgg := hgeo.2.2.2.1 g hg
  have hgpg := Geo.ap (n := 5) (n' := 3 + 4 * (A 1 (A 19 g) + A 2 (A 19 g))) (fun b b1 b2 => hgg.2.2 b b1 b2) (fun b b1 b2 => hgp.2.2 b b1 (by omega)) (by omega) (by omega) (by omega)
  have hps1 := pz_on_ps hon.symm (gm_S_lt hI hg)
  obtain ⟨hscn1, hs1, hF⟩ := hA
  have hX := (hF _ (by omega)).trans hX
  have hgo := (hF _ (by omega)).trans hgo
  have hgM := (hF _ (by omega)).trans hgM
  have hls := (hF _ (by omega)).trans hls
  have hL10 := pz_L_le (ln := k) hz
  obtain ⟨gg0, gj0, ge0, lC0, lL0, lP0, hlk, -⟩ := (hPl.2.2 k hk).fr (fun b b1 b2 => hF b (by omega))
  refine q_iload dX8_adviceFor_49 rfl ?_
  refine q_aload_n dX8_adviceFor_51 rfl rfl ?_
  refine q_iload_n dX8_adviceFor_52 rfl ?_
  refine q_aaload (t := 6) (v := .ref (pa (A 19 g) + 2 + 4 * k)) dX8_adviceFor_53 hls rfl rfl (by omega) (by omega) (congrArg va_rf (hfL k hk)) ?_
  refine q_get dX8_adviceFor_54 fl_X8_274 hlk rfl ?_
  refine n_icmp_ge (tgt := 122) dX8_adviceFor_57 (by decide) (by omega) (by have := pz_L_le (ln := k) hz; omega) (fun c57 => ?_) (fun c57 => ?_)
  · obtain rfl : i = pz_L A (A 19 g) k := by omega
    exact hx x5 hno
  · have hi2 := c57
    refine q_aload_n dX8_adviceFor_60 rfl rfl ?_
    refine q_iload_n dX8_adviceFor_61 rfl ?_
    refine q_aaload (t := 6) (v := .ref (pa (A 19 g) + 2 + 4 * k)) dX8_adviceFor_62 hls rfl rfl (by omega) (by omega) (congrArg va_rf (hfL k hk)) ?_
    refine q_iload dX8_adviceFor_63 rfl ?_
    refine q_iv (As := [_]) dX8_adviceFor_65 ml_X8_276 mt_X3_cellAt mi_X3_cellAt se_X3_cellAt hlk rfl rfl (Nat.le_of_ble_eq_true rfl) (Nat.le_of_ble_eq_true rfl) (Nat.zero_le _) (Nat.zero_le _) (Nat.le_of_ble_eq_true rfl) (q_C.mono (c_X3_cellAt hlk) (fun v G1 sz1 hq => ?_))
    obtain ⟨rfl, rfl, rfl⟩ := hq
    rw [li_cell]
    have hcl : ln_cell (A 1 (A 19 g)) (A 2 (A 19 g)) k i = pz_cell A (A 19 g) k i := rfl
    rw [hcl]
    refine s_istore dX8_adviceFor_68 (by decide) rfl ?_
    refine q_aload_n dX8_adviceFor_70 rfl rfl ?_
    refine q_get dX8_adviceFor_71 fl_X8_219 hgo rfl ?_
    refine q_iload dX8_adviceFor_74 rfl ?_
    refine w_ldE (k := pz_cell A (A 19 g) k i) (v := A 20 (100 * g + pz_cell A (A 19 g) k i)) dX8_adviceFor_76 hgM rfl (pz_cell_lt hz hk hi2) (by omega) (hgm _ (pz_cell_lt hz hk hi2)) ?_
    refine q_iconst (v := -1) dX8_adviceFor_77 (by decide) ?_
    refine q_icmp_ne (tgt := 116) dX8_adviceFor_78 (by decide) (fun c78 => ?_) (fun c78 => ?_)
    · have hMb := hgi.2.2.2.2.2.1 _ (pz_cell_lt hz hk hi2)
      refine s_iinc dX8_adviceFor_116 rfl (s_inc1 _) (by decide) rfl ?_
      refine q_goto (tgt := 49) dX8_adviceFor_119 (by decide) ?_
      exact ih _ (by omega) (i + 1) _ rfl (by omega) (fun j hj => if e : j = i then (by rw [e]; exact fun h => c78 ((e_m1 (by omega)).mpr h.1)) else hno j (by omega))
    · have hM0 : A 20 (100 * g + pz_cell A (A 19 g) k i) = 0 := (e_m1 (by have := hgi.2.2.2.2.2.1 _ (pz_cell_lt hz hk hi2); omega)).mp c78
      refine q_aload_n dX8_adviceFor_81 rfl rfl ?_
      refine q_get dX8_adviceFor_82 fl_X8_38 hX rfl ?_
      refine q_get dX8_adviceFor_85 fl_X8_280 hscn1.1 rfl ?_
      refine q_iload dX8_adviceFor_88 rfl ?_
      refine w_ld (v := pz_K A (A 19 g) k (gm_S A g) i) dX8_adviceFor_90 hkp rfl (by omega) (by omega) (hK i hi2) ?_
      refine q_is (As := [_]) dX8_adviceFor_91 ml_X8_137 mt_X8_isOne ms_X8_isOne rfl (Nat.le_of_ble_eq_true rfl) (Nat.le_of_ble_eq_true rfl) (Nat.zero_le _) (Nat.zero_le _) (Nat.le_of_ble_eq_true rfl) (q_C.mono (c_X8_isOne (pz_K_lt i)) (fun v G1 sz1 hq => ?_))
      obtain ⟨⟨hq91, rfl⟩ | ⟨hq91, rfl⟩, rfl, rfl⟩ := hq
      · refine q_if_eq (tgt := 116) dX8_adviceFor_94 (by decide) (fun h => absurd h (by decide)) (fun _ => ?_)
        refine q_iconst (v := nI 4) dX8_adviceFor_97 (by decide) ?_
        refine q_iload dX8_adviceFor_98 rfl ?_
        refine q_imul dX8_adviceFor_100 (pk_mul _ _) ?_
        refine q_aload_n dX8_adviceFor_101 rfl rfl ?_
        refine q_get dX8_adviceFor_102 fl_X8_38 hX rfl ?_
        refine q_get dX8_adviceFor_105 fl_X8_280 hscn1.1 rfl ?_
        refine q_iload dX8_adviceFor_108 rfl ?_
        refine w_ld (v := pz_K A (A 19 g) k (gm_S A g) i) dX8_adviceFor_110 hkp rfl (by omega) (by omega) (hK i hi2) ?_
        refine q_is (As := [_]) dX8_adviceFor_111 ml_X8_283 mt_X8_firstOf ms_X8_firstOf rfl (Nat.le_of_ble_eq_true rfl) (Nat.le_of_ble_eq_true rfl) (Nat.zero_le _) (Nat.zero_le _) (Nat.le_of_ble_eq_true rfl) (q_C.mono (c_X8_firstOf (pz_K_lt i) (pop_ne hq91)) (fun v G1 sz1 hq => ?_))
        obtain ⟨⟨k111, hk111, rfl⟩, rfl, rfl⟩ := hq
        refine q_iadd dX8_adviceFor_114 (nI_add _ _) ?_
        exact q_ireturn dX8_adviceFor_115 rfl rfl (by rw [fst_log (pz_K_lt i) hq91 hk111]; exact hE i hi2 hno ⟨hM0, (one_and (pz_K_lt i) (hKp i hi2)).mp hq91⟩)
      · refine q_if_eq (tgt := 116) dX8_adviceFor_94 (by decide) (fun _ => ?_) (fun h => absurd h (by decide))
        refine s_iinc dX8_adviceFor_116 rfl (s_inc1 _) (by decide) rfl ?_
        refine q_goto (tgt := 49) dX8_adviceFor_119 (by decide) ?_
        exact ih _ (by omega) (i + 1) _ rfl (by omega) (fun j hj => if e : j = i then (by rw [e]; exact fun h => hq91 ((one_and (pz_K_lt i) (hKp i hi2)).mpr h.2)) else hno j (by omega))

set_option maxHeartbeats 4000000 in
set_option maxRecDepth 100000 in
theorem l_adv {T : q_T} {G0 : q_G} {sz X t g : Nat} {I : md_I} {A : md_A} {pa gq lv O : Nat → Nat} {m vb : Nat} {S1 : Nat → Nat} {E : q_E} (R : Rep T X I A G0 sz pa gq lv O m vb) (hI : Inv t I A) (hg : g < I 7) (hon : pz_on A (A 19 g) S1 (gm_S A g)) (hE1 : ∀ k G, k < A 1 (A 19 g) + A 2 (A 19 g) → (∀ j, j < k → gm_clean A g j) → pz_W A (A 19 g) k (gm_S A g) = 0 → Adv T X G0 G S1 → E (some (.int (-2 - nI k))) G sz) (hE2 : ∀ k i G, k < A 1 (A 19 g) + A 2 (A 19 g) → (∀ j, j < k → gm_clean A g j) → 0 < pz_W A (A 19 g) k (gm_S A g) → i < pz_L A (A 19 g) k → (∀ j, j < i → ¬ gm_hit A g k j) → gm_hit A g k i → Adv T X G0 G S1 → E (some (.int (nI (4 * pz_cell A (A 19 g) k i + pz_log (pz_K A (A 19 g) k (gm_S A g) i))))) G sz) (hE3 : ∀ G, (∀ j, j < A 1 (A 19 g) + A 2 (A 19 g) → gm_clean A g j) → Adv T X G0 G S1 → E (some (.int (-1))) G sz) : ∀ (mZ : Nat) (k : Nat) (G : q_G) (x4 x5 : Option Value), mZ = A 1 (A 19 g) + A 2 (A 19 g) - k → (k ≤ A 1 (A 19 g) + A 2 (A 19 g)) → (∀ j, j < k → gm_clean A g j) → (Adv T X G0 G S1) → q_R T mX8_adviceFor 2 50 18 [some (.ref X), some (.ref (gq g)), some (.ref (pa (A 19 g) + 1)), some (.int (nI k)), x4, x5] [] G sz 0 0 E := by
  intro mZ
  induction mZ using Nat.strongRecOn with | ind mZ ih => ?_
  intro k G x4 x5 hm hkl hcl hA
  obtain ⟨hgeo, hX, hcP, hcG, hcan, hscr, hsht, hscn, hstl, hsea, hpic, hlvs, hgra, hgs1, hgs2, hPz, hGm⟩ := id R
  have hgX := hgeo.1
  have hI0 := hI.1
  have hI7 := hI.2.2.2.2.1
  obtain ⟨hp, gM, gC, gB, gA, hGam, hgm, hgc⟩ := hGm g hg
  obtain ⟨hgo, hgM, hgC, hgB, hgA⟩ := id hGam
  have hgi := hI.2.2.2.2.2.1 g hg
  have hz := (hI.2.1 (A 19 g) hp).1
  obtain ⟨hPl, Fd, hd, hFd⟩ := hPz (A 19 g) hp
  have hu := hPl.1
  obtain ⟨fL, hls, hfL⟩ := hPl.2.1
  have hwh := pz_size hz
  have hb10 := hz.2
  have hgp := hgeo.2.2.1 _ hp
  have hgg := hgeo.2.2.2.1 g hg
  have hgpg := Geo.ap (n := 5) (n' := 3 + 4 * (A 1 (A 19 g) + A 2 (A 19 g))) (fun b b1 b2 => hgg.2.2 b b1 b2) (fun b b1 b2 => hgp.2.2 b b1 (by omega)) (by omega) (by omega) (by omega)
  have hps1 := pz_on_ps hon.symm (gm_S_lt hI hg)
  obtain ⟨hscn1, hs1, hF⟩ := hA
  have hX := (hF _ (by omega)).trans hX
  have hgo := (hF _ (by omega)).trans hgo
  have hgM := (hF _ (by omega)).trans hgM
  have hls := (hF _ (by omega)).trans hls
  refine q_iload_n dX8_adviceFor_18 rfl ?_
  refine q_aload_n dX8_adviceFor_19 rfl rfl ?_
  refine q_alen (t := 6) (v := nI (A 1 (A 19 g) + A 2 (A 19 g))) dX8_adviceFor_20 hls rfl rfl ?_
  refine n_icmp_ge (tgt := 128) dX8_adviceFor_21 (by decide) (by omega) (by omega) (fun c21 => ?_) (fun c21 => ?_)
  · refine q_iconst (v := -1) dX8_adviceFor_128 (by decide) ?_
    exact q_ireturn dX8_adviceFor_129 rfl rfl (hE3 G (fun j hj => hcl j (by omega)) ⟨hscn1, hs1, hF⟩)
  · have hk : k < A 1 (A 19 g) + A 2 (A 19 g) := c21
    refine q_aload_n dX8_adviceFor_24 rfl rfl ?_
    refine q_get dX8_adviceFor_25 fl_X8_38 hX rfl ?_
    refine q_aload_n dX8_adviceFor_28 rfl rfl ?_
    refine q_iload_n dX8_adviceFor_29 rfl ?_
    refine q_aaload (t := 6) (v := .ref (pa (A 19 g) + 2 + 4 * k)) dX8_adviceFor_30 hls rfl rfl (by omega) (by omega) (congrArg va_rf (hfL k hk)) ?_
    refine q_aload_n dX8_adviceFor_31 rfl rfl ?_
    refine q_get dX8_adviceFor_32 fl_X8_25 hX rfl ?_
    have hLk := (hPl.2.2 k hk).fr (fun b b1 b2 => hF b (by omega))
    refine q_iv (As := [_, _]) dX8_adviceFor_35 ml_X8_270 mt_X5_weigh mi_X5_weigh se_X5_weigh hscn1.1 rfl rfl (Nat.le_of_ble_eq_true rfl) (Nat.le_of_ble_eq_true rfl) (Nat.zero_le _) (Nat.zero_le _) (Nat.le_of_ble_eq_true rfl) (q_C.mono (c_X5_weigh hscn1 hLk hs1 (by omega) (by omega) (by omega) (fun i hi => by rw [li_cell]; exact ⟨Nat.lt_of_lt_of_le (pz_cell_lt hz hk hi) hwh, hps1 _ (pz_cell_lt hz hk hi)⟩)) (fun v G1 sz1 hq => ?_))
    obtain ⟨rfl, hN, hv, K1, R1, hk1, hr1⟩ := hq
    have hmay : (fun i => S1 (li_fi (A 1 (A 19 g)) (A 2 (A 19 g)) k + i * li_sr (A 1 (A 19 g)) (A 2 (A 19 g)) k)) = (fun j => S1 (pz_cell A (A 19 g) k j)) := funext fun i => by rw [li_cell]; rfl
    rw [hmay] at hv
    have hWo := pz_on_W hz hk hon
    have hA1 : Adv T X G0 G1 S1 := ⟨⟨(hN _ (by omega)).trans hscn1.1, ⟨K1, hk1⟩, ⟨R1, hr1⟩, hscn1.2.2.2.imp (fun Y hY => (hN _ (by omega)).trans hY)⟩, (hN _ (by omega)).trans hs1, fun b hb => (hN b (by omega)).trans (hF b hb)⟩
    rcases hv with ⟨hv, rfl⟩ | ⟨hv, rfl, K2, hk2, hK2⟩
    · have hv : pz_W A (A 19 g) k S1 = 0 := hv
      rw [hWo] at hv
      refine q_if_ne (tgt := 46) dX8_adviceFor_38 (by decide) (fun h => absurd h (by decide)) (fun _ => ?_)
      refine q_bipush (v := -2) dX8_adviceFor_41 (by decide) ?_
      refine q_iload_n dX8_adviceFor_43 rfl ?_
      refine q_isub dX8_adviceFor_44 rfl ?_
      exact q_ireturn dX8_adviceFor_45 rfl rfl (hE1 k G1 hk hcl hv hA1)
    · have hv1 : 0 < pz_W A (A 19 g) k S1 := hv
      have hv := hv1
      rw [hWo] at hv
      refine q_if_ne (tgt := 46) dX8_adviceFor_38 (by decide) (fun _ => ?_) (fun h => absurd h (by decide))
      refine q_iconst (v := nI 0) dX8_adviceFor_46 (by decide) ?_
      refine s_istore dX8_adviceFor_47 (by decide) rfl ?_
      obtain ⟨-, -, hrk⟩ := hz.2.2.2.2 k hk
      have hKe : ∀ i, i < pz_L A (A 19 g) k → K2 i = pz_K A (A 19 g) k (gm_S A g) i := fun i hi => (hK2 i hi).trans (pz_on_K hz hk hon i)
      have hKp : ∀ i, i < pz_L A (A 19 g) k → 1 ≤ pz_K A (A 19 g) k (gm_S A g) i := fun i hi => ln_K_one (fun j hj => (hrk j hj).2.2) (fun j hj => by have := (hrk j hj).2.1; omega) hi (gm_S_lt hI hg _ (pz_cell_lt hz hk hi)) hv
      refine l_adv_i R hI hg hon hA1 hk hk2 hKe hKp (fun x5 hno => ?_) (fun i h1 h2 h3 => hE2 k i G1 hk hcl hv h1 h2 h3 hA1) _ 0 _ rfl (Nat.zero_le _) (fun _ h => absurd h (Nat.not_lt_zero _))
      refine s_iinc dX8_adviceFor_122 rfl (s_inc1 _) (by decide) rfl ?_
      refine q_goto (tgt := 18) dX8_adviceFor_125 (by decide) ?_
      exact ih _ (by omega) (k + 1) G1 _ _ rfl (by omega) (fun j hj => if e : j = k then (by rw [e]; exact ⟨hv, hno⟩) else hcl j (by omega)) hA1

set_option maxHeartbeats 4000000 in
set_option maxRecDepth 100000 in
theorem c_X8_adviceFor {T : q_T} {G0 : q_G} {sz X t g : Nat} {I : md_I} {A : md_A} {pa gq lv O : Nat → Nat} {m vb : Nat} (R : Rep T X I A G0 sz pa gq lv O m vb) (hI : Inv t I A) (hg : g < I 7) : q_C T mX8_adviceFor 2 50 0 0 [.ref X, .ref (gq g)] G0 sz (fun v G' sz' => sz = sz' ∧ (∃ S1, Adv T X G0 G' S1) ∧ ∃ z, v = some (.int z) ∧ ((∃ l, l < A 1 (A 19 g) + A 2 (A 19 g) ∧ (∀ i, i < l → gm_clean A g i) ∧ pz_W A (A 19 g) l (gm_S A g) = 0 ∧ z = -2 - nI l) ∨ (∃ l k, l < A 1 (A 19 g) + A 2 (A 19 g) ∧ (∀ i, i < l → gm_clean A g i) ∧ 0 < pz_W A (A 19 g) l (gm_S A g) ∧ k < pz_L A (A 19 g) l ∧ (∀ i, i < k → ¬ gm_hit A g l i) ∧ gm_hit A g l k ∧ z = nI (4 * pz_cell A (A 19 g) l k + pz_log (pz_K A (A 19 g) l (gm_S A g) k))) ∨ ((∀ i, i < A 1 (A 19 g) + A 2 (A 19 g) → gm_clean A g i) ∧ z = -1))) := by
  refine q_C.of (by decide) rfl (by simp [Value.category]) (Nat.le_of_ble_eq_true rfl) ?_
  obtain ⟨hgeo, hX, hcP, hcG, hcan, hscr, hsht, hscn, hstl, hsea, hpic, hlvs, hgra, hgs1, hgs2, hPz, hGm⟩ := id R
  have hgX := hgeo.1
  have hI0 := hI.1
  have hI7 := hI.2.2.2.2.1
  obtain ⟨hp, gM, gC, gB, gA, hGam, hgm, hgc⟩ := hGm g hg
  obtain ⟨hgo, hgM, hgC, hgB, hgA⟩ := id hGam
  have hgi := hI.2.2.2.2.2.1 g hg
  have hz := (hI.2.1 (A 19 g) hp).1
  obtain ⟨hPl, Fd, hd, hFd⟩ := hPz (A 19 g) hp
  have hu := hPl.1
  obtain ⟨fL, hls, hfL⟩ := hPl.2.1
  have hwh := pz_size hz
  have hb10 := hz.2
  have hgp := hgeo.2.2.1 _ hp
  have hgg := hgeo.2.2.2.1 g hg
  have hgpg := Geo.ap (n := 5) (n' := 3 + 4 * (A 1 (A 19 g) + A 2 (A 19 g))) (fun b b1 b2 => hgg.2.2 b b1 b2) (fun b b1 b2 => hgp.2.2 b b1 (by omega)) (by omega) (by omega) (by omega)
  refine q_aload_n dX8_adviceFor_0 rfl rfl ?_
  refine q_aload_n dX8_adviceFor_1 rfl rfl ?_
  refine q_get dX8_adviceFor_2 fl_X8_25 hX rfl ?_
  obtain ⟨F0, hF0⟩ := hscr
  refine q_iv (As := [_]) dX8_adviceFor_5 ml_X8_267 mt_X0_marksAsSets mi_X0_marksAsSets se_X0_marksAsSets hgo rfl rfl (Nat.le_of_ble_eq_true rfl) (Nat.le_of_ble_eq_true rfl) (Nat.zero_le _) (Nat.zero_le _) (Nat.le_of_ble_eq_true rfl) (q_C.mono (c_X0_marksAsSets hgo hgM hu hF0 hwh ⟨hwh, by omega⟩ (by omega) (fun i hi => by rw [hgm i hi]; exact hgi.2.2.2.2.2.1 i hi) (by omega) (by omega)) (fun v G sz1 hq => ?_))
  obtain ⟨rfl, rfl, ⟨S1, hs1, hS1⟩, hN⟩ := hq
  have hon : pz_on A (A 19 g) S1 (gm_S A g) := fun x hx => by rw [hS1 x hx, hgm x hx]; rfl
  have hA : Adv T X G0 G S1 := ⟨hscn.fr (fun b b1 b2 => hN b (by omega)), hs1, fun b hb => hN b (by omega)⟩
  have hgo := (hN _ (by omega)).trans hgo
  have hu := (hN _ (by omega)).trans hu
  refine q_aload_n dX8_adviceFor_8 rfl rfl ?_
  refine q_get dX8_adviceFor_9 fl_X8_212 hgo rfl ?_
  refine q_get dX8_adviceFor_12 fl_X8_190 hu rfl ?_
  refine s_astore_n dX8_adviceFor_15 (by decide) rfl rfl ?_
  refine q_iconst (v := nI 0) dX8_adviceFor_16 (by decide) ?_
  refine s_istore_n dX8_adviceFor_17 (by decide) rfl ?_
  exact l_adv R hI hg hon (fun k G h1 h2 h3 hA => ⟨rfl, ⟨S1, hA⟩, _, rfl, Or.inl ⟨k, h1, h2, h3, rfl⟩⟩) (fun k i G h1 h2 h3 h4 h5 h6 hA => ⟨rfl, ⟨S1, hA⟩, _, rfl, Or.inr (Or.inl ⟨k, i, h1, h2, h3, h4, h5, h6, rfl⟩)⟩) (fun G h1 hA => ⟨rfl, ⟨S1, hA⟩, _, rfl, Or.inr (Or.inr ⟨h1, rfl⟩)⟩) _ 0 G _ _ rfl (Nat.zero_le _) (fun _ h => absurd h (Nat.not_lt_zero _)) hA
