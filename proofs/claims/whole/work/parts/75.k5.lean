/-! THE CLASS: a puzzle at u, its lines at u + 2 + 4 k; letting sets settle -/
def li_fi (w h ln : Nat) : Nat := if ln < h then ln * w else ln - h
def li_sr (w h ln : Nat) : Nat := if ln < h then 1 else w
theorem li_cell (w h ln i : Nat) : li_fi w h ln + i * li_sr w h ln = ln_cell w h ln i := by
  unfold li_fi li_sr ln_cell
  split
  · rw [Nat.mul_one]
  · omega
def LinP (T : q_T) (G : q_G) (a : Nat) (A : md_A) (p ln : Nat) : Prop := Lin T G a (li_fi (A 1 p) (A 2 p) ln) (li_sr (A 1 p) (A 2 p) ln) (pz_L A p ln) (pz_cr A p ln) (pz_c A p ln) (pz_l A p ln) (pz_n A p ln)
abbrev pu_ob (u w h c D z : Nat) : List Value := [.int (nI w), .int (nI h), .int (nI c), .int (nI (w * h)), .ref (u + 1), .ref D, .int (nI z)]
def PuzL (T : q_T) (G : q_G) (u : Nat) (A : md_A) (p D : Nat) : Prop := G u = some (q_ob 5 (pu_ob u (A 1 p) (A 2 p) (A 3 p) D (A 4 p))) ∧ (∃ f : Nat → Option Nat, G (u + 1) = some (q_ra T 6 (A 1 p + A 2 p) f) ∧ ∀ k, k < A 1 p + A 2 p → f k = some (u + 2 + 4 * k)) ∧ ∀ ln, ln < A 1 p + A 2 p → LinP T G (u + 2 + 4 * ln) A p ln
theorem PuzL.fr {T : q_T} {G G' : q_G} {u : Nat} {A : md_A} {p D : Nat} (h : PuzL T G u A p D) (hF : ∀ b, u ≤ b → b < u + 2 + 4 * (A 1 p + A 2 p) → G' b = G b) : PuzL T G' u A p D := by
  obtain ⟨h1, ⟨f, h2, h3⟩, h4⟩ := h
  exact ⟨(hF _ (by omega) (by omega)).trans h1, ⟨f, (hF _ (by omega) (by omega)).trans h2, h3⟩, fun ln hl => (h4 ln hl).fr (fun b b1 b2 => hF b (by omega) (by omega))⟩
theorem pz_cr_le {A : md_A} {p ln : Nat} (hz : Pz A p) : pz_cr A p ln + pz_L A p ln ≤ 20 := by
  have := hz.2.1.2; have := hz.2.2.1.2
  unfold pz_cr pz_L
  split <;> omega
theorem pz_cr_lt {A : md_A} {p ln k : Nat} (hk : k < pz_L A p ln) : pz_cr A p ln + k < A 1 p + A 2 p := by
  unfold pz_cr
  unfold pz_L at hk
  split at hk
  · next h => rw [if_pos h]; omega
  · next h => rw [if_neg h]; omega
theorem li_sr_pos {A : md_A} {p ln : Nat} (hz : Pz A p) : 1 ≤ li_sr (A 1 p) (A 2 p) ln := by
  have := hz.2.1.1
  unfold li_sr
  split <;> omega
def wt_off (W k : Nat) : Nat := W &&& ((2 ^ 20 - 1) ^^^ 1 <<< k)
theorem wt_bit {W : Nat} (hW : W < 2 ^ 20) (k q : Nat) : (wt_off W k).testBit q = (W.testBit q && decide (q ≠ k)) := by
  unfold wt_off
  rw [Nat.testBit_and, Nat.testBit_xor, Bt.one k q, Nat.testBit_two_pow_sub_one]
  by_cases h : q < 20
  · rw [decide_eq_true h]
    by_cases h2 : q = k <;> simp [h2]
  · rw [Nat.testBit_lt_two_pow (Nat.lt_of_lt_of_le hW (Nat.pow_le_pow_right (by decide) (by omega)))]
    rfl
theorem wt_lt {W : Nat} (hW : W < 2 ^ 20) (k : Nat) : wt_off W k < 2 ^ 20 := Nat.lt_of_le_of_lt Nat.and_le_left hW
theorem wt_i {W k : Nat} (hW : W < 2 ^ 20) (hk : k < 20) : nI W &&& (nI (1 <<< k) ^^^ (-1)) = nI (wt_off W k) := by
  apply Int32.toBitVec_inj.mp
  show BitVec.ofNat 32 W &&& (BitVec.ofNat 32 (1 <<< k) ^^^ BitVec.allOnes 32) = BitVec.ofNat 32 (wt_off W k)
  apply BitVec.eq_of_getLsbD_eq
  intro i hi
  rw [BitVec.getLsbD_and, BitVec.getLsbD_xor, BitVec.getLsbD_ofNat, BitVec.getLsbD_ofNat, BitVec.getLsbD_ofNat, BitVec.getLsbD_allOnes, wt_bit hW, Bt.one k i]
  by_cases h2 : i = k <;> simp [h2, hi]
theorem nI_nm2 {n : Nat} (h : n < 2 ^ 31) : ¬ nI n = -2 := fun e => by
  have h1 := congrArg Int32.toInt e
  rw [nI_toInt h] at h1
  have h2 : (-2 : Int32).toInt = -2 := by decide
  omega
/-- the lines that don't wait are at rest -/
def Wt (A : md_A) (p W : Nat) (S : Nat → Nat) : Prop := W < 2 ^ 20 ∧ (∀ q, W.testBit q = true → q < A 1 p + A 2 p) ∧ ∀ k, k < A 1 p + A 2 p → W.testBit k = false → Rst A p S k
theorem Wt.step {A : md_A} {p W W1 k : Nat} {S : Nat → Nat} (h : Wt A p W S) (hz : Pz A p) (hk : k < A 1 p + A 2 p) (hs : Ps A p S) (hw : 0 < pz_W A p k S) (h1 : W1 < 2 ^ 20) (hb : ∀ q, (W1.testBit q = true ↔ (wt_off W k).testBit q = true ∨ ∃ i, i < pz_L A p k ∧ q = pz_cr A p k + i ∧ ln_df (S (pz_cell A p k i)) (pz_K A p k S i) ≠ 0)) : Wt A p W1 (pz_stp A p k S) := by
  obtain ⟨a1, a2, a3⟩ := h
  refine ⟨h1, fun q hq => ?_, fun j hj hjb => ?_⟩
  · rcases (hb q).mp hq with g | ⟨i, hi, rfl, -⟩
    · rw [wt_bit a1, Bool.and_eq_true] at g
      exact a2 q g.1
    · exact pz_cr_lt hi
  · by_cases hjk : j = k
    · subst hjk
      exact Rst.own hz hk hs hw
    · have hno : ¬ ((wt_off W k).testBit j = true ∨ ∃ i, i < pz_L A p k ∧ j = pz_cr A p k + i ∧ ln_df (S (pz_cell A p k i)) (pz_K A p k S i) ≠ 0) := fun g => by
        rw [(hb j).mpr g] at hjb
        cases hjb
      have hjW : W.testBit j = false := by
        rw [← Bool.not_eq_true]
        intro g
        exact hno (Or.inl (by rw [wt_bit a1, g, decide_eq_true hjk]; rfl))
      refine Rst.other hz hj hk hs hjk (a3 j hj hjW) (fun i hi e => ?_)
      rcases Nat.eq_zero_or_pos (ln_df (S (pz_cell A p k i)) (pz_K A p k S i)) with g | g
      · exact g
      · exact absurd (Or.inr ⟨i, hi, e, by omega⟩) hno
theorem Wt.zero {A : md_A} {p : Nat} {S : Nat → Nat} (h : Wt A p 0 S) : ∀ k, k < A 1 p + A 2 p → Rst A p S k := fun k hk => h.2.2 k hk (Nat.zero_testBit k)
def wz (W : Nat) : Nat := if W = 0 then 0 else 1
theorem wz_le (W : Nat) : wz W ≤ 1 := by
  unfold wz
  split <;> omega
theorem wz_0 : wz 0 = 0 := rfl
theorem wz_pos {W : Nat} (h : ¬ W = 0) : wz W = 1 := if_neg h
/-- what bringToRest's walk knows -/
def Bst (T : q_T) (G0 : q_G) (s u b N D : Nat) (A : md_A) (p : Nat) (G : q_G) (W : Nat) (S : Nat → Nat) : Prop := Scn T G s ∧ G (s + 4) = some (q_ob 8 [.ref s, .int (nI W)]) ∧ PuzL T G u A p D ∧ G b = some (q_ia T N (fun i => nI (S i))) ∧ ∀ x, x ≠ s + 1 ∧ x ≠ s + 2 ∧ x ≠ s + 4 ∧ x ≠ b → G x = G0 x

set_option maxHeartbeats 4000000 in
set_option maxRecDepth 100000 in
theorem l_bring_k {T : q_T} {G0 : q_G} {sz s u b N D p R r i : Nat} {A : md_A} {S0 : Nat → Nat} {E : q_E} (hz : Pz A p) (hN1 : A 1 p * A 2 p ≤ N ∧ N ≤ 1000) (hsu : s + 5 ≤ u) (hdb : b < s ∨ s + 5 ≤ b) (hdu : b < u ∨ u + 2 + 4 * (A 1 p + A 2 p) ≤ b) (hx : ∀ gn W S1 G x8, (Ps A p S1) → (∃ S2, pz_rd A p (A 1 p + A 2 p) S0 = some (S2, gn) ∧ pz_on A p S1 S2) → (Wt A p W S1) → (gn = 0 → S1 = S0 ∧ ∀ q, W.testBit q = true → (A 1 p + A 2 p) ≤ q) → (Bst T G0 s u b N D A p G W S1) → q_R T mX7_bringToRest 3 76 108 [some (.ref (s + 4)), some (.ref u), some (.ref b), some (.int (nI R)), some (.int (nI r)), some (.int (nI i)), some (.int (nI gn)), some (.int (nI (A 1 p + A 2 p))), x8] [] G sz 0 0 E) (hBr : ∀ W S1 G, pz_rd A p (A 1 p + A 2 p) S0 = none → Bst T G0 s u b N D A p G W S1 → E (some (.int (-2))) G sz) : ∀ (mZ : Nat) (k gn W : Nat) (S1 : Nat → Nat) (G : q_G) (x8 : Option Value), mZ = A 1 p + A 2 p - k → (k ≤ A 1 p + A 2 p) → (Ps A p S1) → (∃ S2, pz_rd A p k S0 = some (S2, gn) ∧ pz_on A p S1 S2) → (Wt A p W S1) → (gn = 0 → S1 = S0 ∧ ∀ q, W.testBit q = true → k ≤ q) → (Bst T G0 s u b N D A p G W S1) → q_R T mX7_bringToRest 3 76 31 [some (.ref (s + 4)), some (.ref u), some (.ref b), some (.int (nI R)), some (.int (nI r)), some (.int (nI i)), some (.int (nI gn)), some (.int (nI k)), x8] [] G sz 0 0 E := by
  intro mZ
  induction mZ using Nat.strongRecOn with | ind mZ ih => ?_
  intro k gn W S1 G x8 hm hk hps hrd hW h00 hw
  obtain ⟨hS, hT, hPl, hb, hF⟩ := hw
  have hu := hPl.1
  obtain ⟨fL, hls, hfL⟩ := hPl.2.1
  have hWl := hW.1
  have hw10 := hz.2.1
  have hh10 := hz.2.2.1
  refine q_iload dX7_bringToRest_31 rfl ?_
  refine q_aload_n dX7_bringToRest_33 rfl rfl ?_
  refine q_get dX7_bringToRest_34 fl_X7_47 hu rfl ?_
  refine q_alen (t := 6) (v := nI (A 1 p + A 2 p)) dX7_bringToRest_37 hls rfl rfl ?_
  refine n_icmp_ge (tgt := 108) dX7_bringToRest_38 (by decide) (by omega) (by omega) (fun c38 => ?_) (fun c38 => ?_)
  · obtain rfl : k = A 1 p + A 2 p := by omega
    exact hx gn W S1 G x8 hps hrd hW h00 ⟨hS, hT, hPl, hb, hF⟩
  · refine q_aload_n dX7_bringToRest_41 rfl rfl ?_
    refine q_get dX7_bringToRest_42 fl_X7_15 hT rfl ?_
    refine q_iload dX7_bringToRest_45 rfl ?_
    refine q_iushr dX7_bringToRest_47 (n_ushr (by omega) (by omega)) ?_
    refine q_iconst (v := nI 1) dX7_bringToRest_48 (by decide) ?_
    refine q_iand dX7_bringToRest_49 (n_and _ _) ?_
    refine n_if_ne (tgt := 56) dX7_bringToRest_50 (by decide) (by rw [sb_1]; split <;> decide) (fun c50 => ?_) (fun c50 => ?_)
    · refine q_aload_n dX7_bringToRest_56 rfl rfl ?_
      refine q_dup dX7_bringToRest_57 rfl ?_
      refine q_get dX7_bringToRest_58 fl_X7_15 hT rfl ?_
      refine q_iconst (v := nI 1) dX7_bringToRest_61 (by decide) ?_
      refine q_iload dX7_bringToRest_62 rfl ?_
      refine q_ishl dX7_bringToRest_64 (n_shl (by omega) rfl) ?_
      refine q_iconst (v := -1) dX7_bringToRest_65 (by decide) ?_
      refine q_ixor dX7_bringToRest_66 rfl ?_
      refine q_iand dX7_bringToRest_67 (wt_i hW.1 (by omega)) ?_
      refine w_put (fs2 := [.ref s, .int (nI (wt_off W k))]) dX7_bringToRest_68 fl_X7_15 fp_X7_15 hT (Nat.le_of_ble_eq_true rfl) rfl rfl rfl (fun G hT hN => ?_)
      have hu := (hN _ (by omega)).trans hu
      have hls := (hN _ (by omega)).trans hls
      have hb := (hN _ (by omega)).trans hb
      have hS := hS.fr (fun b b1 b2 => hN b (by omega))
      have hPl := hPl.fr (fun b b1 b2 => hN b (by omega))
      have hF : ∀ x, x ≠ s + 1 ∧ x ≠ s + 2 ∧ x ≠ s + 4 ∧ x ≠ b → G x = G0 x := fun x hx => (hN x (by omega)).trans (hF x hx)
      refine q_aload_n dX7_bringToRest_71 rfl rfl ?_
      refine q_aload_n dX7_bringToRest_72 rfl rfl ?_
      refine q_get dX7_bringToRest_73 fl_X7_47 hu rfl ?_
      refine q_iload dX7_bringToRest_76 rfl ?_
      refine q_aaload (t := 6) (v := .ref (u + 2 + 4 * k)) dX7_bringToRest_78 hls rfl rfl (by omega) (by omega) (congrArg va_rf (hfL k (by omega))) ?_
      refine q_aload_n dX7_bringToRest_79 rfl rfl ?_
      refine q_iv (As := [_, _]) dX7_bringToRest_80 ml_X7_53 mt_X7_narrow mi_X7_narrow se_X7_narrow hT rfl rfl (Nat.le_of_ble_eq_true rfl) (Nat.le_of_ble_eq_true rfl) (Nat.zero_le _) (Nat.zero_le _) (Nat.le_of_ble_eq_true rfl) (q_C.mono (c_X7_narrow (cl := pz_cell A p k) hT hS (hPl.2.2 k (by omega)) hb (by omega) (by omega) (by omega) (by omega) (by omega) (by omega) hN1.2 (fun i => li_cell _ _ _ _) (li_sr_pos hz) (pz_cr_le hz) (fun i hi => ⟨Nat.lt_of_lt_of_le (pz_cell_lt hz (by omega) hi) hN1.1, hps _ (pz_cell_lt hz (by omega) hi)⟩)) (fun v G sz1 hq => ?_))
      obtain ⟨rfl, hN, ⟨K, R1, hk1, hr1⟩, hv⟩ := hq
      have hS := (⟨(hN _ (by omega)).trans hS.1, ⟨K, hk1⟩, ⟨R1, hr1⟩, hS.2.2.2.imp (fun Y hY => (hN _ (by omega)).trans hY)⟩ : Scn T G s)
      have hu := (hN _ (by omega)).trans hu
      have hls := (hN _ (by omega)).trans hls
      have hPl := hPl.fr (fun b b1 b2 => hN b (by omega))
      have hF : ∀ x, x ≠ s + 1 ∧ x ≠ s + 2 ∧ x ≠ s + 4 ∧ x ≠ b → G x = G0 x := fun x hx => (hN x (by omega)).trans (hF x hx)
      obtain ⟨S2, hrd, ho⟩ := hrd
      have hWo : pz_W A p k S2 = pz_W A p k S1 := pz_on_W hz (by omega) ho.symm
      rcases hv with ⟨hv, rfl, ht1, hb1⟩ | ⟨hv, rfl, hb1, W1, hW1, ht1, hWb⟩
      · have hv : pz_W A p k S1 = 0 := hv
        refine s_istore dX7_bringToRest_83 (by decide) rfl ?_
        refine q_iload dX7_bringToRest_85 rfl ?_
        refine q_bipush (v := -2) dX7_bringToRest_87 (by decide) ?_
        refine q_icmp_ne (tgt := 95) dX7_bringToRest_89 (by decide) (fun h => absurd h (by decide)) (fun _ => ?_)
        refine q_bipush (v := -2) dX7_bringToRest_92 (by decide) ?_
        exact q_ireturn dX7_bringToRest_94 rfl rfl (hBr _ S1 G (by have h1 : pz_rd A p (k + 1) S0 = none := (by rw [pz_rd_s hrd, if_pos (by omega)]); have h2 := pz_rd_none h1 (A 1 p + A 2 p - (k + 1)); rw [show k + 1 + (A 1 p + A 2 p - (k + 1)) = A 1 p + A 2 p by omega] at h2; exact h2) ⟨hS, ht1.trans hT, hPl, hb1.trans hb, hF⟩)
      · have hv : 0 < pz_W A p k S1 := hv
        have hW1 := hW1 (wt_lt hW.1 k)
        have hgo : gn_f (fun i => ln_df (S1 (pz_cell A p k i)) (ln_K (pz_c A p k) (pz_l A p k) (pz_n A p k) (pz_L A p k) (fun j => S1 (pz_cell A p k j)) i)) (pz_L A p k) = pz_gone A p k S1 := (gn_pz _).symm
        rw [hgo]
        have htot := pz_tot_stp hz (show k < A 1 p + A 2 p by omega) hps
        have htl := pz_tot_le hz hps
        refine s_istore dX7_bringToRest_83 (by decide) rfl ?_
        refine q_iload dX7_bringToRest_85 rfl ?_
        refine q_bipush (v := -2) dX7_bringToRest_87 (by decide) ?_
        refine q_icmp_ne (tgt := 95) dX7_bringToRest_89 (by decide) (fun c89 => ?_) (fun c89 => absurd c89 (nI_nm2 (by omega)))
        refine q_iload dX7_bringToRest_95 rfl ?_
        refine q_iload dX7_bringToRest_97 rfl ?_
        refine q_iadd dX7_bringToRest_99 (nI_add _ _) ?_
        refine s_istore dX7_bringToRest_100 (by decide) rfl ?_
        refine s_iinc dX7_bringToRest_102 rfl (s_inc1 _) (by decide) rfl ?_
        refine q_goto (tgt := 31) dX7_bringToRest_105 (by decide) ?_
        have hgo2 := pz_on_gone hz (show k < A 1 p + A 2 p by omega) ho
        refine ih _ (by omega) (k + 1) _ W1 (pz_stp A p k S1) G _ rfl (by omega) (Ps.stp hz (by omega) hps) ⟨pz_stp A p k S2, ?_, pz_on_stp hz (by omega) ho⟩ (hW.step hz (by omega) hps hv hW1 hWb) (fun h0 => ?_) ⟨hS, ht1, hPl, hb1, hF⟩
        · rw [pz_rd_s hrd, if_neg (by omega), hgo2]
        · obtain ⟨e1, e2⟩ := h00 (by omega)
          have hr0 : Rst A p S1 k := (Rst.gone hz (by omega) hps).mpr ⟨hv, by omega⟩
          refine ⟨(funext (hr0.stp hz (by omega) hps)).trans e1, fun q hq => ?_⟩
          rcases (hWb q).mp hq with g | ⟨i, hi, -, g⟩
          · rw [wt_bit hW.1, Bool.and_eq_true, decide_eq_true_eq] at g
            have := e2 q g.1
            omega
          · exact absurd (hr0.2 i hi) g
    · refine q_goto (tgt := 102) dX7_bringToRest_53 (by decide) ?_
      refine s_iinc dX7_bringToRest_102 rfl (s_inc1 _) (by decide) rfl ?_
      refine q_goto (tgt := 31) dX7_bringToRest_105 (by decide) ?_
      have hbk : W.testBit k = false := by rw [sb_1] at c50; rw [← Bool.not_eq_true]; intro h; rw [if_pos h] at c50; omega
      obtain ⟨S2, hrd, ho⟩ := hrd
      have hr0 := hW.2.2 k (by omega) hbk
      have hr2 := hr0.on hz (by omega) ho
      have hg2 := (Rst.gone hz (by omega) (pz_on_ps ho hps)).mp hr2
      refine ih _ (by omega) (k + 1) gn W S1 G _ rfl (by omega) hps ⟨pz_stp A p k S2, ?_, ho.trans (fun x _ => (hr2.stp hz (by omega) (pz_on_ps ho hps) x).symm)⟩ hW (fun h0 => ⟨(h00 h0).1, fun q hq => ?_⟩) ⟨hS, hT, hPl, hb, hF⟩
      · rw [pz_rd_s hrd, if_neg (by omega), hg2.2, Nat.add_zero]
      · have := (h00 h0).2 q hq
        rcases Nat.lt_or_ge k q with g | g
        · exact g
        · rw [show q = k by omega, hbk] at hq; cases hq

set_option maxHeartbeats 4000000 in
set_option maxRecDepth 100000 in
theorem l_bring {T : q_T} {G0 : q_G} {sz s u b N D p R : Nat} {A : md_A} {S0 : Nat → Nat} {E : q_E} (hz : Pz A p) (hN1 : A 1 p * A 2 p ≤ N ∧ N ≤ 1000) (hsu : s + 5 ≤ u) (hdb : b < s ∨ s + 5 ≤ b) (hdu : b < u ∨ u + 2 + 4 * (A 1 p + A 2 p) ≤ b) (hEn : ∀ W S1 G, pz_st A p 401 S0 = none → Bst T G0 s u b N D A p G W S1 → E (some (.int (-2))) G sz) (hEs : ∀ r S1 S2 G, pz_st A p 401 S0 = some (r, S2) → pz_on A p S1 S2 → (∀ k, k < A 1 p + A 2 p → Rst A p S1 k) → Bst T G0 s u b N D A p G 0 S1 → E (some (.int (nI r))) G sz) : ∀ (mZ : Nat) (i r f W : Nat) (S1 : Nat → Nat) (G : q_G) (x6 x7 x8 : Option Value), mZ = 2 * pz_tot A p S1 + wz W → (i + 2 * pz_tot A p S1 + wz W ≤ 900) → (r ≤ i ∧ pz_tot A p S1 < f + 1) → (Ps A p S1) → (Rem A p S0 r (f + 1) S1) → (Wt A p W S1) → (Bst T G0 s u b N D A p G W S1) → q_R T mX7_bringToRest 3 76 11 [some (.ref (s + 4)), some (.ref u), some (.ref b), some (.int (nI R)), some (.int (nI r)), some (.int (nI i)), x6, x7, x8] [] G sz 0 0 E := by
  intro mZ
  induction mZ using Nat.strongRecOn with | ind mZ ih => ?_
  intro i r f W S1 G x6 x7 x8 hm him hf hps hRem hW hw
  obtain ⟨hS, hT, hPl, hb, hF⟩ := hw
  have hu := hPl.1
  obtain ⟨fL, hls, hfL⟩ := hPl.2.1
  have hWl := hW.1
  have hw10 := hz.2.1
  have hh10 := hz.2.2.1
  refine q_iload dX7_bringToRest_11 rfl ?_
  refine q_ldc (v := nI 1000000) dX7_bringToRest_13 cn_X7_46 ?_
  refine n_icmp_ge (tgt := 122) dX7_bringToRest_15 (by decide) (by omega) (by omega) (fun c15 => absurd c15 (by omega)) (fun c15 => ?_)
  refine q_aload_n dX7_bringToRest_18 rfl rfl ?_
  refine q_get dX7_bringToRest_19 fl_X7_15 hT rfl ?_
  refine n_if_eq (tgt := 122) dX7_bringToRest_22 (by decide) (by omega) (fun c22 => ?_) (fun c22 => ?_)
  · subst c22
    obtain ⟨S3, e3, ho3⟩ := pz_st_rest hz hps hW.zero f
    obtain ⟨S4, e4, ho4⟩ := hRem.2 0 S3 e3
    refine q_iload dX7_bringToRest_122 rfl ?_
    exact q_ireturn dX7_bringToRest_124 rfl rfl (hEs r S1 S4 G e4 (ho3.trans ho4) hW.zero ⟨hS, hT, hPl, hb, hF⟩)
  · refine q_iconst (v := nI 0) dX7_bringToRest_25 (by decide) ?_
    refine s_istore dX7_bringToRest_26 (by decide) rfl ?_
    refine q_iconst (v := nI 0) dX7_bringToRest_28 (by decide) ?_
    refine s_istore dX7_bringToRest_29 (by decide) rfl ?_
    refine l_bring_k (S0 := S1) hz hN1 hsu hdb hdu (fun gn W2 S2 G x8 hps2 hrd hW2 h00 hw2 => ?_) (fun W2 S2 G hno hw2 => hEn W2 S2 G (hRem.1 (by rw [pz_st_s, hno])) hw2) _ 0 0 W S1 G _ rfl (Nat.zero_le _) hps ⟨S1, rfl, pz_on.rfl'⟩ hW (fun _ => ⟨rfl, fun q _ => Nat.zero_le q⟩) ⟨hS, hT, hPl, hb, hF⟩
    obtain ⟨S3, hrd, ho⟩ := hrd
    obtain ⟨-, hti, -⟩ := pz_rd_inv hz hps _ (Nat.le_refl _) S3 gn hrd
    rw [← pz_tot_on ho] at hti
    have htl := pz_tot_le hz hps
    refine q_iload dX7_bringToRest_108 rfl ?_
    refine n_if_le (tgt := 116) dX7_bringToRest_110 (by decide) (by omega) (fun c110 => ?_) (fun c110 => ?_)
    · refine s_iinc dX7_bringToRest_116 rfl (s_inc1 _) (by decide) rfl ?_
      refine q_goto (tgt := 11) dX7_bringToRest_119 (by decide) ?_
      obtain ⟨rfl, hz0⟩ := h00 (by omega)
      have hW0 : W2 = 0 := by
        rcases Nat.eq_zero_or_pos W2 with h | h
        · exact h
        · obtain ⟨q, hq⟩ := (Bt_ne (x := W2) (fun _ => rfl)).mp (by omega)
          have h1 := hW2.2.1 q hq
          have h2 := hz0 q hq
          omega
      subst hW0
      have hwz := wz_pos c22
      exact ih _ (by have := wz_0; omega) (i + 1) r f 0 S2 G _ _ _ rfl (by have := wz_0; omega) (by omega) hps2 hRem hW2 hw2
    · refine s_iinc dX7_bringToRest_113 rfl (s_inc1 _) (by decide) rfl ?_
      refine s_iinc dX7_bringToRest_116 rfl (s_inc1 _) (by decide) rfl ?_
      refine q_goto (tgt := 11) dX7_bringToRest_119 (by decide) ?_
      exact ih _ (by have := wz_le W2; omega) (i + 1) (r + 1) (f - 1) W2 S2 G _ _ _ rfl (by have := wz_le W2; omega) (by omega) hps2 (by have hR2 := hRem.next hz hrd (by omega) ho; rw [show f = f - 1 + 1 by omega] at hR2; exact hR2) hW2 hw2

set_option maxHeartbeats 4000000 in
set_option maxRecDepth 100000 in
theorem c_X7_bringToRest {T : q_T} {G0 : q_G} {sz s u b N D p R : Nat} {A : md_A} {S : Nat → Nat} (hS : Scn T G0 s) (hT : ∃ W, G0 (s + 4) = some (q_ob 8 [.ref s, .int (nI W)])) (hPl : PuzL T G0 u A p D) (hb : G0 b = some (q_ia T N (fun i => nI (S i)))) (hps : Ps A p S) (hW : Wt A p R S) (hz : Pz A p) (hN1 : A 1 p * A 2 p ≤ N ∧ N ≤ 1000) (hsu : s + 5 ≤ u) (hdb : b < s ∨ s + 5 ≤ b) (hdu : b < u ∨ u + 2 + 4 * (A 1 p + A 2 p) ≤ b) : q_C T mX7_bringToRest 3 76 0 0 [.ref (s + 4), .ref u, .ref b, .int (nI R)] G0 sz (fun v G' sz' => sz = sz' ∧ (∀ x, x ≠ s + 1 ∧ x ≠ s + 2 ∧ x ≠ s + 4 ∧ x ≠ b → G' x = G0 x) ∧ Scn T G' s ∧ (∃ W, G' (s + 4) = some (q_ob 8 [.ref s, .int (nI W)])) ∧ ∃ S1 : Nat → Nat, G' b = some (q_ia T N (fun i => nI (S1 i))) ∧ ((pz_st A p 401 S = none ∧ v = some (.int (-2))) ∨ ∃ r S2, pz_st A p 401 S = some (r, S2) ∧ v = some (.int (nI r)) ∧ pz_on A p S1 S2 ∧ ∀ k, k < A 1 p + A 2 p → Rst A p S1 k)) := by
  refine q_C.of (by decide) rfl (by simp [Value.category]) (Nat.le_of_ble_eq_true rfl) ?_
  obtain ⟨W, hT⟩ := hT
  have hu := hPl.1
  obtain ⟨fL, hls, hfL⟩ := hPl.2.1
  have hF : ∀ x, x ≠ s + 1 ∧ x ≠ s + 2 ∧ x ≠ s + 4 ∧ x ≠ b → G0 x = G0 x := fun _ _ => rfl
  refine q_aload_n dX7_bringToRest_0 rfl rfl ?_
  refine q_iload_n dX7_bringToRest_1 rfl ?_
  refine w_put (fs2 := [.ref s, .int (nI R)]) dX7_bringToRest_2 fl_X7_15 fp_X7_15 hT (Nat.le_of_ble_eq_true rfl) rfl rfl rfl (fun G hT hN => ?_)
  have hu := (hN _ (by omega)).trans hu
  have hls := (hN _ (by omega)).trans hls
  have hb := (hN _ (by omega)).trans hb
  have hS := hS.fr (fun b b1 b2 => hN b (by omega))
  have hPl := hPl.fr (fun b b1 b2 => hN b (by omega))
  have hF : ∀ x, x ≠ s + 1 ∧ x ≠ s + 2 ∧ x ≠ s + 4 ∧ x ≠ b → G x = G0 x := fun x hx => (hN x (by omega)).trans (hF x hx)
  refine q_iconst (v := nI 0) dX7_bringToRest_5 (by decide) ?_
  refine s_istore dX7_bringToRest_6 (by decide) rfl ?_
  refine q_iconst (v := nI 0) dX7_bringToRest_8 (by decide) ?_
  refine s_istore dX7_bringToRest_9 (by decide) rfl ?_
  exact l_bring (S0 := S) hz hN1 hsu hdb hdu (fun W S1 G h1 h2 => ⟨rfl, h2.2.2.2.2, h2.1, ⟨W, h2.2.1⟩, S1, h2.2.2.2.1, Or.inl ⟨h1, rfl⟩⟩) (fun r S1 S2 G h1 h2 h3 h4 => ⟨rfl, h4.2.2.2.2, h4.1, ⟨0, h4.2.1⟩, S1, h4.2.2.2.1, Or.inr ⟨r, S2, h1, rfl, h2, h3⟩⟩) _ 0 0 400 R S G _ _ _ rfl (by have := pz_tot_le hz hps; have := wz_le R; omega) (by have := pz_tot_le hz hps; omega) hps (Rem.first S) hW ⟨hS, hT, hPl, hb, hF⟩
