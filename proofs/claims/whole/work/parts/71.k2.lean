/-! THE CLASS: a line as an object at a, its arrays at a + 1 .. a + 3 -/
abbrev li_ob (a fi sr le cr n S P g j e : Nat) : List Value := [.int (nI fi), .int (nI sr), .int (nI le), .int (nI cr), .ref (a + 1), .ref (a + 2), .ref (a + 3), .int (nI n), .int (nI S), .int (nI P), .int (nI g), .int (nI j), .int (nI e)]
/-- gaps, jumps, ends, places by set -/
def Lb (c l : Nat → Nat) (n g j e : Nat) (P : Nat → Nat) : Prop := Bt g (pl_gap l n) ∧ Bt j (pl_jmp c l n) ∧ Bt e (pl_end l n) ∧ ∀ s, s < 16 → Bt (P s) (pl_of c l n s)
def Lr (c l : Nat → Nat) (n le : Nat) : Prop := (∀ i, i < n → 1 ≤ c i ∧ c i ≤ 3 ∧ 1 ≤ l i) ∧ ln_S c l n 0 ≤ le ∧ le ≤ 10
def Lin (T : q_T) (G : q_G) (a fi sr le cr : Nat) (c l : Nat → Nat) (n : Nat) : Prop := ∃ (g j e : Nat) (C L P : Nat → Nat), G a = some (q_ob 4 (li_ob a fi sr le cr n (ln_S c l n 0) (pl_p l n) g j e)) ∧ G (a + 1) = some (q_ia T le (fun i => nI (C i))) ∧ G (a + 2) = some (q_ia T le (fun i => nI (L i))) ∧ G (a + 3) = some (q_ia T 16 (fun i => nI (P i))) ∧ (∀ i, i < n → C i = c i ∧ L i = l i) ∧ Lb c l n g j e P ∧ Lr c l n le
theorem Lin.fr {T : q_T} {G G' : q_G} {a fi sr le cr : Nat} {c l : Nat → Nat} {n : Nat} (h : Lin T G a fi sr le cr c l n) (hF : ∀ b, a ≤ b → b < a + 4 → G' b = G b) : Lin T G' a fi sr le cr c l n := by
  obtain ⟨g, j, e, C, L, P, h1, h2, h3, h4, h5⟩ := h
  exact ⟨g, j, e, C, L, P, (hF _ (by omega) (by omega)).trans h1, (hF _ (by omega) (by omega)).trans h2, (hF _ (by omega) (by omega)).trans h3, (hF _ (by omega) (by omega)).trans h4, h5⟩
theorem Lr.bd {c l : Nat → Nat} {n le : Nat} (h : Lr c l n le) : n ≤ 10 ∧ pl_p l n ≤ 20 ∧ (∀ i, i < n → 1 ≤ l i) ∧ (∀ i, i < n → c i ≤ 3) := by
  obtain ⟨h1, h2, h3⟩ := h
  have := pl_p_S (c := c) (l := l) (n := n) (fun i hi => (h1 i hi).2.2)
  exact ⟨by omega, by omega, fun i hi => (h1 i hi).2.2, fun i hi => (h1 i hi).2.1⟩
theorem s_decm (k : Nat) : nI k + Int32.ofInt (-1) = nI k - 1 := by
  rw [Int32.sub_eq_add_neg]
  rfl
/-- a scan at s -/
def Scn (T : q_T) (G : q_G) (s : Nat) : Prop := G s = some (q_ob 6 [.ref (s + 1), .ref (s + 2), .ref (s + 3)]) ∧ (∃ K : Nat → Nat, G (s + 1) = some (q_ia T 10 (fun i => nI (K i)))) ∧ (∃ R : Nat → Nat, G (s + 2) = some (q_ia T 11 (fun i => nI (R i)))) ∧ ∃ Y : Nat → Nat, G (s + 3) = some (q_ia T 21 (fun i => nI (Y i)))
theorem Scn.fr {T : q_T} {G G' : q_G} {s : Nat} (h : Scn T G s) (hF : ∀ b, s ≤ b → b < s + 4 → G' b = G b) : Scn T G' s := by
  obtain ⟨h1, ⟨K, h2⟩, ⟨R, h3⟩, Y, h4⟩ := h
  exact ⟨(hF _ (by omega) (by omega)).trans h1, ⟨K, (hF _ (by omega) (by omega)).trans h2⟩, ⟨R, (hF _ (by omega) (by omega)).trans h3⟩, Y, (hF _ (by omega) (by omega)).trans h4⟩

set_option maxHeartbeats 4000000 in
set_option maxRecDepth 100000 in
theorem c_X3_cellAt {T : q_T} {G : q_G} {sz a fi sr le cr n S P g j e i : Nat} (hl : G a = some (q_ob 4 (li_ob a fi sr le cr n S P g j e))) : q_C T mX3_cellAt 0 0 0 0 [.ref a, .int (nI i)] G sz (fun v G' sz' => v = some (.int (nI (fi + i * sr))) ∧ G = G' ∧ sz = sz') := by
  refine q_C.of (by decide) rfl (by simp [Value.category]) (Nat.le_of_ble_eq_true rfl) ?_
  refine q_aload_n dX3_cellAt_0 rfl rfl ?_
  refine q_get dX3_cellAt_1 fl_X3_9 hl rfl ?_
  refine q_iload_n dX3_cellAt_4 rfl ?_
  refine q_aload_n dX3_cellAt_5 rfl rfl ?_
  refine q_get dX3_cellAt_6 fl_X3_15 hl rfl ?_
  refine q_imul dX3_cellAt_9 (pk_mul _ _) ?_
  refine q_iadd dX3_cellAt_10 (nI_add _ _) ?_
  exact q_ireturn dX3_cellAt_11 rfl rfl ⟨rfl, rfl, rfl⟩

set_option maxHeartbeats 4000000 in
set_option maxRecDepth 100000 in
theorem l_coloursOf {T : q_T} {G : q_G} {sz a fi sr le cr n S g j e x Q : Nat} {c l P : Nat → Nat} {E : q_E} (hl : G a = some (q_ob 4 (li_ob a fi sr le cr n S Q g j e))) (hp : G (a + 3) = some (q_ia T 16 (fun i => nI (P i)))) (hP : ∀ s, s < 16 → Bt (P s) (pl_of c l n s)) (hx : x < 2 ^ 31) (hE : ∀ k, k < 16 → (∀ w, w < 4 → (k.testBit w = true ↔ ∃ q, x.testBit q = true ∧ q ≤ pl_p l n ∧ pl_col c l n q = w)) → E (some (.int (nI k))) G sz) : ∀ (mZ : Nat) (w k : Nat), mZ = 4 - w → (w ≤ 4) → (k < 16) → (∀ v, v < w → v < 4 → (k.testBit v = true ↔ ∃ q, x.testBit q = true ∧ q ≤ pl_p l n ∧ pl_col c l n q = v)) → (∀ v, w ≤ v → k.testBit v = false) → q_R T mX5_coloursOf 0 0 4 [some (.ref a), some (.int (nI x)), some (.int (nI k)), some (.int (nI w))] [] G sz 0 0 E := by
  intro mZ
  induction mZ using Nat.strongRecOn with | ind mZ ih => ?_
  intro w k hm hw hk hb hz
  refine q_iload_n dX5_coloursOf_4 rfl ?_
  refine q_iconst (v := nI 3) dX5_coloursOf_5 (by decide) ?_
  refine n_icmp_gt (tgt := 34) dX5_coloursOf_6 (by decide) (by omega) (by omega) (fun c6 => ?_) (fun c6 => ?_)
  · obtain rfl : w = 4 := by omega
    refine q_iload_n dX5_coloursOf_34 rfl ?_
    exact q_ireturn dX5_coloursOf_35 rfl rfl (hE k hk (fun v hv => hb v hv hv))
  · refine q_iload_n dX5_coloursOf_9 rfl ?_
    refine q_aload_n dX5_coloursOf_10 rfl rfl ?_
    refine q_get dX5_coloursOf_11 fl_X5_33 hl rfl ?_
    refine q_iconst (v := nI 1) dX5_coloursOf_14 (by decide) ?_
    refine q_iload_n dX5_coloursOf_15 rfl ?_
    refine q_ishl dX5_coloursOf_16 (n_shl (by omega) rfl) ?_
    refine w_ld dX5_coloursOf_17 hp rfl (shl_lt (by omega)) (by omega) rfl ?_
    refine q_iand dX5_coloursOf_18 (n_and _ _) ?_
    refine n_if_eq (tgt := 28) dX5_coloursOf_19 (by decide) (Nat.lt_of_le_of_lt Nat.and_le_left hx) (fun c19 => ?_) (fun c19 => ?_)
    · refine s_iinc dX5_coloursOf_28 rfl (s_inc1 _) (by decide) rfl ?_
      refine q_goto (tgt := 4) dX5_coloursOf_31 (by decide) ?_
      exact ih _ (by omega) (w + 1) k rfl (by omega) hk (fun v h1 h2 => if hv : w = v then (by subst hv; rw [hz w (by omega)]; exact ⟨fun h => (by cases h), fun h => absurd c19 ((pl_of_ne (hP _ (shl_lt (by omega)))).mpr h)⟩) else hb v (by omega) h2) (fun v h1 => hz v (by omega))
    · refine q_iload_n dX5_coloursOf_22 rfl ?_
      refine q_iconst (v := nI 1) dX5_coloursOf_23 (by decide) ?_
      refine q_iload_n dX5_coloursOf_24 rfl ?_
      refine q_ishl dX5_coloursOf_25 (n_shl (by omega) rfl) ?_
      refine q_ior dX5_coloursOf_26 (n_or _ _) ?_
      refine s_istore_n dX5_coloursOf_27 (by decide) rfl ?_
      refine s_iinc dX5_coloursOf_28 rfl (s_inc1 _) (by decide) rfl ?_
      refine q_goto (tgt := 4) dX5_coloursOf_31 (by decide) ?_
      exact ih _ (by omega) (w + 1) (k ||| 1 <<< w) rfl (by omega) (ln_bit16 hk (by omega)) (fun v h1 h2 => by rw [ln_bit_or, Bool.or_eq_true, decide_eq_true_eq]; exact if hv : w = v then (by subst hv; exact ⟨fun _ => (pl_of_ne (hP _ (shl_lt (by omega)))).mp c19, fun _ => Or.inr rfl⟩) else (by rw [hb v (by omega) h2]; exact ⟨fun h => h.resolve_right hv, Or.inl⟩)) (fun v h1 => by rw [ln_bit_or, hz v (by omega), decide_eq_false (by omega)]; rfl)

set_option maxHeartbeats 4000000 in
set_option maxRecDepth 100000 in
theorem c_X5_coloursOf {T : q_T} {G : q_G} {sz a fi sr le cr n S g j e x Q : Nat} {c l P : Nat → Nat} (hl : G a = some (q_ob 4 (li_ob a fi sr le cr n S Q g j e))) (hp : G (a + 3) = some (q_ia T 16 (fun i => nI (P i)))) (hP : ∀ s, s < 16 → Bt (P s) (pl_of c l n s)) (hx : x < 2 ^ 31) : q_C T mX5_coloursOf 0 0 0 0 [.ref a, .int (nI x)] G sz (fun v G' sz' => (∃ k, k < 16 ∧ v = some (.int (nI k)) ∧ ∀ w, w < 4 → (k.testBit w = true ↔ ∃ q, x.testBit q = true ∧ q ≤ pl_p l n ∧ pl_col c l n q = w)) ∧ G = G' ∧ sz = sz') := by
  refine q_C.of (by decide) rfl (by simp [Value.category]) (Nat.le_of_ble_eq_true rfl) ?_
  refine q_iconst (v := nI 0) dX5_coloursOf_0 (by decide) ?_
  refine s_istore_n dX5_coloursOf_1 (by decide) rfl ?_
  refine q_iconst (v := nI 0) dX5_coloursOf_2 (by decide) ?_
  refine s_istore_n dX5_coloursOf_3 (by decide) rfl ?_
  exact l_coloursOf hl hp hP hx (fun k h1 h2 => ⟨⟨k, h1, rfl, h2⟩, rfl, rfl⟩) _ 0 0 rfl (by omega) (by omega) (fun _ h => absurd h (Nat.not_lt_zero _)) (fun v _ => Nat.zero_testBit v)

/-- what the scan's walk knows: scan at s, line at a, sets at b; G0 the heap ahead -/
def Wg (T : q_T) (G0 : q_G) (s a b N fi sr le cr n Z Q g j e : Nat) (S P : Nat → Nat) (G : q_G) (K R : Nat → Nat) : Prop := G s = some (q_ob 6 [.ref (s + 1), .ref (s + 2), .ref (s + 3)]) ∧ G (s + 1) = some (q_ia T 10 (fun i => nI (K i))) ∧ G (s + 2) = some (q_ia T 11 (fun i => nI (R i))) ∧ G a = some (q_ob 4 (li_ob a fi sr le cr n Z Q g j e)) ∧ G (a + 3) = some (q_ia T 16 (fun i => nI (P i))) ∧ G b = some (q_ia T N (fun i => nI (S i))) ∧ ∀ x, x ≠ s + 1 ∧ x ≠ s + 2 → G x = G0 x

set_option maxHeartbeats 4000000 in
set_option maxRecDepth 100000 in
theorem l_weigh1 {T : q_T} {G0 : q_G} {sz s a b N fi sr le cr n Z Q g j e : Nat} {c l S P : Nat → Nat} {E : q_E} (hds : a + 4 ≤ s ∨ s + 4 ≤ a) (hdb : b < s ∨ s + 4 ≤ b) (hN1 : N ≤ 1000) (hc : ∀ i, i < le → fi + i * sr < N ∧ S (fi + i * sr) < 16) (hB : Lb c l n g j e P) (hr0 : Lr c l n le) (hx88 : ∀ x K R G x7, Bt x (fun q => decide (0 < pl_c c l n (fun i => S (fi + i * sr)) le q)) → (∀ t, t ≤ le → Bt (R t) (fun q => decide (0 < pl_c c l n (fun i => S (fi + i * sr)) t q))) → Wg T G0 s a b N fi sr le cr n Z Q g j e S P G K R → q_R T mX5_weigh 1 23 88 [some (.ref s), some (.ref a), some (.ref b), some (.int (nI g)), some (.int (nI j)), some (.int (nI x)), some (.int (nI le)), x7] [] G sz 0 0 E) : ∀ (mZ : Nat) (i x : Nat) (K R : Nat → Nat) (G : q_G) (x7 : Option Value), mZ = le - i → (i ≤ le) → (Bt x (fun q => decide (0 < pl_c c l n (fun i => S (fi + i * sr)) i q))) → (∀ t, t ≤ i → Bt (R t) (fun q => decide (0 < pl_c c l n (fun i => S (fi + i * sr)) t q))) → (Wg T G0 s a b N fi sr le cr n Z Q g j e S P G K R) → q_R T mX5_weigh 1 23 25 [some (.ref s), some (.ref a), some (.ref b), some (.int (nI g)), some (.int (nI j)), some (.int (nI x)), some (.int (nI i)), x7] [] G sz 0 0 E := by
  intro mZ
  induction mZ using Nat.strongRecOn with | ind mZ ih => ?_
  intro i x K R G x7 hm hi hx hR hw
  obtain ⟨hg, hj, he, hP⟩ := hB
  obtain ⟨n10, p20, l1, c3⟩ := hr0.bd
  have le10 := hr0.2.2
  obtain ⟨hs, hk, hr, hl, hp, hb, hF⟩ := hw
  have xlt := pl_c_lt hx p20
  refine q_iload dX5_weigh_25 rfl ?_
  refine q_aload_n dX5_weigh_27 rfl rfl ?_
  refine q_get dX5_weigh_28 fl_X5_30 hl rfl ?_
  refine n_icmp_ge (tgt := 88) dX5_weigh_31 (by decide) (by omega) (by omega) (fun c31 => ?_) (fun c31 => ?_)
  · obtain rfl : i = le := by omega
    exact hx88 x K R G x7 hx hR ⟨hs, hk, hr, hl, hp, hb, hF⟩
  · refine q_iload dX5_weigh_34 rfl ?_
    refine q_iconst (v := nI 1) dX5_weigh_36 (by decide) ?_
    refine q_ishl dX5_weigh_37 (n_shl (by omega) rfl) ?_
    refine q_iload dX5_weigh_38 rfl ?_
    refine q_iload_n dX5_weigh_40 rfl ?_
    refine q_iand dX5_weigh_41 (n_and _ _) ?_
    refine q_ior dX5_weigh_42 (n_or _ _) ?_
    refine q_iload dX5_weigh_43 rfl ?_
    refine q_iload dX5_weigh_45 rfl ?_
    refine q_iand dX5_weigh_47 (n_and _ _) ?_
    refine q_iconst (v := nI 2) dX5_weigh_48 (by decide) ?_
    refine q_ishl dX5_weigh_49 (n_shl (by omega) rfl) ?_
    refine q_ior dX5_weigh_50 (n_or _ _) ?_
    refine s_istore dX5_weigh_51 (by decide) rfl ?_
    refine q_iload dX5_weigh_53 rfl ?_
    refine q_aload_n dX5_weigh_55 rfl rfl ?_
    refine q_get dX5_weigh_56 fl_X5_33 hl rfl ?_
    refine q_aload_n dX5_weigh_59 rfl rfl ?_
    refine q_aload_n dX5_weigh_60 rfl rfl ?_
    refine q_iload dX5_weigh_61 rfl ?_
    refine q_iv (As := [_]) dX5_weigh_63 ml_X5_36 mt_X3_cellAt mi_X3_cellAt se_X3_cellAt hl rfl rfl (Nat.le_of_ble_eq_true rfl) (Nat.le_of_ble_eq_true rfl) (Nat.zero_le _) (Nat.zero_le _) (Nat.le_of_ble_eq_true rfl) (q_C.mono (c_X3_cellAt hl) (fun v G1 sz1 hq => ?_))
    obtain ⟨rfl, rfl, rfl⟩ := hq
    refine w_ld dX5_weigh_66 hb rfl (hc i (by omega)).1 (by omega) rfl ?_
    refine w_ld dX5_weigh_67 hp rfl (hc i (by omega)).2 (by omega) rfl ?_
    refine q_iand dX5_weigh_68 (n_and _ _) ?_
    refine s_istore dX5_weigh_69 (by decide) rfl ?_
    have hx2 := pl_fwd (may := (fun i => S (fi + i * sr))) (i := i) hx hg hj (hP _ (hc i (by omega)).2)
    refine q_aload_n dX5_weigh_71 rfl rfl ?_
    refine q_get dX5_weigh_72 fl_X5_15 hs rfl ?_
    refine q_iload dX5_weigh_75 rfl ?_
    refine q_iconst (v := nI 1) dX5_weigh_77 (by decide) ?_
    refine q_iadd dX5_weigh_78 (nI_add _ 1) ?_
    refine q_iload dX5_weigh_79 rfl ?_
    refine w_st dX5_weigh_81 hr rfl (by omega) (by omega) rfl (fun G hr hN => ?_)
    have hs := (hN _ (by omega)).trans hs
    have hk := (hN _ (by omega)).trans hk
    have hl := (hN _ (by omega)).trans hl
    have hp := (hN _ (by omega)).trans hp
    have hb := (hN _ (by omega)).trans hb
    have hF : ∀ b, b ≠ s + 1 ∧ b ≠ s + 2 → G b = G0 b := fun b hb => (hN b (by omega)).trans (hF b hb)
    refine s_iinc dX5_weigh_82 rfl (s_inc1 _) (by decide) rfl ?_
    refine q_goto (tgt := 25) dX5_weigh_85 (by decide) ?_
    exact ih _ (by omega) (i + 1) _ _ _ G _ rfl (by omega) hx2 (fun t ht => if h : t = i + 1 then (by rw [h, va_up_s]; exact hx2) else (by rw [va_up_n _ _ h]; exact hR t (by omega))) ⟨hs, hk, hr, hl, hp, hb, hF⟩

set_option maxHeartbeats 4000000 in
set_option maxRecDepth 100000 in
theorem l_weigh2 {T : q_T} {G0 : q_G} {sz s a b N fi sr le cr n Z Q g j e : Nat} {c l S P : Nat → Nat} {R : Nat → Nat} {E : q_E} (hds : a + 4 ≤ s ∨ s + 4 ≤ a) (hdb : b < s ∨ s + 4 ≤ b) (hN1 : N ≤ 1000) (hc : ∀ i, i < le → fi + i * sr < N ∧ S (fi + i * sr) < 16) (hB : Lb c l n g j e P) (hr0 : Lr c l n le) (hR : ∀ t, t ≤ le → Bt (R t) (fun q => decide (0 < pl_c c l n (fun i => S (fi + i * sr)) t q))) (hE : ∀ G K, (∀ i, i < le → K i = ln_K c l n le (fun i => S (fi + i * sr)) i) → Wg T G0 s a b N fi sr le cr n Z Q g j e S P G K R → E (some (.int (nI 1))) G sz) : ∀ (mZ : Nat) (d x : Nat) (K : Nat → Nat) (G : q_G) (x7 : Option Value), mZ = d → (d ≤ le) → (Bt x (pl_at c l n le (fun i => S (fi + i * sr)) d)) → (∀ t, d ≤ t → t < le → K t = ln_K c l n le (fun i => S (fi + i * sr)) t) → (Wg T G0 s a b N fi sr le cr n Z Q g j e S P G K R) → q_R T mX5_weigh 1 23 112 [some (.ref s), some (.ref a), some (.ref b), some (.int (nI g)), some (.int (nI j)), some (.int (nI x)), some (.int (nI d - 1)), x7] [] G sz 0 0 E := by
  intro mZ
  induction mZ using Nat.strongRecOn with | ind mZ ih => ?_
  intro d x K G x7 hm hi hx hK hw
  obtain ⟨hg, hj, he, hP⟩ := hB
  obtain ⟨n10, p20, l1, c3⟩ := hr0.bd
  have le10 := hr0.2.2
  obtain ⟨hs, hk, hr, hl, hp, hb, hF⟩ := hw
  have xlt := pl_at_lt hx p20
  rcases d with _ | i
  · have hK0 : ∀ i, i < le → K i = ln_K c l n le (fun i => S (fi + i * sr)) i := fun i h => hK i (Nat.zero_le _) h
    refine q_iload dX5_weigh_112 rfl ?_
    refine q_if_lt (tgt := 167) dX5_weigh_114 (by decide) (fun _ => ?_) (fun h => absurd (by decide) h)
    refine q_iconst (v := nI 1) dX5_weigh_167 (by decide) ?_
    exact q_ireturn dX5_weigh_168 rfl (by decide +kernel) (hE G K hK0 ⟨hs, hk, hr, hl, hp, hb, hF⟩)
  rw [nI_pred]
  refine q_iload dX5_weigh_112 rfl ?_
  refine n_if_lt (tgt := 167) dX5_weigh_114 (by decide) (by omega) ?_
  refine q_aload_n dX5_weigh_117 rfl rfl ?_
  refine q_get dX5_weigh_118 fl_X5_9 hs rfl ?_
  refine q_iload dX5_weigh_121 rfl ?_
  refine q_aload_n dX5_weigh_123 rfl rfl ?_
  refine q_iload dX5_weigh_124 rfl ?_
  refine q_is (As := [_, _]) dX5_weigh_126 ml_X5_43 mt_X5_coloursOf ms_X5_coloursOf rfl (Nat.le_of_ble_eq_true rfl) (Nat.le_of_ble_eq_true rfl) (Nat.zero_le _) (Nat.zero_le _) (Nat.le_of_ble_eq_true rfl) (q_C.mono (c_X5_coloursOf hl hp hP (by omega)) (fun v G1 sz1 hq => ?_))
  obtain ⟨⟨k, hk16, rfl, hkb⟩, rfl, rfl⟩ := hq
  refine w_st dX5_weigh_129 hk rfl (by omega) (by omega) rfl (fun G hk hN => ?_)
  have hs := (hN _ (by omega)).trans hs
  have hr := (hN _ (by omega)).trans hr
  have hl := (hN _ (by omega)).trans hl
  have hp := (hN _ (by omega)).trans hp
  have hb := (hN _ (by omega)).trans hb
  have hF : ∀ b, b ≠ s + 1 ∧ b ≠ s + 2 → G b = G0 b := fun b hb => (hN b (by omega)).trans (hF b hb)
  have hkk := pl_kept (may := (fun i => S (fi + i * sr))) l1 c3 (show i < le by omega) (hc i (by omega)).2 hk16 hx hkb
  refine q_iload dX5_weigh_130 rfl ?_
  refine q_iconst (v := nI 1) dX5_weigh_132 (by decide) ?_
  refine q_iushr dX5_weigh_133 (n_ushr (by omega) (by omega)) ?_
  refine q_iload dX5_weigh_134 rfl ?_
  refine q_iload_n dX5_weigh_136 rfl ?_
  refine q_iand dX5_weigh_137 (n_and _ _) ?_
  refine q_ior dX5_weigh_138 (n_or _ _) ?_
  refine q_iload dX5_weigh_139 rfl ?_
  refine q_iconst (v := nI 2) dX5_weigh_141 (by decide) ?_
  refine q_iushr dX5_weigh_142 (n_ushr (by omega) (by omega)) ?_
  refine q_iload dX5_weigh_143 rfl ?_
  refine q_iand dX5_weigh_145 (n_and _ _) ?_
  refine q_ior dX5_weigh_146 (n_or _ _) ?_
  refine s_istore dX5_weigh_147 (by decide) rfl ?_
  refine q_iload dX5_weigh_149 rfl ?_
  refine q_aload_n dX5_weigh_151 rfl rfl ?_
  refine q_get dX5_weigh_152 fl_X5_15 hs rfl ?_
  refine q_iload dX5_weigh_155 rfl ?_
  refine w_ld dX5_weigh_157 hr rfl (by omega) (by omega) rfl ?_
  refine q_iand dX5_weigh_158 (n_and _ _) ?_
  refine s_istore dX5_weigh_159 (by decide) rfl ?_
  refine s_iinc dX5_weigh_161 rfl (s_decm _) (by decide) rfl ?_
  refine q_goto (tgt := 112) dX5_weigh_164 (by decide) ?_
  exact ih _ (by omega) i _ _ G _ rfl (by omega) (pl_bwd (show i < le by omega) hx hg hj (hR i (by omega))) (fun t h1 h2 => if h : t = i then (by rw [h, va_up_s]; exact hkk) else (by rw [va_up_n _ _ h]; exact hK t (by omega) h2)) ⟨hs, hk, hr, hl, hp, hb, hF⟩

set_option maxHeartbeats 4000000 in
set_option maxRecDepth 100000 in
theorem c_X5_weigh {T : q_T} {G0 : q_G} {sz s a b N fi sr le cr n : Nat} {c l S : Nat → Nat} (hS : Scn T G0 s) (hL : Lin T G0 a fi sr le cr c l n) (hb : G0 b = some (q_ia T N (fun i => nI (S i)))) (hds : a + 4 ≤ s ∨ s + 4 ≤ a) (hdb : b < s ∨ s + 4 ≤ b) (hN1 : N ≤ 1000) (hc : ∀ i, i < le → fi + i * sr < N ∧ S (fi + i * sr) < 16) : q_C T mX5_weigh 1 23 0 0 [.ref s, .ref a, .ref b] G0 sz (fun v G' sz' => sz = sz' ∧ (∀ x, x ≠ s + 1 ∧ x ≠ s + 2 → G' x = G0 x) ∧ ((ln_W c l n le (fun i => S (fi + i * sr)) = 0 ∧ v = some (.int (nI 0))) ∨ (0 < ln_W c l n le (fun i => S (fi + i * sr)) ∧ v = some (.int (nI 1)) ∧ ∃ K : Nat → Nat, G' (s + 1) = some (q_ia T 10 (fun i => nI (K i))) ∧ ∀ i, i < le → K i = ln_K c l n le (fun i => S (fi + i * sr)) i)) ∧ ∃ K R : Nat → Nat, G' (s + 1) = some (q_ia T 10 (fun i => nI (K i))) ∧ G' (s + 2) = some (q_ia T 11 (fun i => nI (R i)))) := by
  refine q_C.of (by decide) rfl (by simp [Value.category]) (Nat.le_of_ble_eq_true rfl) ?_
  obtain ⟨hs, ⟨K, hk⟩, ⟨R, hr⟩, Y, hy⟩ := hS
  obtain ⟨g, j, e, C, Ln, P, hl, -, -, hp, -, ⟨hg, hj, he, hP⟩, hr0⟩ := hL
  obtain ⟨n10, p20, l1, c3⟩ := hr0.bd
  have le10 := hr0.2.2
  have hF : ∀ b, b ≠ s + 1 ∧ b ≠ s + 2 → G0 b = G0 b := fun _ _ => rfl
  refine q_aload_n dX5_weigh_0 rfl rfl ?_
  refine q_get dX5_weigh_1 fl_X5_21 hl rfl ?_
  refine s_istore_n dX5_weigh_4 (by decide) rfl ?_
  refine q_aload_n dX5_weigh_5 rfl rfl ?_
  refine q_get dX5_weigh_6 fl_X5_27 hl rfl ?_
  refine s_istore dX5_weigh_9 (by decide) rfl ?_
  refine q_iconst (v := nI 1) dX5_weigh_11 (by decide) ?_
  refine s_istore dX5_weigh_12 (by decide) rfl ?_
  refine q_aload_n dX5_weigh_14 rfl rfl ?_
  refine q_get dX5_weigh_15 fl_X5_15 hs rfl ?_
  refine q_iconst (v := nI 0) dX5_weigh_18 (by decide) ?_
  refine q_iload dX5_weigh_19 rfl ?_
  refine w_st (k := 0) dX5_weigh_21 hr rfl (by omega) (by omega) rfl (fun G hr hN => ?_)
  have hs := (hN _ (by omega)).trans hs
  have hk := (hN _ (by omega)).trans hk
  have hl := (hN _ (by omega)).trans hl
  have hp := (hN _ (by omega)).trans hp
  have hb := (hN _ (by omega)).trans hb
  have hF : ∀ b, b ≠ s + 1 ∧ b ≠ s + 2 → G b = G0 b := fun b hb => (hN b (by omega)).trans (hF b hb)
  refine q_iconst (v := nI 0) dX5_weigh_22 (by decide) ?_
  refine s_istore dX5_weigh_23 (by decide) rfl ?_
  refine l_weigh1 hds hdb hN1 hc ⟨hg, hj, he, hP⟩ hr0 (fun x K R G x7 hx hR hw => ?_) _ 0 1 K _ G _ rfl (Nat.zero_le _) pl_fst (fun t ht => by rw [show t = 0 by omega, va_up_s]; exact pl_fst) ⟨hs, hk, hr, hl, hp, hb, hF⟩
  obtain ⟨hs, hk, hr, hl, hp, hb, hF⟩ := hw
  have xlt := pl_c_lt hx p20
  have hx2 := pl_last (L := le) hx he
  refine q_iload dX5_weigh_88 rfl ?_
  refine q_aload_n dX5_weigh_90 rfl rfl ?_
  refine q_get dX5_weigh_91 fl_X5_40 hl rfl ?_
  refine q_iand dX5_weigh_94 (n_and _ _) ?_
  refine s_istore dX5_weigh_95 (by decide) rfl ?_
  refine q_iload dX5_weigh_97 rfl ?_
  refine n_if_ne (tgt := 104) dX5_weigh_99 (by decide) (Nat.lt_of_le_of_lt Nat.and_le_left (by omega)) (fun c99 => ?_) (fun c99 => ?_)
  · refine q_aload_n dX5_weigh_104 rfl rfl ?_
    refine q_get dX5_weigh_105 fl_X5_30 hl rfl ?_
    refine q_iconst (v := nI 1) dX5_weigh_108 (by decide) ?_
    refine q_isub dX5_weigh_109 (show nI le - nI 1 = nI le - 1 from rfl) ?_
    refine s_istore dX5_weigh_110 (by decide) rfl ?_
    exact l_weigh2 hds hdb hN1 hc ⟨hg, hj, he, hP⟩ hr0 hR (fun G K hK hw => ⟨rfl, hw.2.2.2.2.2.2, Or.inr ⟨(pl_W_pos l1 (Nat.le_refl le)).mpr ((Bt_ne hx2).mp c99), rfl, K, hw.2.1, hK⟩, _, _, hw.2.1, hw.2.2.1⟩) _ le _ K G x7 rfl (Nat.le_refl _) hx2 (fun t h1 h2 => absurd h1 (by omega)) ⟨hs, hk, hr, hl, hp, hb, hF⟩
  · refine q_iconst (v := nI 0) dX5_weigh_102 (by decide) ?_
    exact q_ireturn dX5_weigh_103 rfl (by decide +kernel) ⟨rfl, hF, Or.inl ⟨by rcases Nat.eq_zero_or_pos (ln_W c l n le (fun i => S (fi + i * sr))) with h | h; exact h; exact absurd c99 ((Bt_ne hx2).mpr ((pl_W_pos l1 (Nat.le_refl le)).mp h)), rfl⟩, _, _, hk, hr⟩
