/-! THE CLASS: a step -/
theorem ln_K_and {c l : Nat → Nat} {n L : Nat} {may : Nat → Nat} (hl : ∀ i, i < n → 1 ≤ l i) (hc : ∀ i, i < n → c i ≤ 3) {i : Nat} (hi : i < L) (hm : may i < 16) : may i &&& ln_K c l n L may i = ln_K c l n L may i := by
  refine ln_bits4 (Nat.lt_of_le_of_lt Nat.and_le_left hm) (ln_K_lt c l n L may i) (fun v hv => ?_)
  rw [Nat.testBit_and]
  by_cases h : (ln_K c l n L may i).testBit v = true
  · rw [h, Bool.and_true]
    obtain ⟨q, h1, h2⟩ := (pl_K_bit hl hc hi hv hm).mp h
    have h3 := pl_at_ok h1
    unfold pl_ok at h3
    rw [Bool.and_eq_true, h2] at h3
    exact h3.2
  · rw [Bool.not_eq_true] at h
    rw [h, Bool.and_false]
theorem df_0 {a b : Nat} (ha : a < 16) (hb : b < 16) (h : ln_df a b = 0) : a &&& b = a := by
  have key : ∀ a, a < 16 → ∀ b, b < 16 → ln_df a b = 0 → a &&& b = a := by decide +kernel
  exact key a ha b hb h
def gn_f (D : Nat → Nat) : Nat → Nat
  | 0 => 0
  | k + 1 => gn_f D k + ln_pop (D k)
theorem nr_no {fi sr : Nat} {cl S new : Nat → Nat} (hcl : ∀ i, fi + i * sr = cl i) (hsr : 1 ≤ sr) (i : Nat) : pz_F S 0 cl new i (fi + i * sr) = S (cl i) := by
  rw [hcl i]
  refine pz_F_no S 0 cl new i (cl i) (fun j hj h => ?_)
  rw [Nat.zero_add, ← hcl i, ← hcl j] at h
  have h2 : j * sr < i * sr := Nat.mul_lt_mul_of_lt_of_le hj (Nat.le_refl sr) hsr
  omega
theorem va_up_id {f : Nat → Nat} {k v : Nat} (h : f k = v) : va_up f k v = f := by
  funext j
  unfold va_up
  split
  · next e => rw [e]; exact h.symm
  · rfl
theorem bt_lt20 {W k : Nat} (hW : W < 2 ^ 20) (hk : k < 20) : W ||| 1 <<< k < 2 ^ 20 := Nat.or_lt_two_pow hW (by rw [Nat.shiftLeft_eq, Nat.one_mul]; exact Nat.pow_lt_pow_right (by decide) hk)
theorem bt_or1 (W k q : Nat) : (W ||| 1 <<< k).testBit q = true ↔ W.testBit q = true ∨ q = k := by
  rw [Nat.testBit_or, Bool.or_eq_true, Bt.one k q, decide_eq_true_eq]

set_option maxHeartbeats 4000000 in
set_option maxRecDepth 100000 in
theorem l_narrow {T : q_T} {G0 : q_G} {sz t s a b N fi sr le cr n Z Q g j e W : Nat} {c l S cl K R : Nat → Nat} {E : q_E} (hds : a + 4 ≤ s ∨ s + 4 ≤ a) (hdb : b < s ∨ s + 4 ≤ b) (hdt : t < s ∨ s + 4 ≤ t) (hda : t < a ∨ a + 4 ≤ t) (hdt2 : t ≠ b) (hdl : b < a ∨ a + 4 ≤ b) (hN1 : N ≤ 1000) (hcl : ∀ i, fi + i * sr = cl i) (hsr : 1 ≤ sr) (hcr : cr + le ≤ 20) (hc : ∀ i, i < le → cl i < N ∧ S (cl i) < 16) (hr0 : Lr c l n le) (hK : ∀ i, i < le → K i = ln_K c l n le (fun j => S (cl j)) i) (hE : ∀ W1 G, (W < 2 ^ 20 → W1 < 2 ^ 20) → (∀ q, (W1.testBit q = true ↔ W.testBit q = true ∨ ∃ k, k < le ∧ q = cr + k ∧ ln_df (S (cl k)) (ln_K c l n le (fun j => S (cl j)) k) ≠ 0)) → (G t = some (q_ob 8 [.ref s, .int (nI W1)]) ∧ G s = some (q_ob 6 [.ref (s + 1), .ref (s + 2), .ref (s + 3)]) ∧ G (s + 1) = some (q_ia T 10 (fun i => nI (K i))) ∧ G (s + 2) = some (q_ia T 11 (fun i => nI (R i))) ∧ G a = some (q_ob 4 (li_ob a fi sr le cr n Z Q g j e)) ∧ G b = some (q_ia T N (fun x => nI (pz_F S 0 cl (fun k => S (cl k) &&& ln_K c l n le (fun j => S (cl j)) k) le x))) ∧ ∀ x, x ≠ s + 1 ∧ x ≠ s + 2 ∧ x ≠ t ∧ x ≠ b → G x = G0 x) → E (some (.int (nI (gn_f (fun k => ln_df (S (cl k)) (ln_K c l n le (fun j => S (cl j)) k)) le)))) G sz) : ∀ (mZ : Nat) (i gn W1 : Nat) (G : q_G) (x5 x6 : Option Value), mZ = le - i → (i ≤ le) → (gn = gn_f (fun k => ln_df (S (cl k)) (ln_K c l n le (fun j => S (cl j)) k)) i) → (W < 2 ^ 20 → W1 < 2 ^ 20) → (∀ q, (W1.testBit q = true ↔ W.testBit q = true ∨ ∃ k, k < i ∧ q = cr + k ∧ ln_df (S (cl k)) (ln_K c l n le (fun j => S (cl j)) k) ≠ 0)) → (G t = some (q_ob 8 [.ref s, .int (nI W1)]) ∧ G s = some (q_ob 6 [.ref (s + 1), .ref (s + 2), .ref (s + 3)]) ∧ G (s + 1) = some (q_ia T 10 (fun i => nI (K i))) ∧ G (s + 2) = some (q_ia T 11 (fun i => nI (R i))) ∧ G a = some (q_ob 4 (li_ob a fi sr le cr n Z Q g j e)) ∧ G b = some (q_ia T N (fun x => nI (pz_F S 0 cl (fun k => S (cl k) &&& ln_K c l n le (fun j => S (cl j)) k) i x))) ∧ ∀ x, x ≠ s + 1 ∧ x ≠ s + 2 ∧ x ≠ t ∧ x ≠ b → G x = G0 x) → q_R T mX7_narrow 2 50 20 [some (.ref t), some (.ref a), some (.ref b), some (.int (nI gn)), some (.int (nI i)), x5, x6] [] G sz 0 0 E := by
  intro mZ
  induction mZ using Nat.strongRecOn with | ind mZ ih => ?_
  intro i gn W1 G x5 x6 hm hi hgn hW1 hWb hw
  obtain ⟨hT, hs, hk, hr, hl, hb, hF⟩ := hw
  obtain ⟨n10, p20, l1, c3⟩ := hr0.bd
  have le10 := hr0.2.2
  refine q_iload dX7_narrow_20 rfl ?_
  refine q_aload_n dX7_narrow_22 rfl rfl ?_
  refine q_get dX7_narrow_23 fl_X7_25 hl rfl ?_
  refine n_icmp_ge (tgt := 107) dX7_narrow_26 (by decide) (by omega) (by omega) (fun c26 => ?_) (fun c26 => ?_)
  · obtain rfl : i = le := by omega
    refine q_iload_n dX7_narrow_107 rfl ?_
    exact q_ireturn dX7_narrow_108 rfl rfl (by rw [hgn]; exact hE W1 G hW1 hWb ⟨hT, hs, hk, hr, hl, hb, hF⟩)
  · refine q_aload_n dX7_narrow_29 rfl rfl ?_
    refine q_iload dX7_narrow_30 rfl ?_
    refine q_iv (As := [_]) dX7_narrow_32 ml_X7_30 mt_X3_cellAt mi_X3_cellAt se_X3_cellAt hl rfl rfl (Nat.le_of_ble_eq_true rfl) (Nat.le_of_ble_eq_true rfl) (Nat.zero_le _) (Nat.zero_le _) (Nat.le_of_ble_eq_true rfl) (q_C.mono (c_X3_cellAt hl) (fun v G1 sz1 hq => ?_))
    obtain ⟨rfl, rfl, rfl⟩ := hq
    refine s_istore dX7_narrow_35 (by decide) rfl ?_
    refine q_aload_n dX7_narrow_37 rfl rfl ?_
    refine q_iload dX7_narrow_38 rfl ?_
    refine w_ld (k := fi + i * sr) (v := S (cl i)) dX7_narrow_40 hb rfl (by rw [hcl i]; exact (hc i (by omega)).1) (by omega) (nr_no hcl hsr i) ?_
    refine q_aload_n dX7_narrow_41 rfl rfl ?_
    refine q_get dX7_narrow_42 fl_X7_9 hT rfl ?_
    refine q_get dX7_narrow_45 fl_X7_34 hs rfl ?_
    refine q_iload dX7_narrow_48 rfl ?_
    refine w_ld (v := ln_K c l n le (fun j => S (cl j)) i) dX7_narrow_50 hk rfl (by omega) (by omega) (hK i (by omega)) ?_
    refine q_iconst (v := -1) dX7_narrow_51 (by decide) ?_
    refine q_ixor dX7_narrow_52 rfl ?_
    refine q_iand dX7_narrow_53 (ln_df_i (hc i (by omega)).2 (ln_K_lt _ _ _ _ _ _)) ?_
    refine s_istore dX7_narrow_54 (by decide) rfl ?_
    refine q_iload dX7_narrow_56 rfl ?_
    refine n_if_eq (tgt := 101) dX7_narrow_58 (by decide) (Nat.lt_trans (ln_df_lt (hc i (by omega)).2 (ln_K_lt _ _ _ _ _ _)) (by decide)) (fun c58 => ?_) (fun c58 => ?_)
    · refine s_iinc dX7_narrow_101 rfl (s_inc1 _) (by decide) rfl ?_
      refine q_goto (tgt := 20) dX7_narrow_104 (by decide) ?_
      exact ih _ (by omega) (i + 1) gn W1 G _ _ rfl (by omega) (by rw [hgn]; show _ = _ + ln_pop (ln_df (S (cl i)) (ln_K c l n le (fun j => S (cl j)) i)); rw [c58]; rfl) hW1 (fun q => by rw [hWb q]; exact ⟨fun h => by rcases h with h | ⟨k, h1, h2⟩; exact Or.inl h; exact Or.inr ⟨k, by omega, h2⟩, fun h => by rcases h with h | ⟨k, h1, h2, h3⟩; exact Or.inl h; rcases Nat.lt_or_ge k i with g | g; exact Or.inr ⟨k, g, h2, h3⟩; exact absurd c58 (by rw [show k = i by omega] at h3; exact h3)⟩) ⟨hT, hs, hk, hr, hl, by rw [hb]; show _ = some (q_ia T N (fun x => nI (va_up (pz_F S 0 cl (fun k => S (cl k) &&& ln_K c l n le (fun j => S (cl j)) k) i) (0 + cl i) (S (cl i) &&& ln_K c l n le (fun j => S (cl j)) i) x))); rw [Nat.zero_add, df_0 (hc i (by omega)).2 (ln_K_lt _ _ _ _ _ _) c58, va_up_id (by have h9 := nr_no (S := S) (new := (fun k => S (cl k) &&& ln_K c l n le (fun j => S (cl j)) k)) hcl hsr i; rw [hcl i] at h9; exact h9)], hF⟩
    · refine q_iload_n dX7_narrow_61 rfl ?_
      refine q_iload dX7_narrow_62 rfl ?_
      refine q_is (As := [_]) dX7_narrow_64 ml_X7_38 mt_J6_bitCount_0f7a4 ms_J6_bitCount_0f7a4 rfl (Nat.le_of_ble_eq_true rfl) (Nat.le_of_ble_eq_true rfl) (Nat.zero_le _) (Nat.zero_le _) (Nat.le_of_ble_eq_true rfl) (q_C.mono (c_bitCount (ln_df_lt (hc i (by omega)).2 (ln_K_lt _ _ _ _ _ _))) (fun v G1 sz1 hq => ?_))
      obtain ⟨rfl, rfl, rfl⟩ := hq
      refine q_iadd dX7_narrow_67 (nI_add _ _) ?_
      refine s_istore_n dX7_narrow_68 (by decide) rfl ?_
      refine q_aload_n dX7_narrow_69 rfl rfl ?_
      refine q_iload dX7_narrow_70 rfl ?_
      refine q_aload_n dX7_narrow_72 rfl rfl ?_
      refine q_get dX7_narrow_73 fl_X7_9 hT rfl ?_
      refine q_get dX7_narrow_76 fl_X7_34 hs rfl ?_
      refine q_iload dX7_narrow_79 rfl ?_
      refine w_ld (v := ln_K c l n le (fun j => S (cl j)) i) dX7_narrow_81 hk rfl (by omega) (by omega) (hK i (by omega)) ?_
      refine w_st (k := fi + i * sr) (v := ln_K c l n le (fun j => S (cl j)) i) dX7_narrow_82 hb rfl (by rw [hcl i]; exact (hc i (by omega)).1) (by omega) rfl (fun G hb hN => ?_)
      have hT := (hN _ (by omega)).trans hT
      have hs := (hN _ (by omega)).trans hs
      have hk := (hN _ (by omega)).trans hk
      have hr := (hN _ (by omega)).trans hr
      have hl := (hN _ (by omega)).trans hl
      have hF : ∀ x, x ≠ s + 1 ∧ x ≠ s + 2 ∧ x ≠ t ∧ x ≠ b → G x = G0 x := fun x hx => (hN x (by omega)).trans (hF x hx)
      refine q_aload_n dX7_narrow_83 rfl rfl ?_
      refine q_dup dX7_narrow_84 rfl ?_
      refine q_get dX7_narrow_85 fl_X7_15 hT rfl ?_
      refine q_iconst (v := nI 1) dX7_narrow_88 (by decide) ?_
      refine q_aload_n dX7_narrow_89 rfl rfl ?_
      refine q_get dX7_narrow_90 fl_X7_43 hl rfl ?_
      refine q_iload dX7_narrow_93 rfl ?_
      refine q_iadd dX7_narrow_95 (nI_add _ _) ?_
      refine q_ishl dX7_narrow_96 (n_shl (by omega) rfl) ?_
      refine q_ior dX7_narrow_97 (n_or _ _) ?_
      refine w_put (fs2 := [.ref s, .int (nI (W1 ||| 1 <<< (cr + i)))]) dX7_narrow_98 fl_X7_15 fp_X7_15 hT (Nat.le_of_ble_eq_true rfl) rfl rfl rfl (fun G hT hN => ?_)
      have hs := (hN _ (by omega)).trans hs
      have hk := (hN _ (by omega)).trans hk
      have hr := (hN _ (by omega)).trans hr
      have hl := (hN _ (by omega)).trans hl
      have hb := (hN _ (by omega)).trans hb
      have hF : ∀ x, x ≠ s + 1 ∧ x ≠ s + 2 ∧ x ≠ t ∧ x ≠ b → G x = G0 x := fun x hx => (hN x (by omega)).trans (hF x hx)
      refine s_iinc dX7_narrow_101 rfl (s_inc1 _) (by decide) rfl ?_
      refine q_goto (tgt := 20) dX7_narrow_104 (by decide) ?_
      exact ih _ (by omega) (i + 1) _ (W1 ||| 1 <<< (cr + i)) G _ _ rfl (by omega) (by rw [hgn]; rfl) (fun h => bt_lt20 (hW1 h) (by omega)) (fun q => by rw [bt_or1, hWb q]; exact ⟨fun h => by rcases h with (h | ⟨k, h1, h2⟩) | h; exact Or.inl h; exact Or.inr ⟨k, by omega, h2⟩; exact Or.inr ⟨i, by omega, h, c58⟩, fun h => by rcases h with h | ⟨k, h1, h2, h3⟩; exact Or.inl (Or.inl h); rcases Nat.lt_or_ge k i with g | g; exact Or.inl (Or.inr ⟨k, g, h2, h3⟩); exact Or.inr (by rw [h2]; omega)⟩) ⟨hT, hs, hk, hr, hl, by rw [hb]; show _ = some (q_ia T N (fun x => nI (va_up (pz_F S 0 cl (fun k => S (cl k) &&& ln_K c l n le (fun j => S (cl j)) k) i) (0 + cl i) (S (cl i) &&& ln_K c l n le (fun j => S (cl j)) i) x))); rw [Nat.zero_add, ln_K_and l1 c3 (show i < le by omega) (may := fun j => S (cl j)) (hc i (by omega)).2, hcl i], hF⟩

set_option maxHeartbeats 4000000 in
set_option maxRecDepth 100000 in
theorem c_X7_narrow {T : q_T} {G0 : q_G} {sz t s a b N fi sr le cr n W : Nat} {c l S cl : Nat → Nat} (hT : G0 t = some (q_ob 8 [.ref s, .int (nI W)])) (hS : Scn T G0 s) (hL : Lin T G0 a fi sr le cr c l n) (hb : G0 b = some (q_ia T N (fun i => nI (S i)))) (hds : a + 4 ≤ s ∨ s + 4 ≤ a) (hdb : b < s ∨ s + 4 ≤ b) (hdt : t < s ∨ s + 4 ≤ t) (hda : t < a ∨ a + 4 ≤ t) (hdt2 : t ≠ b) (hdl : b < a ∨ a + 4 ≤ b) (hN1 : N ≤ 1000) (hcl : ∀ i, fi + i * sr = cl i) (hsr : 1 ≤ sr) (hcr : cr + le ≤ 20) (hc : ∀ i, i < le → cl i < N ∧ S (cl i) < 16) : q_C T mX7_narrow 2 50 0 0 [.ref t, .ref a, .ref b] G0 sz (fun v G' sz' => sz = sz' ∧ (∀ x, x ≠ s + 1 ∧ x ≠ s + 2 ∧ x ≠ t ∧ x ≠ b → G' x = G0 x) ∧ (∃ K R : Nat → Nat, G' (s + 1) = some (q_ia T 10 (fun i => nI (K i))) ∧ G' (s + 2) = some (q_ia T 11 (fun i => nI (R i)))) ∧ ((ln_W c l n le (fun j => S (cl j)) = 0 ∧ v = some (.int (-2)) ∧ G' t = G0 t ∧ G' b = G0 b) ∨ (0 < ln_W c l n le (fun j => S (cl j)) ∧ v = some (.int (nI (gn_f (fun k => ln_df (S (cl k)) (ln_K c l n le (fun j => S (cl j)) k)) le))) ∧ G' b = some (q_ia T N (fun x => nI (pz_F S 0 cl (fun k => S (cl k) &&& ln_K c l n le (fun j => S (cl j)) k) le x))) ∧ ∃ W1, (W < 2 ^ 20 → W1 < 2 ^ 20) ∧ G' t = some (q_ob 8 [.ref s, .int (nI W1)]) ∧ ∀ q, (W1.testBit q = true ↔ W.testBit q = true ∨ ∃ k, k < le ∧ q = cr + k ∧ ln_df (S (cl k)) (ln_K c l n le (fun j => S (cl j)) k) ≠ 0)))) := by
  refine q_C.of (by decide) rfl (by simp [Value.category]) (Nat.le_of_ble_eq_true rfl) ?_
  refine q_aload_n dX7_narrow_0 rfl rfl ?_
  refine q_get dX7_narrow_1 fl_X7_9 hT rfl ?_
  refine q_aload_n dX7_narrow_4 rfl rfl ?_
  refine q_aload_n dX7_narrow_5 rfl rfl ?_
  refine q_iv (As := [_, _]) dX7_narrow_6 ml_X7_19 mt_X5_weigh mi_X5_weigh se_X5_weigh hS.1 rfl rfl (Nat.le_of_ble_eq_true rfl) (Nat.le_of_ble_eq_true rfl) (Nat.zero_le _) (Nat.zero_le _) (Nat.le_of_ble_eq_true rfl) (q_C.mono (c_X5_weigh hS hL hb hds hdb hN1 (fun i hi => by rw [hcl i]; exact hc i hi)) (fun v G sz1 hq => ?_))
  obtain ⟨rfl, hN, hv, K, R, hk, hr⟩ := hq
  have hmay : (fun i => S (fi + i * sr)) = (fun j => S (cl j)) := funext fun i => by rw [hcl i]
  rw [hmay] at hv
  have hb0 := hb
  have hT0 := hT
  have hT := (hN _ (by omega)).trans hT
  have hb := (hN _ (by omega)).trans hb
  have hs := (hN _ (by omega)).trans hS.1
  have hL := hL.fr (fun b b1 b2 => hN b (by omega))
  have hF : ∀ x, x ≠ s + 1 ∧ x ≠ s + 2 ∧ x ≠ t ∧ x ≠ b → G x = G0 x := fun x hx => hN x ⟨hx.1, hx.2.1⟩
  rcases hv with ⟨hv, rfl⟩ | ⟨hv, rfl, K, hk, hK⟩
  · refine q_if_ne (tgt := 15) dX7_narrow_9 (by decide) (fun h => absurd h (by decide)) (fun _ => ?_)
    refine q_bipush (v := -2) dX7_narrow_12 (by decide) ?_
    exact q_ireturn dX7_narrow_14 rfl rfl ⟨rfl, hF, ⟨_, _, hk, hr⟩, Or.inl ⟨hv, rfl, hT.trans hT0.symm, hb.trans hb0.symm⟩⟩
  · refine q_if_ne (tgt := 15) dX7_narrow_9 (by decide) (fun _ => ?_) (fun h => absurd h (by decide))
    obtain ⟨g, j, e, C, Ln, P, hl, -, -, -, -, -, hr0⟩ := hL
    refine q_iconst (v := nI 0) dX7_narrow_15 (by decide) ?_
    refine s_istore_n dX7_narrow_16 (by decide) rfl ?_
    refine q_iconst (v := nI 0) dX7_narrow_17 (by decide) ?_
    refine s_istore dX7_narrow_18 (by decide) rfl ?_
    exact l_narrow hds hdb hdt hda hdt2 hdl hN1 hcl hsr hcr hc hr0 hK (fun W1 G h1 h2 h3 => ⟨rfl, h3.2.2.2.2.2.2, ⟨_, _, h3.2.2.1, h3.2.2.2.1⟩, Or.inr ⟨hv, rfl, h3.2.2.2.2.2.1, W1, h1, h3.1, h2⟩⟩) _ 0 0 W G _ _ rfl (Nat.zero_le _) rfl id (fun q => ⟨Or.inl, fun h => by rcases h with h | ⟨k, h1, _⟩; exact h; exact absurd h1 (Nat.not_lt_zero _)⟩) ⟨hT, hs, hk, hr, hl, hb, hF⟩
