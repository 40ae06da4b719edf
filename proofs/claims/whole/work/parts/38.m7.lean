theorem Scr.lt {I I' : md_I} {A A' : md_A} (h : Scr I I' A A') : ∀ k, k < 10 → A' k = A k := fun k hk => h.2 k (Or.inl hk)
/-- the sets from o on are S; those ahead of o are as they were -/
def Sv (A A' : md_A) (o : Nat) (S : Nat → Nat) : Prop := (∀ x, A' 10 (o + x) = S x) ∧ ∀ j, j < o → A' 10 j = A 10 j

theorem nI_m1 {a : Nat} (h : a < 2 ^ 31) : ¬ nI a = -1 := fun e => absurd (by rw [e]; decide) (nI_pos h)

set_option maxHeartbeats 4000000 in
set_option maxRecDepth 100000 in
/-- a round -/
theorem l_X9_settles1 {T : q_T} {m : Nat} {G0 : q_G} {I : md_I} {A : md_A} {sz : Nat} {E : q_E} {p o r : Nat} {S0 : Nat → Nat} (hz : Pz A p) (ho : o + 100 ≤ 10400) (hS0 : Ps A p S0) (hx : ∀ (G : q_G) (I1 : md_I) (A1 : md_A) (S1 : Nat → Nat) (g : Nat) (x7 : Option Value), pz_rd A p (A 1 p + A 2 p) S0 = some (S1, g) → Mod T m G0 I1 A1 G → Scr I I1 A A1 → Sv A A1 o S1 → q_R T mX9_settles 4 101 57 [some (.ref m), some (.int (nI p)), some (.int (nI o)), some (.int (nI r)), some (.int (nI 1)), some (.int (nI g)), some (.int (nI (A 1 p + A 2 p))), x7] [] G sz 0 0 E) (hb : ∀ (G : q_G) (I1 : md_I) (A1 : md_A), pz_rd A p (A 1 p + A 2 p) S0 = none → Mod T m G0 I1 A1 G → Scr I I1 A A1 → (∀ j, j < o → A1 10 j = A 10 j) → E (some (.int (-1))) G sz) : ∀ (k : Nat) (a : q_G × md_I × md_A × (Nat → Nat) × Nat), ∀ x7 : Option Value, k ≤ A 1 p + A 2 p → pz_rd A p k S0 = some (a.2.2.2.1, a.2.2.2.2) → Mod T m G0 a.2.1 a.2.2.1 a.1 → Scr I a.2.1 A a.2.2.1 → Sv A a.2.2.1 o a.2.2.2.1 → q_R T mX9_settles 4 101 16 [some (.ref m), some (.int (nI p)), some (.int (nI o)), some (.int (nI r)), some (.int (nI 1)), some (.int (nI a.2.2.2.2)), some (.int (nI k)), x7] [] a.1 sz 0 0 E := by
  refine q_indN (fun k _ => A 1 p + A 2 p - k) _ (fun k a ih => ?_)
  obtain ⟨G, I1, A1, Sk, g⟩ := a
  intro x7 hk hrd hM hR hV
  dsimp only at hrd hM hR hV ih ⊢
  obtain ⟨hps, -, -⟩ := pz_rd_inv hz hS0 k hk _ _ hrd
  have hp30 := hz.1
  have hw10 := hz.2.1.2
  have hh10 := hz.2.2.1.2
  refine q_iload dX9_settles_16 rfl ?_
  refine q_aload_n dX9_settles_18 rfl rfl ?_
  refine q_iload_n dX9_settles_19 rfl ?_
  refine q_iv (As := [_]) dX9_settles_20 ml_X9_104 mt_X9_linesOf mi_X9_linesOf se_X9_linesOf hM.1 rfl rfl (Nat.le_of_ble_eq_true rfl) (Nat.le_of_ble_eq_true rfl) (Nat.zero_le _) (Nat.zero_le _) (Nat.le_of_ble_eq_true rfl) (q_C.mono (c_X9_linesOf (w := A 1 p) (h := A 2 p) hM hz.1 (congrFun (hR.lt 1 (by decide)) p) (congrFun (hR.lt 2 (by decide)) p)) (fun v G1 sz1 hq => ?_))
  obtain ⟨rfl, rfl, rfl⟩ := hq
  refine n_icmp_ge (tgt := 57) dX9_settles_23 (by decide) (by omega) (by omega) (fun c23 => ?_) (fun c23 => ?_)
  · obtain rfl : k = A 1 p + A 2 p := by omega
    exact hx G I1 A1 Sk g _ hrd hM hR hV
  · refine q_aload_n dX9_settles_26 rfl rfl ?_
    refine q_iload_n dX9_settles_27 rfl ?_
    refine q_iload dX9_settles_28 rfl ?_
    refine q_iload_n dX9_settles_30 rfl ?_
    refine q_iv (As := [_, _, _]) dX9_settles_31 ml_X9_153 mt_X9_steps mi_X9_steps se_X9_steps hM.1 rfl rfl (Nat.le_of_ble_eq_true rfl) (Nat.le_of_ble_eq_true rfl) (Nat.zero_le _) (Nat.zero_le _) (Nat.le_of_ble_eq_true rfl) (q_C.mono (c_X9_steps hM (hz.same hR.lt) (by rw [hR.lt 1 (by decide), hR.lt 2 (by decide)]; exact c23) ho ((show (fun x => A1 10 (o + x)) = Sk from funext hV.1) ▸ hps.same hR.lt)) (fun v G sz1 hq => ?_))
    rw [show (fun x => A1 10 (o + x)) = Sk from funext hV.1, pz_same_W hR.lt, pz_same_gone hR.lt, pz_same_stp hR.lt] at hq
    obtain ⟨rfl, I2, A2, hM, hR2, ⟨hw0, rfl, h10⟩ | ⟨hw0, rfl, h10, h10j⟩⟩ := hq
    · refine s_istore dX9_settles_34 (by decide) rfl ?_
      refine q_iload dX9_settles_36 rfl ?_
      refine q_iconst (v := -1) dX9_settles_38 (by decide) ?_
      refine q_icmp_ne (tgt := 44) dX9_settles_39 (by decide) (fun h => absurd rfl h) (fun _ => ?_)
      refine q_iconst (v := -1) dX9_settles_42 (by decide) ?_
      exact q_ireturn dX9_settles_43 rfl rfl (hb G I2 A2 (by obtain ⟨d, hd⟩ := Nat.exists_eq_add_of_le (show k + 1 ≤ A 1 p + A 2 p by omega); rw [hd]; exact pz_rd_none (by rw [pz_rd_s hrd, if_pos hw0]) d) hM (hR.trans hR2) (fun j hj => by rw [h10]; exact hV.2 j hj))
    · refine s_istore dX9_settles_34 (by decide) rfl ?_
      refine q_iload dX9_settles_36 rfl ?_
      refine q_iconst (v := -1) dX9_settles_38 (by decide) ?_
      refine q_icmp_ne (tgt := 44) dX9_settles_39 (by decide) (fun _ => ?_) (fun h => absurd h (nI_m1 (by have := pz_tot_stp hz c23 hps; have := pz_tot_le hz hps; omega)))
      refine q_iload dX9_settles_44 rfl ?_
      refine q_iload dX9_settles_46 rfl ?_
      refine q_iadd dX9_settles_48 (nI_add _ _) ?_
      refine s_istore dX9_settles_49 (by decide) rfl ?_
      refine s_iinc dX9_settles_51 rfl (s_inc1 _) (by decide) rfl ?_
      refine q_goto (tgt := 16) dX9_settles_54 (by decide) ?_
      exact ih (k + 1) (G, I2, A2, pz_stp A p k Sk, g + pz_gone A p k Sk) (by omega) _ (by omega) (by rw [pz_rd_s hrd, if_neg (by omega)]) hM (hR.trans hR2) ⟨h10, fun j hj => (h10j j hj).trans (hV.2 j hj)⟩

set_option maxHeartbeats 4000000 in
set_option maxRecDepth 100000 in
/-- rounds, as long as one took something -/
theorem l_X9_settles2 {T : q_T} {m : Nat} {G0 : q_G} {I : md_I} {A : md_A} {sz : Nat} {E : q_E} {p o : Nat} (hz : Pz A p) (ho : o + 100 ≤ 10400) : ∀ (f r : Nat) (S : Nat → Nat) (G : q_G) (I1 : md_I) (A1 : md_A) (x5 x6 x7 : Option Value), pz_tot A p S < f → Ps A p S → Mod T m G0 I1 A1 G → Scr I I1 A A1 → Sv A A1 o S → (∀ (G : q_G) (I2 : md_I) (A2 : md_A), pz_st A p f S = none → Mod T m G0 I2 A2 G → Scr I I2 A A2 → (∀ j, j < o → A2 10 j = A 10 j) → E (some (.int (-1))) G sz) → (∀ (G : q_G) (I2 : md_I) (A2 : md_A) (r' : Nat) (S' : Nat → Nat), pz_st A p f S = some (r', S') → Mod T m G0 I2 A2 G → Scr I I2 A A2 → Sv A A2 o S' → E (some (.int (nI (r + r')))) G sz) → q_R T mX9_settles 4 101 5 [some (.ref m), some (.int (nI p)), some (.int (nI o)), some (.int (nI r)), some (.int (nI 1)), x5, x6, x7] [] G sz 0 0 E := by
  intro f
  induction f with
  | zero => intro r S G I1 A1 x5 x6 x7 hf; omega
  | succ f ih =>
    intro r S G I1 A1 x5 x6 x7 hf hps hM hR hV hN hY
    refine q_iload dX9_settles_5 rfl ?_
    refine q_if_eq (tgt := 85) dX9_settles_7 (by decide) (fun h => absurd h (by decide)) (fun _ => ?_)
    refine q_iconst (v := nI 0) dX9_settles_10 (by decide) ?_
    refine s_istore dX9_settles_11 (by decide) rfl ?_
    refine q_iconst (v := nI 0) dX9_settles_13 (by decide) ?_
    refine s_istore dX9_settles_14 (by decide) rfl ?_
    refine l_X9_settles1 (I := I) (A := A) hz ho hps (fun G I2 A2 S1 g x7 hrd hM hR2 hV2 => ?_) (fun G I2 A2 hrd hM hR2 hj => ?_) 0 (G, I1, A1, S, 0) _ (Nat.zero_le _) rfl hM hR hV
    · refine q_iload dX9_settles_57 rfl ?_
      obtain ⟨i1, i2, i3⟩ := pz_rd_inv hz hps _ (Nat.le_refl _) _ _ hrd
      have htot := pz_tot_le hz hps
      refine n_if_le (tgt := 66) dX9_settles_59 (by decide) (by omega) (fun c59 => ?_) (fun c59 => ?_)
      · refine q_iconst (v := nI 0) dX9_settles_66 (by decide) ?_
        refine s_istore dX9_settles_67 (by decide) rfl ?_
        refine q_iload_n dX9_settles_69 rfl ?_
        refine q_iload dX9_settles_70 rfl ?_
        refine q_if_eq (tgt := 79) dX9_settles_72 (by decide) (fun _ => ?_) (fun h => absurd h (by decide))
        refine q_iconst (v := nI 0) dX9_settles_79 (by decide) ?_
        refine q_iadd dX9_settles_80 (nI_add _ _) ?_
        refine s_istore_n dX9_settles_81 (by decide) rfl ?_
        refine q_goto (tgt := 5) dX9_settles_82 (by decide) ?_
        refine q_iload dX9_settles_5 rfl ?_
        refine q_if_eq (tgt := 85) dX9_settles_7 (by decide) (fun _ => ?_) (fun h => absurd h (by decide))
        refine q_iload_n dX9_settles_85 rfl ?_
        exact q_ireturn dX9_settles_86 rfl rfl (hY G I2 A2 0 S1 (by show (match pz_rd A p (A 1 p + A 2 p) S with | none => none | some (S1, g) => if g = 0 then some (0, S1) else match pz_st A p f S1 with | none => none | some (r, S2) => some (r + 1, S2)) = _; rw [hrd]; dsimp only; rw [if_pos c59]) hM hR2 hV2)
      · refine q_iconst (v := nI 1) dX9_settles_62 (by decide) ?_
        refine q_goto (tgt := 67) dX9_settles_63 (by decide) ?_
        refine s_istore dX9_settles_67 (by decide) rfl ?_
        refine q_iload_n dX9_settles_69 rfl ?_
        refine q_iload dX9_settles_70 rfl ?_
        refine q_if_eq (tgt := 79) dX9_settles_72 (by decide) (fun h => absurd h (by decide)) (fun _ => ?_)
        refine q_iconst (v := nI 1) dX9_settles_75 (by decide) ?_
        refine q_goto (tgt := 80) dX9_settles_76 (by decide) ?_
        refine q_iadd dX9_settles_80 (nI_add _ _) ?_
        refine s_istore_n dX9_settles_81 (by decide) rfl ?_
        refine q_goto (tgt := 5) dX9_settles_82 (by decide) ?_
        refine ih (r + 1) S1 G I2 A2 _ _ _ (by omega) i1 hM hR2 hV2 (fun G I3 A3 e hM hR3 hj => hN G I3 A3 ?_ hM hR3 hj) (fun G I3 A3 r' S' e hM hR3 hV3 => ?_)
        · show (match pz_rd A p (A 1 p + A 2 p) S with | none => none | some (S1, g) => if g = 0 then some (0, S1) else match pz_st A p f S1 with | none => none | some (r, S2) => some (r + 1, S2)) = none
          rw [hrd]; dsimp only; rw [if_neg (by omega), e]
        · rw [show r + 1 + r' = r + (r' + 1) by omega]
          refine hY G I3 A3 (r' + 1) S' ?_ hM hR3 hV3
          show (match pz_rd A p (A 1 p + A 2 p) S with | none => none | some (S1, g) => if g = 0 then some (0, S1) else match pz_st A p f S1 with | none => none | some (r, S2) => some (r + 1, S2)) = _
          rw [hrd]; dsimp only; rw [if_neg (by omega), e]
    · exact hN G I2 A2 (by show (match pz_rd A p (A 1 p + A 2 p) S with | none => none | some (S1, g) => _) = none; rw [hrd]) hM hR2 hj

set_option maxHeartbeats 4000000 in
set_option maxRecDepth 100000 in
theorem c_X9_settles {T : q_T} {m : Nat} {G0 G : q_G} {I : md_I} {A : md_A} {sz : Nat} (hM : Mod T m G0 I A G) {p o : Nat} (hz : Pz A p) (ho : o + 100 ≤ 10400) (hs : Ps A p (fun x => A 10 (o + x))) : q_C T mX9_settles 4 101 0 0 [.ref m, .int (nI p), .int (nI o)] G sz (fun v G' sz' => sz = sz' ∧ ∃ (I' : md_I) (A' : md_A), Mod T m G0 I' A' G' ∧ Scr I I' A A' ∧ ((pz_st A p 401 (fun x => A 10 (o + x)) = none ∧ v = some (.int (-1)) ∧ ∀ j, j < o → A' 10 j = A 10 j) ∨ ∃ (r : Nat) (S' : Nat → Nat), pz_st A p 401 (fun x => A 10 (o + x)) = some (r, S') ∧ v = some (.int (nI r)) ∧ Sv A A' o S')) := by
  refine q_C.of (by decide) rfl (by simp [Value.category]) (Nat.le_of_ble_eq_true rfl) ?_
  refine q_iconst (v := nI 0) dX9_settles_0 (by decide) ?_
  refine s_istore_n dX9_settles_1 (by decide) rfl ?_
  refine q_iconst (v := nI 1) dX9_settles_2 (by decide) ?_
  refine s_istore dX9_settles_3 (by decide) rfl ?_
  exact l_X9_settles2 hz ho 401 0 (fun x => A 10 (o + x)) G I A _ _ _ (by have := pz_tot_le hz hs; omega) hs hM Scr.rfl' ⟨fun _ => rfl, fun _ _ => rfl⟩ (fun G I2 A2 e hM hR hj => ⟨rfl, I2, A2, hM, hR, Or.inl ⟨e, rfl, hj⟩⟩) (fun G I2 A2 r' S' e hM hR hV => ⟨rfl, I2, A2, hM, hR, Or.inr ⟨r', S', e, by rw [Nat.zero_add], hV⟩⟩)
