/-! PURE: children of sets at rest; what a push keeps -/
theorem Wt.child {A : md_A} {p c : Nat} {S S' : Nat → Nat} (hz : Pz A p) (hr : ∀ k, k < A 1 p + A 2 p → Rst A p S k) (hc : c < A 1 p * A 2 p) (hS : ∀ x, x < A 1 p * A 2 p → x ≠ c → S' x = S x) : Wt A p (th_b (A 1 p) (A 2 p) c) S' := by
  have hw := hz.2.1
  have hh := hz.2.2.1
  obtain ⟨t1, t2, t3⟩ := th_lt hw hh.2 hc
  refine ⟨th_lt20 hw hh.2 hc, fun q hq => ?_, fun k hk hb => ?_⟩
  · rw [th_bit hw hh.2 hc, decide_eq_true_eq] at hq
    omega
  · rw [th_bit hw hh.2 hc, decide_eq_false_iff_not] at hb
    refine (hr k hk).same (fun i hi => (hS _ (pz_cell_lt hz hk hi) (fun e => hb ?_)).symm)
    unfold pz_cell ln_cell at e
    unfold pz_L at hi
    by_cases h1 : k < A 2 p
    · rw [if_pos h1] at e hi
      left
      rw [← e, Nat.mul_comm, Nat.mul_add_div (by omega), Nat.div_eq_of_lt hi, Nat.add_zero]
    · rw [if_neg h1] at e hi
      right
      have e2 : c = A 1 p * i + (k - A 2 p) := by rw [← e, Nat.mul_comm]; omega
      rw [e2, Nat.mul_add_mod, Nat.mod_eq_of_lt (by omega)]
      omega
theorem pz_oc_ones {S : Nat → Nat} : ∀ n, (∀ x, x < n → ln_pop (S x) < 2) → pz_oc S n = none
  | 0, _ => rfl
  | n + 1, h => by
    rw [pz_oc_s, pz_oc_ones n (fun x hx => h x (by omega))]
    dsimp only
    rw [if_neg (by have := h n (by omega); omega)]
theorem pop_pos {s : Nat} (h : s < 16) (h1 : 1 ≤ s) : 1 ≤ ln_pop s := by
  have key : ∀ s, s < 16 → 1 ≤ s → 1 ≤ ln_pop s := by decide +kernel
  exact key s h h1
theorem dc_oc {S : Nat → Nat} {n : Nat} (hs : ∀ x, x < n → S x < 16 ∧ 1 ≤ S x) : dc_n S n = n ↔ pz_oc S n = none := by
  rw [dc_all]
  constructor
  · exact fun h => pz_oc_ones n (fun x hx => by rw [h x hx]; decide)
  · intro h x hx
    have h1 := pz_oc_none n h x hx
    have h2 := pop_pos (hs x hx).1 (hs x hx).2
    omega
theorem sr_ok_push {A : md_A} {p h : Nat} {LS : Nat → Nat → Nat} {C X X' : Nat → Nat} {f : Nat} {P : Nat → Nat → Nat} {t t' : Nat} {S : Nat → Nat} (hz : Pz A p) (hok : sr_ok A p (h, LS, C, X, f, P, t)) (hps : Ps A p S) (hpn : Pn A p S) (hno : ∀ S1, Ps A p S1 → pz_sub A p S1 S → pz_no A p S1 + h ≤ A 1 p * A 2 p) : sr_ok A p (sr_push A p S (h, LS, C, X', f, P, t')) := by
  unfold sr_push
  dsimp only
  cases e : sr_op A p S with
  | none => exact hok
  | some z =>
    obtain ⟨o, S1⟩ := z
    cases o with
    | none => exact hok
    | some b =>
      obtain ⟨i1, i2, i3, i4⟩ := sr_op_inv hz hps hpn e
      intro d hd
      dsimp only at hd ⊢
      by_cases hdh : d = h
      · subst hdh
        rw [va_up_s, va_up_s]
        exact ⟨i1, i2, (i4 b rfl).1, (i4 b rfl).2, hno S1 i1 i3⟩
      · rw [va_up_n _ _ hdh, va_up_n _ _ hdh]
        exact hok d (show d < h by omega)

set_option maxHeartbeats 4000000 in
set_option maxRecDepth 100000 in
theorem c_X6_staysOpen {T : q_T} {G0 : q_G} {sz s u D a p R f t c x : Nat} {A : md_A} {S P : Nat → Nat} (hS : Scn T G0 s) (hT : ∃ W, G0 (s + 4) = some (q_ob 8 [.ref s, .int (nI W)])) (hPl : PuzL T G0 u A p D) (hL : Lev T G0 a S c x) (he : G0 (s + 5) = some (q_ob 7 [.ref (s + 6), .int (nI (f)), .int (nI (t)), .int (nI ((A 1 p * A 2 p))), .ref (s + 4), .ref (s + 7)])) (hp : G0 (s + 6) = some (q_ia T 500 (fun i => nI (P i)))) (hps : Ps A p S) (hpn : Pn A p S) (hW : Wt A p R S) (hz : Pz A p) (hf : f < 5) (hsu : s + 8 ≤ u) (hsa : s + 8 ≤ a) (hau : a + 2 ≤ u ∨ u + 2 + 4 * (A 1 p + A 2 p) ≤ a) : q_C T mX6_staysOpen 4 104 0 0 [.ref (s + 5), .ref u, .ref a, .int (nI R)] G0 sz (fun v G' sz' => sz = sz' ∧ (∀ b, b ≠ s + 1 ∧ b ≠ s + 2 ∧ b ≠ s + 4 ∧ b ≠ s + 5 ∧ b ≠ s + 6 ∧ b ≠ a ∧ b ≠ a + 1 → G' b = G0 b) ∧ Scn T G' s ∧ (∃ W, G' (s + 4) = some (q_ob 8 [.ref s, .int (nI W)])) ∧ (∃ S1 c1 x1, Lev T G' a S1 c1 x1) ∧ ((sr_op A p S = none ∧ v = some (.int (nI 0)) ∧ G' (s + 5) = some (q_ob 7 [.ref (s + 6), .int (nI (f)), .int (nI (t)), .int (nI ((A 1 p * A 2 p))), .ref (s + 4), .ref (s + 7)]) ∧ G' (s + 6) = some (q_ia T 500 (fun i => nI (P i)))) ∨ (∃ S2, sr_op A p S = some (none, S2) ∧ v = some (.int (nI 0)) ∧ G' (s + 5) = some (q_ob 7 [.ref (s + 6), .int (nI (f + 1)), .int (nI (t)), .int (nI ((A 1 p * A 2 p))), .ref (s + 4), .ref (s + 7)]) ∧ ∃ P1 : Nat → Nat, G' (s + 6) = some (q_ia T 500 (fun i => nI (P1 i))) ∧ (∀ k, k < A 1 p * A 2 p → P1 (100 * f + k) = pz_log (S2 k)) ∧ ∀ j, j < 100 * f → P1 j = P j) ∨ (∃ b S2, sr_op A p S = some (some b, S2) ∧ v = some (.int (nI 1)) ∧ G' (s + 5) = some (q_ob 7 [.ref (s + 6), .int (nI (f)), .int (nI (t)), .int (nI ((A 1 p * A 2 p))), .ref (s + 4), .ref (s + 7)]) ∧ G' (s + 6) = some (q_ia T 500 (fun i => nI (P i))) ∧ ∃ S1, Lev T G' a S1 b 0 ∧ pz_on A p S1 S2 ∧ ∀ k, k < A 1 p + A 2 p → Rst A p S1 k))) := by
  refine q_C.of (by decide) rfl (by simp [Value.category]) (Nat.le_of_ble_eq_true rfl) ?_
  obtain ⟨W, hT⟩ := hT
  have ha := hL.1
  have hu := hPl.1
  refine q_aload_n dX6_staysOpen_0 rfl rfl ?_
  refine q_get dX6_staysOpen_1 fl_X6_9 he rfl ?_
  refine q_aload_n dX6_staysOpen_4 rfl rfl ?_
  refine q_aload_n dX6_staysOpen_5 rfl rfl ?_
  refine q_get dX6_staysOpen_6 fl_X6_45 ha rfl ?_
  refine q_iload_n dX6_staysOpen_9 rfl ?_
  refine q_iv (As := [_, _, _]) dX6_staysOpen_10 ml_X6_74 mt_X7_bringToRest mi_X7_bringToRest se_X7_bringToRest hT rfl rfl (Nat.le_of_ble_eq_true rfl) (Nat.le_of_ble_eq_true rfl) (Nat.zero_le _) (Nat.zero_le _) (Nat.le_of_ble_eq_true rfl) (q_C.mono (c_X7_bringToRest hS ⟨W, hT⟩ hPl hL.2 hps hW hz ⟨pz_size hz, by omega⟩ (by omega) (by omega) (by omega)) (fun v G sz1 hq => ?_))
  obtain ⟨rfl, hN, hS, hT, S1, hs, hv⟩ := hq
  have ha := (hN a (by omega)).trans hL.1
  have he := (hN _ (by omega)).trans he
  have hp := (hN _ (by omega)).trans hp
  have hPl := hPl.fr (fun b b1 b2 => hN b (by omega))
  have hu := hPl.1
  have hF : ∀ b, b ≠ s + 1 ∧ b ≠ s + 2 ∧ b ≠ s + 4 ∧ b ≠ s + 5 ∧ b ≠ s + 6 ∧ b ≠ a ∧ b ≠ a + 1 → G b = G0 b := fun b hb => hN b (by omega)
  rcases hv with ⟨hst, rfl⟩ | ⟨r, S2, hst, rfl, ho, hrst⟩
  · refine q_bipush (v := -2) dX6_staysOpen_13 (by decide) ?_
    refine q_icmp_ne (tgt := 20) dX6_staysOpen_15 (by decide) (fun h => absurd h (by decide)) (fun _ => ?_)
    refine q_iconst (v := nI 0) dX6_staysOpen_18 (by decide) ?_
    exact q_ireturn dX6_staysOpen_19 rfl (by decide +kernel) ⟨rfl, hF, hS, hT, ⟨S1, c, x, ha, hs⟩, Or.inl ⟨by unfold sr_op; rw [hst], rfl, he, hp⟩⟩
  · obtain ⟨ip, it, ir, -⟩ := pz_st_inv hz 401 S hps r S2 hst
    have htl := pz_tot_le hz hps
    have ip1 := pz_on_ps ho.symm ip
    have hoc := pz_oc_congr (A 1 p * A 2 p) (fun x hx => ho x hx)
    have hpn1 : ∀ x, x < A 1 p * A 2 p → S1 x < 16 ∧ 1 ≤ S1 x := fun x hx => ⟨ip1 x hx, by rw [ho x hx]; exact (pz_st_more hz 401 S hps hpn r S2 hst).1 x hx⟩
    refine q_bipush (v := -2) dX6_staysOpen_13 (by decide) ?_
    refine q_icmp_ne (tgt := 20) dX6_staysOpen_15 (by decide) (fun c15 => ?_) (fun c15 => absurd c15 (nI_nm2 (by omega)))
    refine q_aload_n dX6_staysOpen_20 rfl rfl ?_
    refine q_aload_n dX6_staysOpen_21 rfl rfl ?_
    refine q_get dX6_staysOpen_22 fl_X6_45 ha rfl ?_
    refine q_iv (As := [_]) dX6_staysOpen_25 ml_X6_80 mt_X4_decidedCells mi_X4_decidedCells se_X4_decidedCells hu rfl rfl (Nat.le_of_ble_eq_true rfl) (Nat.le_of_ble_eq_true rfl) (Nat.zero_le _) (Nat.zero_le _) (Nat.le_of_ble_eq_true rfl) (q_C.mono (c_X4_decidedCells hu hs ⟨pz_size hz, by omega⟩ (fun x hx => (hpn1 x hx).1)) (fun v G1 sz1 hq => ?_))
    obtain ⟨rfl, rfl, rfl⟩ := hq
    have hdl := dc_le S1 (A 1 p * A 2 p)
    have hsz := pz_size hz
    refine q_aload_n dX6_staysOpen_28 rfl rfl ?_
    refine q_get dX6_staysOpen_29 fl_X6_32 he rfl ?_
    refine n_icmp_ne (tgt := 45) dX6_staysOpen_32 (by decide) (by omega) (by omega) (fun c32 => ?_) (fun c32 => ?_)
    · refine q_aload_n dX6_staysOpen_45 rfl rfl ?_
      refine q_aload_n dX6_staysOpen_46 rfl rfl ?_
      refine q_get dX6_staysOpen_47 fl_X6_32 he rfl ?_
      refine q_iv (As := [_]) dX6_staysOpen_50 ml_X6_88 mt_X2_pickCell mi_X2_pickCell se_X2_pickCell ha rfl rfl (Nat.le_of_ble_eq_true rfl) (Nat.le_of_ble_eq_true rfl) (Nat.zero_le _) (Nat.zero_le _) (Nat.le_of_ble_eq_true rfl) (q_C.mono (c_X2_pickCell ha hs hsz (fun i hi => (hpn1 i hi).1)) (fun v G sz1 hq => ?_))
      obtain ⟨rfl, rfl, ha, hN⟩ := hq
      have hS := hS.fr (fun b b1 b2 => hN b (by omega))
      have hT := hT.imp (fun W h => (hN _ (by omega)).trans h)
      have hs := (hN _ (by omega)).trans hs
      have he := (hN _ (by omega)).trans he
      have hp := (hN _ (by omega)).trans hp
      have hF : ∀ b, b ≠ s + 1 ∧ b ≠ s + 2 ∧ b ≠ s + 4 ∧ b ≠ s + 5 ∧ b ≠ s + 6 ∧ b ≠ a ∧ b ≠ a + 1 → G b = G0 b := fun b hb => (hN b (by omega)).trans (hF b hb)
      obtain ⟨b, nb, hob⟩ : ∃ b nb, pz_oc S1 (A 1 p * A 2 p) = some (b, nb) := by
        cases e : pz_oc S1 (A 1 p * A 2 p) with
        | none => exact absurd ((dc_oc hpn1).mpr e) c32
        | some z => exact ⟨z.1, z.2, rfl⟩
      have hpb : pc_b S1 (A 1 p * A 2 p) = b := by unfold pc_b; rw [hob]
      rw [hpb] at ha
      have hop : sr_op A p S = some (some b, S2) := by unfold sr_op; rw [hst]; dsimp only; rw [← hoc, hob]
      refine q_iconst (v := nI 1) dX6_staysOpen_53 (by decide) ?_
      exact q_ireturn dX6_staysOpen_54 rfl (by decide +kernel) ⟨rfl, hF, hS, hT, ⟨S1, b, 0, ha, hs⟩, Or.inr (Or.inr ⟨b, S2, hop, rfl, he, hp, S1, ⟨ha, hs⟩, ho, hrst⟩)⟩
    · refine q_aload_n dX6_staysOpen_35 rfl rfl ?_
      refine q_aload_n dX6_staysOpen_36 rfl rfl ?_
      refine q_get dX6_staysOpen_37 fl_X6_45 ha rfl ?_
      have hall := (dc_all S1 (A 1 p * A 2 p)).mp c32
      refine q_iv (As := [_]) dX6_staysOpen_40 ml_X6_84 mt_X6_keepPicture mi_X6_keepPicture se_X6_keepPicture he rfl rfl (Nat.le_of_ble_eq_true rfl) (Nat.le_of_ble_eq_true rfl) (Nat.zero_le _) (Nat.zero_le _) (Nat.le_of_ble_eq_true rfl) (q_C.mono (c_X6_keepPicture he hp hs hf hsz ⟨hsz, by omega⟩ (by omega) (fun k hk => ⟨(hpn1 k hk).1, hall k hk⟩)) (fun v G sz1 hq => ?_))
      obtain ⟨rfl, rfl, he, ⟨P1, hp, hk1, hk2⟩, hN⟩ := hq
      have hS := hS.fr (fun b b1 b2 => hN b (by omega))
      have hT := hT.imp (fun W h => (hN _ (by omega)).trans h)
      have ha := (hN _ (by omega)).trans ha
      have hs := (hN _ (by omega)).trans hs
      have hF : ∀ b, b ≠ s + 1 ∧ b ≠ s + 2 ∧ b ≠ s + 4 ∧ b ≠ s + 5 ∧ b ≠ s + 6 ∧ b ≠ a ∧ b ≠ a + 1 → G b = G0 b := fun b hb => (hN b (by omega)).trans (hF b hb)
      have hop : sr_op A p S = some (none, S2) := by unfold sr_op; rw [hst]; dsimp only; rw [← hoc, (dc_oc hpn1).mp c32]
      refine q_iconst (v := nI 0) dX6_staysOpen_43 (by decide) ?_
      exact q_ireturn dX6_staysOpen_44 rfl (by decide +kernel) ⟨rfl, hF, hS, hT, ⟨S1, c, x, ha, hs⟩, Or.inr (Or.inl ⟨S2, hop, rfl, he, P1, hp, fun k hk => by rw [hk1 k hk, ho k hk], hk2⟩)⟩
