theorem pz_no_top {A : md_A} {p : Nat} (S : Nat → Nat) : pz_no A p S ≤ A 1 p * A 2 p := by
  have key : ∀ n, ln_sum (fun x => if 2 ≤ ln_pop (S x) then 1 else 0) 0 n ≤ n := by
    intro n
    induction n with
    | zero => exact Nat.le_refl _
    | succ n ih =>
      rw [ln_sum_snoc]
      split <;> omega
  exact key _

set_option maxHeartbeats 4000000 in
set_option maxRecDepth 100000 in
theorem l_seek_top {T : q_T} {G0 G : q_G} {s u p : Nat} {A : md_A} {sz0 m0 sz1 m : Nat} {lv0 lv : Nat → Nat} {E : q_E} {tr li : Nat} {S0 Fd : Nat → Nat} {R : Bool × sr_T} {x4 x5 x6 x7 x8 x9 : Option Value} (hz : Pz A p) (hsu : s + 8 ≤ u) (hsz : u + 3 + 4 * (A 1 p + A 2 p) ≤ sz0) (htr : tr ≤ 200) (hli : li ≤ 5) (hps : Ps A p S0) (hpn : Pn A p S0) (hm : 0 < m) (hFd : pz_on A p Fd S0) (hd : G (u + 2 + 4 * (A 1 p + A 2 p)) = some (q_ia T (A 1 p * A 2 p) (fun i => nI (Fd i)))) (H : Sek T G0 s u (u + 2 + 4 * (A 1 p + A 2 p)) p A sz0 m0 lv0 m lv G sz1 0 (fun _ _ => 0) (fun _ => 0) (fun _ => 0) 0 (fun _ _ => 0) 0) (hR : sr_run A p tr li 402 (sr_0 A p S0) = R) (hE : ∀ b h LS C X f P t m lv G sz, R = (b, (h, LS, C, X, f, P, t)) → (∃ h1 X1, Sek T G0 s u (u + 2 + 4 * (A 1 p + A 2 p)) p A sz0 m0 lv0 m lv G sz h1 LS C X1 f P t) → E (some (.int (if b = true then -2 else nI f))) G sz) : q_R T mX6_seek 5 127 23 [some (.ref (s + 5)), some (.ref u), some (.int (nI tr)), some (.int (nI li)), x4, x5, x6, x7, x8, x9] [.ref (lv 0)] G sz1 (2 * (101 - m)) (103 * (101 - m)) E := by
  have he := H.2.2.2.1
  have hu := H.2.2.1.1
  have hwh := pz_size hz
  obtain ⟨⟨S1, c1, y1, ha, hs⟩, l1, l2, l3⟩ := H.2.2.2.2.2.1.2.2.1 0 hm
  refine s_astore dX6_seek_23 (by decide) rfl rfl ?_
  refine q_aload_n dX6_seek_25 rfl rfl ?_
  refine q_get dX6_seek_26 fl_X6_42 hu rfl ?_
  refine q_iconst (v := nI 0) dX6_seek_29 (by decide) ?_
  refine q_aload dX6_seek_30 rfl rfl ?_
  refine q_get dX6_seek_32 fl_X6_45 ha rfl ?_
  refine q_iconst (v := nI 0) dX6_seek_35 (by decide) ?_
  refine q_aload_n dX6_seek_36 rfl rfl ?_
  refine q_get dX6_seek_37 fl_X6_32 he rfl ?_
  refine w_acopy dX6_seek_40 ml_X6_48 hd hs (Nat.le_refl _) hwh (by omega) (by omega) (Nat.le_of_ble_eq_true rfl) (Nat.le_of_ble_eq_true rfl) (Nat.le_of_ble_eq_true rfl) (fun G1 hs hN => ?_)
  have ha := (hN _ (by omega)).trans ha
  have H := H.at (G' := G1) (h' := 0) (X' := fun _ => 0) hsu hsz (d0 := 0) hm (Nat.le_refl _) (fun b hb => hN b hb.2) ⟨_, _, _, ha, hs⟩ (fun _ _ _ => rfl) (fun h => absurd h (Nat.lt_irrefl _))
  have he := H.2.2.2.1
  have hu := H.2.2.1.1
  obtain ⟨fL, hls, hfL⟩ := H.2.2.1.2.1
  refine q_aload_n dX6_seek_43 rfl rfl ?_
  refine q_aload_n dX6_seek_44 rfl rfl ?_
  refine q_aload dX6_seek_45 rfl rfl ?_
  refine q_aload_n dX6_seek_47 rfl rfl ?_
  refine q_iv (As := []) dX6_seek_48 ml_X6_54 mt_X4_everyLine mi_X4_everyLine se_X4_everyLine hu rfl rfl (Nat.le_of_ble_eq_true rfl) (Nat.le_of_ble_eq_true rfl) (Nat.zero_le _) (Nat.zero_le _) (Nat.le_of_ble_eq_true rfl) (q_C.mono (c_X4_everyLine hu hls (by have := hz.2; omega)) (fun v G1 sz1 hq => ?_))
  obtain ⟨rfl, rfl, rfl⟩ := hq
  have hon2 : pz_on A p (fun i => if i < A 1 p * A 2 p then Fd i else S1 i) S0 := fun x hx => Eq.trans (if_pos hx) (hFd x hx)
  obtain ⟨Q, hQ, hQP⟩ := H.2.2.2.2.1
  refine q_iv (As := [_, _, _]) dX6_seek_51 ml_X6_58 mt_X6_staysOpen mi_X6_staysOpen se_X6_staysOpen he rfl rfl (Nat.le_of_ble_eq_true rfl) (Nat.le_of_ble_eq_true rfl) (Nat.zero_le _) (Nat.zero_le _) (Nat.le_of_ble_eq_true rfl) (q_C.mono (c_X6_staysOpen H.1 H.2.1 H.2.2.1 ⟨ha, hs⟩ he hQ (pz_on_ps hon2.symm hps) (fun x hx => Nat.le_trans (hpn x hx) (Nat.le_of_eq (hon2 x hx).symm)) (Wt.every hz) hz (by omega) hsu (by omega) (by omega)) (fun v G3 sz1 hq => ?_))
  obtain ⟨rfl, hN, hSc, hT, hLL, hv⟩ := hq
  obtain ⟨h1, LS1, C1, X1, f1, P1, hpu, H1, hv1⟩ := H.push hsu hsz hz hm hon2 hps hpn (fun S1 _ _ => pz_no_top S1) hQP hN hSc hT hLL hv
  have hf1 := sr_push_h hpu
  have hR : sr_run A p tr li 402 (h1, LS1, C1, X1, f1, P1, 0) = R := by rw [← hpu]; exact hR
  rcases hv1 with ⟨rfl, rfl⟩ | ⟨rfl, rfl⟩
  · refine q_if_eq (tgt := 61) dX6_seek_54 (by decide) (fun _ => ?_) (fun h => absurd h (by decide))
    refine q_iconst (v := -1) dX6_seek_61 (by decide) ?_
    refine s_istore dX6_seek_62 (by decide) rfl ?_
    refine q_iconst (v := nI 0) dX6_seek_64 (by decide) ?_
    refine s_istore dX6_seek_65 (by decide) rfl ?_
    rw [show (-1 : Int32) = nI 0 - 1 from rfl]
    exact l_seek hz hsu hsz htr hli hE _ 0 _ 402 f1 0 m sz1 LS1 C1 X1 P1 lv G3 _ _ _ rfl (Nat.le_refl _) (by omega) hR H1
  · refine q_if_eq (tgt := 61) dX6_seek_54 (by decide) (fun h => absurd h (by decide)) (fun _ => ?_)
    refine q_iconst (v := nI 0) dX6_seek_57 (by decide) ?_
    refine q_goto (tgt := 62) dX6_seek_58 (by decide) ?_
    refine s_istore dX6_seek_62 (by decide) rfl ?_
    refine q_iconst (v := nI 0) dX6_seek_64 (by decide) ?_
    refine s_istore dX6_seek_65 (by decide) rfl ?_
    rw [show nI 0 = nI (0 + 1) - 1 from rfl]
    exact l_seek hz hsu hsz htr hli hE _ 0 _ 402 f1 0 m sz1 LS1 C1 X1 P1 lv G3 _ _ _ rfl (Nat.le_refl _) (by omega) hR H1

set_option maxHeartbeats 4000000 in
set_option maxRecDepth 100000 in
theorem c_X6_seek {T : q_T} {G0 : q_G} {s u p : Nat} {A : md_A} {sz m0 : Nat} {lv0 : Nat → Nat} {tr li f0 t0 n0 : Nat} {S0 P0 Fd : Nat → Nat} (hz : Pz A p) (hsu : s + 8 ≤ u) (hsz : u + 3 + 4 * (A 1 p + A 2 p) ≤ sz) (htr : tr ≤ 200) (hli : li ≤ 5) (hps : Ps A p S0) (hpn : Pn A p S0) (hS : Scn T G0 s) (hT : ∃ W, G0 (s + 4) = some (q_ob 8 [.ref s, .int (nI W)])) (hPl : PuzL T G0 u A p (u + 2 + 4 * (A 1 p + A 2 p))) (hFd : pz_on A p Fd S0) (hd : G0 (u + 2 + 4 * (A 1 p + A 2 p)) = some (q_ia T (A 1 p * A 2 p) (fun i => nI (Fd i)))) (he : G0 (s + 5) = some (q_ob 7 (se_ob s f0 t0 n0))) (hp : G0 (s + 6) = some (q_ia T 500 (fun i => nI (P0 i)))) (hLv : Lvs T G0 s u (u + 3 + 4 * (A 1 p + A 2 p)) m0 lv0 sz) : q_C T mX6_seek 5 127 (2 * (101 - m0)) (103 * (101 - m0)) [.ref (s + 5), .ref u, .int (nI tr), .int (nI li)] G0 sz (fun v G' sz' => ∃ b h LS C X f P t m lv, sr_run A p tr li 402 (sr_0 A p S0) = (b, (h, LS, C, X, f, P, t)) ∧ v = some (.int (if b = true then -2 else nI f)) ∧ ∃ h1 X1, Sek T G0 s u (u + 2 + 4 * (A 1 p + A 2 p)) p A sz m0 lv0 m lv G' sz' h1 LS C X1 f P t) := by
  refine q_C.of (by decide) rfl (by simp [Value.category]) (Nat.le_of_ble_eq_true rfl) ?_
  have hu := hPl.1
  have hF : ∀ b, b ≠ s + 5 → G0 b = G0 b := fun _ _ => rfl
  obtain ⟨R, hR⟩ : ∃ R, sr_run A p tr li 402 (sr_0 A p S0) = R := ⟨_, rfl⟩
  have hE : ∀ b h LS C X f P t m lv G' sz', R = (b, (h, LS, C, X, f, P, t)) → (∃ h1 X1, Sek T G0 s u (u + 2 + 4 * (A 1 p + A 2 p)) p A sz m0 lv0 m lv G' sz' h1 LS C X1 f P t) → (fun (v : Option Value) (G' : q_G) (sz' : Nat) => ∃ b h LS C X f P t m lv, sr_run A p tr li 402 (sr_0 A p S0) = (b, (h, LS, C, X, f, P, t)) ∧ v = some (.int (if b = true then -2 else nI f)) ∧ ∃ h1 X1, Sek T G0 s u (u + 2 + 4 * (A 1 p + A 2 p)) p A sz m0 lv0 m lv G' sz' h1 LS C X1 f P t) (some (.int (if b = true then -2 else nI f))) G' sz' := fun b h LS C X f P t m lv G' sz' h1 h2 => ⟨b, h, LS, C, X, f, P, t, m, lv, hR.trans h1, rfl, h2⟩
  refine q_aload_n dX6_seek_0 rfl rfl ?_
  refine q_iconst (v := nI 0) dX6_seek_1 (by decide) ?_
  refine w_put (fs2 := se_ob s 0 t0 n0) dX6_seek_2 fl_X6_25 fp_X6_25 he (Nat.le_of_ble_eq_true rfl) rfl rfl rfl (fun G he hN => ?_)
  have hu := (hN _ (by omega)).trans hu
  have hd := (hN _ (by omega)).trans hd
  have hp := (hN _ (by omega)).trans hp
  have hS := hS.fr (fun b b1 b2 => hN b (by omega))
  have hT := hT.imp (fun W h => (hN _ (by omega)).trans h)
  have hPl := hPl.fr (fun b b1 b2 => hN b (by omega))
  have hLv := hLv.same (fun b hb => hN b (by omega))
  have hF : ∀ b, b ≠ s + 5 → G b = G0 b := fun b hb => (hN b (by omega)).trans (hF b hb)
  refine q_aload_n dX6_seek_5 rfl rfl ?_
  refine q_iconst (v := nI 0) dX6_seek_6 (by decide) ?_
  refine w_put (fs2 := se_ob s 0 0 n0) dX6_seek_7 fl_X6_29 fp_X6_29 he (Nat.le_of_ble_eq_true rfl) rfl rfl rfl (fun G he hN => ?_)
  have hu := (hN _ (by omega)).trans hu
  have hd := (hN _ (by omega)).trans hd
  have hp := (hN _ (by omega)).trans hp
  have hS := hS.fr (fun b b1 b2 => hN b (by omega))
  have hT := hT.imp (fun W h => (hN _ (by omega)).trans h)
  have hPl := hPl.fr (fun b b1 b2 => hN b (by omega))
  have hLv := hLv.same (fun b hb => hN b (by omega))
  have hF : ∀ b, b ≠ s + 5 → G b = G0 b := fun b hb => (hN b (by omega)).trans (hF b hb)
  refine q_aload_n dX6_seek_10 rfl rfl ?_
  refine q_aload_n dX6_seek_11 rfl rfl ?_
  refine q_get dX6_seek_12 fl_X6_35 hu rfl ?_
  refine w_put (fs2 := se_ob s 0 0 (A 1 p * A 2 p)) dX6_seek_15 fl_X6_32 fp_X6_32 he (Nat.le_of_ble_eq_true rfl) rfl rfl rfl (fun G he hN => ?_)
  have hu := (hN _ (by omega)).trans hu
  have hd := (hN _ (by omega)).trans hd
  have hp := (hN _ (by omega)).trans hp
  have hS := hS.fr (fun b b1 b2 => hN b (by omega))
  have hT := hT.imp (fun W h => (hN _ (by omega)).trans h)
  have hPl := hPl.fr (fun b b1 b2 => hN b (by omega))
  have hLv := hLv.same (fun b hb => hN b (by omega))
  have hF : ∀ b, b ≠ s + 5 → G b = G0 b := fun b hb => (hN b (by omega)).trans (hF b hb)
  refine q_aload_n dX6_seek_18 rfl rfl ?_
  refine q_iconst (v := nI 0) dX6_seek_19 (by decide) ?_
  obtain ⟨g, hg, hg1, hg2⟩ := hLv.2.1
  have H : Sek T G0 s u (u + 2 + 4 * (A 1 p + A 2 p)) p A sz m0 lv0 m0 lv0 G sz 0 (fun _ _ => 0) (fun _ => 0) (fun _ => 0) 0 (fun _ _ => 0) 0 := ⟨hS, hT, hPl, he, ⟨P0, hp, fun i hi => absurd hi (Nat.not_lt_zero _)⟩, hLv, Nat.zero_le _, fun d hd => absurd hd (Nat.not_lt_zero _), fun d hd => absurd hd (Nat.not_lt_zero _), ⟨Nat.le_refl _, Nat.le_refl _, fun _ _ => rfl, fun d h1 h2 => absurd h1 (by omega)⟩, fun b c1 c2 c3 => hF b (by omega)⟩
  by_cases hm : 0 < m0
  · refine q_iv (As := [_]) dX6_seek_20 ml_X6_38 mt_X6_levelAt mi_X6_levelAt se_X6_levelAt he rfl rfl (Nat.le_of_ble_eq_true rfl) (Nat.le_of_ble_eq_true rfl) (Nat.zero_le _) (Nat.zero_le _) (Nat.le_of_ble_eq_true rfl) (q_C.mono (c_X6_levelAt_old he hg (by omega) (hg1 0 hm)) (fun v G1 sz1 hq => ?_))
    obtain ⟨rfl, rfl, rfl⟩ := hq
    exact l_seek_top hz hsu hsz htr hli hps hpn hm hFd hd H hR hE
  · obtain rfl : m0 = 0 := by omega
    refine q_iv (As := [_]) dX6_seek_20 ml_X6_38 mt_X6_levelAt mi_X6_levelAt se_X6_levelAt he rfl rfl (Nat.le_of_ble_eq_true rfl) (Nat.le_of_ble_eq_true rfl) (by omega) (by omega) (Nat.le_of_ble_eq_true rfl) (q_C.mono (c_X6_levelAt_new he hg (by omega) (hg2 0 (Nat.le_refl _)) (by omega)) (fun v G5 sz1 hq => ?_))
    obtain ⟨rfl, rfl, hg5, hL5, hN⟩ := hq
    have H := H.lvnew hsu hsz (by omega) ⟨hg1, hg2⟩ hg5 hL5 hN
    have hd := (hN _ (by omega)).trans hd
    have hzz : Option.toList (some (Value.ref sz)) = Option.toList (some (Value.ref (va_up lv0 0 sz 0))) := by rw [va_up_s]
    rw [hzz]
    exact q_R.less (l_seek_top hz hsu hsz htr hli hps hpn (Nat.lt_succ_self 0) hFd hd H hR hE) (by omega) (by omega)
