theorem nI_nm3 {n : Nat} (h : n < 2 ^ 31) : ¬ nI n = -3 := fun e => by
  have h1 := congrArg Int32.toInt e
  rw [nI_toInt h] at h1
  have h2 : (-3 : Int32).toInt = -3 := by decide
  omega

set_option maxHeartbeats 4000000 in
set_option maxRecDepth 100000 in
theorem l_assess {T : q_T} {G0 : q_G} {sz s u D p : Nat} {A : md_A} {E : q_E} {R : Nat × Nat} (hz : Pz A p) (hsu : s + 11 ≤ u) (hE : ∀ a n G, R = (a, n) → Gy T G0 s G n → E (some (.int (nI a))) G sz) : ∀ (mZ : Nat) (i f n k : Nat) (S : Nat → Nat) (G : q_G), mZ = f → (i + f ≤ 402) → (400 < f + n) → (1 ≤ k ∧ k ≤ 400) → (gr_run A p f S n = R) → (Gd T G0 s u D p A G S n) → q_R T mX1_assess 5 128 60 [some (.ref (s + 8)), some (.ref u), some (.int (nI k)), some (.int (nI i))] [] G sz 0 0 E := by
  intro mZ
  induction mZ using Nat.strongRecOn with | ind mZ ih => ?_
  intro i f n k S G hm hif hfn hk hR H
  have he := H.2.2.2.1
  have hu := H.2.2.1.1
  have hwh := pz_size hz
  have hn400 := H.2.2.2.2.2.2.1
  obtain ⟨f, rfl⟩ : ∃ g, f = g + 1 := ⟨f - 1, by omega⟩
  refine q_iload_n dX1_assess_60 rfl ?_
  refine q_ldc (v := nI 1000000) dX1_assess_61 cn_X1_54 ?_
  refine n_icmp_ge (tgt := 82) dX1_assess_63 (by decide) (by omega) (by omega) (fun c63 => absurd c63 (by omega)) (fun c63 => ?_)
  refine q_iload_n dX1_assess_66 rfl ?_
  refine n_if_le (tgt := 82) dX1_assess_67 (by decide) (by omega) (fun c67 => absurd c67 (by omega)) (fun c67 => ?_)
  refine q_aload_n dX1_assess_70 rfl rfl ?_
  refine q_aload_n dX1_assess_71 rfl rfl ?_
  refine q_iv (As := [_]) dX1_assess_72 ml_X1_55 mt_X1_passOfProbes mi_X1_passOfProbes se_X1_passOfProbes he rfl rfl (Nat.le_of_ble_eq_true rfl) (Nat.le_of_ble_eq_true rfl) (Nat.zero_le _) (Nat.zero_le _) (Nat.le_of_ble_eq_true rfl) (q_C.mono (c_X1_passOfProbes hz hsu H) (fun v G sz1 hq => ?_))
  obtain ⟨rfl, S3, n3, k3, e3, hgc, ⟨rfl, rfl, hnk, H⟩ | ⟨rfl, rfl, hy⟩ | ⟨rfl, rfl, hy⟩⟩ := hq
  · have hn3 := H.2.2.2.2.2.2.1
    refine s_istore_n dX1_assess_75 (by decide) rfl ?_
    refine s_iinc dX1_assess_76 rfl (s_inc1 _) (by decide) rfl ?_
    refine q_goto (tgt := 60) dX1_assess_79 (by decide) ?_
    have he := H.2.2.2.1
    rcases Nat.eq_zero_or_pos k3 with h0 | h0
    · subst h0
      have hu := H.2.2.1.1
      refine q_iload_n dX1_assess_60 rfl ?_
      refine q_ldc (v := nI 1000000) dX1_assess_61 cn_X1_54 ?_
      refine n_icmp_ge (tgt := 82) dX1_assess_63 (by decide) (by omega) (by omega) (fun c63 => absurd c63 (by omega)) (fun c63 => ?_)
      refine q_iload_n dX1_assess_66 rfl ?_
      refine q_if_le (tgt := 82) dX1_assess_67 (by decide) (fun _ => ?_) (fun h => absurd h (by decide))
      refine q_iload_n dX1_assess_82 rfl ?_
      refine q_bipush (v := -2) dX1_assess_83 (by decide) ?_
      refine q_icmp_ne (tgt := 90) dX1_assess_85 (by decide) (fun _ => ?_) (fun h => absurd h (by decide))
      refine q_iload_n dX1_assess_90 rfl ?_
      refine q_bipush (v := -3) dX1_assess_91 (by decide) ?_
      refine q_icmp_ne (tgt := 98) dX1_assess_93 (by decide) (fun _ => ?_) (fun h => absurd h (by decide))
      refine q_aload_n dX1_assess_98 rfl rfl ?_
      refine q_aload_n dX1_assess_99 rfl rfl ?_
      refine q_get dX1_assess_100 fl_X1_15 he rfl ?_
      obtain ⟨S4, hs4, hon4, -⟩ := H.2.2.2.2.1
      have hps4 := H.2.2.2.2.2.2.2.1
      have hpn4 := H.2.2.2.2.2.2.2.2.1
      have hS16 : ∀ x, x < A 1 p * A 2 p → S4 x < 16 ∧ 1 ≤ S4 x := fun x hx => by rw [hon4 x hx]; exact ⟨hps4 x hx, hpn4 x hx⟩
      refine q_iv (As := [_]) dX1_assess_103 ml_X1_47 mt_X4_decidedCells mi_X4_decidedCells se_X4_decidedCells H.2.2.1.1 rfl rfl (Nat.le_of_ble_eq_true rfl) (Nat.le_of_ble_eq_true rfl) (Nat.zero_le _) (Nat.zero_le _) (Nat.le_of_ble_eq_true rfl) (q_C.mono (c_X4_decidedCells H.2.2.1.1 hs4 ⟨hwh, by omega⟩ (fun x hx => (hS16 x hx).1)) (fun v G1 sz1 hq => ?_))
      obtain ⟨rfl, rfl, rfl⟩ := hq
      have hdl := dc_le S4 (A 1 p * A 2 p)
      have hdo : dc_n S4 (A 1 p * A 2 p) = A 1 p * A 2 p ↔ pz_oc S3 (A 1 p * A 2 p) = none := by rw [dc_oc hS16, pz_oc_congr _ (fun x hx => hon4 x hx)]
      refine q_aload_n dX1_assess_106 rfl rfl ?_
      refine q_get dX1_assess_107 fl_X1_51 hu rfl ?_
      refine n_icmp_ne (tgt := 117) dX1_assess_110 (by decide) (by omega) (by omega) (fun c110 => ?_) (fun c110 => ?_)
      · refine q_iconst (v := nI 3) dX1_assess_117 (by decide) ?_
        exact q_ireturn dX1_assess_118 rfl rfl (by rw [gr_run_s, hgc] at hR; dsimp only at hR; rw [if_neg (by decide), if_neg (by decide), if_pos rfl, if_neg (fun h => c110 (hdo.mpr h))] at hR; exact hE _ _ _ hR.symm (H.y))
      · refine q_iconst (v := nI 2) dX1_assess_113 (by decide) ?_
        refine q_goto (tgt := 118) dX1_assess_114 (by decide) ?_
        exact q_ireturn dX1_assess_118 rfl rfl (by rw [gr_run_s, hgc] at hR; dsimp only at hR; rw [if_neg (by decide), if_neg (by decide), if_pos rfl, if_pos (hdo.mp c110)] at hR; exact hE _ _ _ hR.symm (H.y))
    · refine ih _ (by omega) (i + 1) f n3 k3 S3 G rfl (by omega) (by omega) (by omega) ?_ H
      rw [gr_run_s, hgc] at hR
      dsimp only at hR
      rw [if_neg (by decide), if_neg (by decide), if_neg (by omega)] at hR
      exact hR
  · refine s_istore_n dX1_assess_75 (by decide) rfl ?_
    refine s_iinc dX1_assess_76 rfl (s_inc1 _) (by decide) rfl ?_
    refine q_goto (tgt := 60) dX1_assess_79 (by decide) ?_
    refine q_iload_n dX1_assess_60 rfl ?_
    refine q_ldc (v := nI 1000000) dX1_assess_61 cn_X1_54 ?_
    refine n_icmp_ge (tgt := 82) dX1_assess_63 (by decide) (by omega) (by omega) (fun c63 => absurd c63 (by omega)) (fun c63 => ?_)
    refine q_iload_n dX1_assess_66 rfl ?_
    refine q_if_le (tgt := 82) dX1_assess_67 (by decide) (fun _ => ?_) (fun h => absurd h (by decide))
    refine q_iload_n dX1_assess_82 rfl ?_
    refine q_bipush (v := -2) dX1_assess_83 (by decide) ?_
    refine q_icmp_ne (tgt := 90) dX1_assess_85 (by decide) (fun _ => ?_) (fun h => absurd h (by decide))
    refine q_iload_n dX1_assess_90 rfl ?_
    refine q_bipush (v := -3) dX1_assess_91 (by decide) ?_
    refine q_icmp_ne (tgt := 98) dX1_assess_93 (by decide) (fun h => absurd h (by decide)) (fun _ => ?_)
    refine q_iconst (v := nI 4) dX1_assess_96 (by decide) ?_
    exact q_ireturn dX1_assess_97 rfl rfl (by rw [gr_run_s, hgc] at hR; dsimp only at hR; rw [if_pos rfl] at hR; exact hE _ _ _ hR.symm (hy))
  · refine s_istore_n dX1_assess_75 (by decide) rfl ?_
    refine s_iinc dX1_assess_76 rfl (s_inc1 _) (by decide) rfl ?_
    refine q_goto (tgt := 60) dX1_assess_79 (by decide) ?_
    refine q_iload_n dX1_assess_60 rfl ?_
    refine q_ldc (v := nI 1000000) dX1_assess_61 cn_X1_54 ?_
    refine n_icmp_ge (tgt := 82) dX1_assess_63 (by decide) (by omega) (by omega) (fun c63 => absurd c63 (by omega)) (fun c63 => ?_)
    refine q_iload_n dX1_assess_66 rfl ?_
    refine q_if_le (tgt := 82) dX1_assess_67 (by decide) (fun _ => ?_) (fun h => absurd h (by decide))
    refine q_iload_n dX1_assess_82 rfl ?_
    refine q_bipush (v := -2) dX1_assess_83 (by decide) ?_
    refine q_icmp_ne (tgt := 90) dX1_assess_85 (by decide) (fun h => absurd h (by decide)) (fun _ => ?_)
    refine q_iconst (v := nI 0) dX1_assess_88 (by decide) ?_
    exact q_ireturn dX1_assess_89 rfl rfl (by rw [gr_run_s, hgc] at hR; dsimp only at hR; rw [if_neg (by decide), if_pos rfl] at hR; exact hE _ _ _ hR.symm (hy))

set_option maxHeartbeats 4000000 in
set_option maxRecDepth 100000 in
theorem c_X1_assess {T : q_T} {G0 : q_G} {sz s u D p n0 : Nat} {A : md_A} {S1 S2 : Nat → Nat} (hz : Pz A p) (hsu : s + 11 ≤ u) (hS : Scn T G0 s) (hT : ∃ W, G0 (s + 4) = some (q_ob 8 [.ref s, .int (nI W)])) (hPl : PuzL T G0 u A p D) (he : G0 (s + 8) = some (q_ob 2 (gd_ob s n0))) (hs : G0 (s + 9) = some (q_ia T 100 (fun i => nI (S1 i)))) (ht : G0 (s + 10) = some (q_ia T 100 (fun i => nI (S2 i)))) : q_C T mX1_assess 5 128 0 0 [.ref (s + 8), .ref u] G0 sz (fun v G' sz' => sz = sz' ∧ v = some (.int (nI (gr_all A p).1)) ∧ Gy T G0 s G' (gr_all A p).2) := by
  refine q_C.of (by decide) rfl (by simp [Value.category]) (Nat.le_of_ble_eq_true rfl) ?_
  have hu := hPl.1
  have hwh := pz_size hz
  have hc3 := hz.2.2.2.1
  have hF : ∀ b, b ≠ s + 1 ∧ b ≠ s + 2 ∧ b ≠ s + 4 ∧ b ≠ s + 8 ∧ b ≠ s + 9 ∧ b ≠ s + 10 → G0 b = G0 b := fun _ _ => rfl
  refine q_aload_n dX1_assess_0 rfl rfl ?_
  refine q_iconst (v := nI 0) dX1_assess_1 (by decide) ?_
  refine w_put (fs2 := gd_ob s 0) dX1_assess_2 fl_X1_22 fp_X1_22 he (Nat.le_of_ble_eq_true rfl) rfl rfl rfl (fun G he hN => ?_)
  have hu := (hN _ (by omega)).trans hu
  have hs := (hN _ (by omega)).trans hs
  have ht := (hN _ (by omega)).trans ht
  have hS := hS.fr (fun b b1 b2 => hN b (by omega))
  have hT := hT.imp (fun W h => (hN _ (by omega)).trans h)
  have hPl := hPl.fr (fun b b1 b2 => hN b (by omega))
  have hF : ∀ b, b ≠ s + 1 ∧ b ≠ s + 2 ∧ b ≠ s + 4 ∧ b ≠ s + 8 ∧ b ≠ s + 9 ∧ b ≠ s + 10 → G b = G0 b := fun b hb => (hN b (by omega)).trans (hF b hb)
  refine q_aload_n dX1_assess_5 rfl rfl ?_
  refine q_get dX1_assess_6 fl_X1_15 he rfl ?_
  refine q_aload_n dX1_assess_9 rfl rfl ?_
  refine q_iv (As := []) dX1_assess_10 ml_X1_26 mt_X4_full mi_X4_full se_X4_full hu rfl rfl (Nat.le_of_ble_eq_true rfl) (Nat.le_of_ble_eq_true rfl) (Nat.zero_le _) (Nat.zero_le _) (Nat.le_of_ble_eq_true rfl) (q_C.mono (c_X4_full hu (by omega)) (fun v G1 sz1 hq => ?_))
  obtain ⟨rfl, rfl, rfl⟩ := hq
  refine q_is (As := [_, _]) dX1_assess_13 ml_X1_32 mt_J7_fill_53178 ms_J7_fill_53178 rfl (Nat.le_of_ble_eq_true rfl) (Nat.le_of_ble_eq_true rfl) (Nat.zero_le _) (Nat.zero_le _) (Nat.le_of_ble_eq_true rfl) (q_C.mono (c_fill (by omega) hs) (fun v G sz1 hq => ?_))
  obtain ⟨rfl, rfl, hs, hN⟩ := hq
  rw [nI_fill0] at hs
  have he := (hN _ (by omega)).trans he
  have hu := (hN _ (by omega)).trans hu
  have ht := (hN _ (by omega)).trans ht
  have hS := hS.fr (fun b b1 b2 => hN b (by omega))
  have hT := hT.imp (fun W h => (hN _ (by omega)).trans h)
  have hPl := hPl.fr (fun b b1 b2 => hN b (by omega))
  have hF : ∀ b, b ≠ s + 1 ∧ b ≠ s + 2 ∧ b ≠ s + 4 ∧ b ≠ s + 8 ∧ b ≠ s + 9 ∧ b ≠ s + 10 → G b = G0 b := fun b hb => (hN b (by omega)).trans (hF b hb)
  refine q_aload_n dX1_assess_16 rfl rfl ?_
  refine q_get dX1_assess_17 fl_X1_9 he rfl ?_
  refine q_aload_n dX1_assess_20 rfl rfl ?_
  refine q_aload_n dX1_assess_21 rfl rfl ?_
  refine q_get dX1_assess_22 fl_X1_15 he rfl ?_
  refine q_aload_n dX1_assess_25 rfl rfl ?_
  obtain ⟨fL, hls, hfL⟩ := hPl.2.1
  refine q_iv (As := []) dX1_assess_26 ml_X1_38 mt_X4_everyLine mi_X4_everyLine se_X4_everyLine hu rfl rfl (Nat.le_of_ble_eq_true rfl) (Nat.le_of_ble_eq_true rfl) (Nat.zero_le _) (Nat.zero_le _) (Nat.le_of_ble_eq_true rfl) (q_C.mono (c_X4_everyLine hu hls (by have := hz.2; omega)) (fun v G1 sz1 hq => ?_))
  obtain ⟨rfl, rfl, rfl⟩ := hq
  have hon2 : pz_on A p (fun i => if i < 100 then 1 <<< (A 3 p + 1) - 1 else S1 i) (fun _ => 1 <<< (A 3 p + 1) - 1) := fun x hx => if_pos (by omega)
  have hful := gr_full hc3.1 hc3.2
  have hps : Ps A p (fun _ => 1 <<< (A 3 p + 1) - 1) := fun _ _ => hful.2
  have hpn : Pn A p (fun _ => 1 <<< (A 3 p + 1) - 1) := fun _ _ => hful.1
  have hpf : Pf A p (fun _ => 1 <<< (A 3 p + 1) - 1) := fun _ _ => by show 1 <<< (A 3 p + 1) - 1 < 1 <<< (A 3 p + 1); omega
  have hps2 := pz_on_ps hon2.symm hps
  obtain ⟨W, hTW⟩ := hT
  refine q_iv (As := [_, _, _]) dX1_assess_29 ml_X1_41 mt_X7_bringToRest mi_X7_bringToRest se_X7_bringToRest hTW rfl rfl (Nat.le_of_ble_eq_true rfl) (Nat.le_of_ble_eq_true rfl) (Nat.zero_le _) (Nat.zero_le _) (Nat.le_of_ble_eq_true rfl) (q_C.mono (c_X7_bringToRest hS ⟨W, hTW⟩ hPl hs hps2 (Wt.every hz) hz ⟨hwh, by omega⟩ (by omega) (by omega) (by omega)) (fun v G sz1 hq => ?_))
  obtain ⟨rfl, hN, hS, hT, S5, hs, hv⟩ := hq
  have he := (hN _ (by omega)).trans he
  have hu := (hN _ (by omega)).trans hu
  have ht := (hN _ (by omega)).trans ht
  have hPl := hPl.fr (fun b b1 b2 => hN b (by omega))
  have hF : ∀ b, b ≠ s + 1 ∧ b ≠ s + 2 ∧ b ≠ s + 4 ∧ b ≠ s + 8 ∧ b ≠ s + 9 ∧ b ≠ s + 10 → G b = G0 b := fun b hb => (hN b (by omega)).trans (hF b hb)
  have hso := pz_st_on hz hon2
  rcases hv with ⟨hst, rfl⟩ | ⟨r, S6, hst, rfl, ho6, hr6⟩
  · refine q_bipush (v := -2) dX1_assess_32 (by decide) ?_
    refine q_icmp_ne (tgt := 39) dX1_assess_34 (by decide) (fun h => absurd h (by decide)) (fun _ => ?_)
    refine q_iconst (v := nI 0) dX1_assess_37 (by decide) ?_
    exact q_ireturn dX1_assess_38 rfl rfl ⟨rfl, by have e : gr_all A p = (0, 0) := (by unfold gr_all; rw [hso.1 hst]); rw [e], by have e : gr_all A p = (0, 0) := (by unfold gr_all; rw [hso.1 hst]); rw [e]; exact ⟨hS, hT, he, ⟨_, hs⟩, ⟨_, ht⟩, by omega, hF⟩⟩
  · obtain ⟨ip, it, ir, -⟩ := pz_st_inv hz 401 _ hps2 r S6 hst
    have htl := pz_tot_le hz hps2
    obtain ⟨S7, hst7, ho7⟩ := hso.2 r S6 hst
    have hm7 := pz_st_more hz 401 _ hps hpn r S7 hst7
    have hi7 := (pz_st_inv hz 401 _ hps r S7 hst7).1
    have H : Gd T G0 s u D p A G S7 0 := ⟨hS, hT, hPl, he, ⟨S5, hs, ho6.trans ho7, hr6⟩, ⟨_, ht⟩, by omega, hi7, hm7.1, hpf.sub hm7.2, hF⟩
    refine q_bipush (v := -2) dX1_assess_32 (by decide) ?_
    refine q_icmp_ne (tgt := 39) dX1_assess_34 (by decide) (fun c34 => ?_) (fun c34 => absurd c34 (nI_nm2 (by omega)))
    refine q_aload_n dX1_assess_39 rfl rfl ?_
    refine q_aload_n dX1_assess_40 rfl rfl ?_
    refine q_get dX1_assess_41 fl_X1_15 he rfl ?_
    obtain ⟨S4, hs4, hon4, -⟩ := H.2.2.2.2.1
    have hps4 := H.2.2.2.2.2.2.2.1
    have hpn4 := H.2.2.2.2.2.2.2.2.1
    have hS16 : ∀ x, x < A 1 p * A 2 p → S4 x < 16 ∧ 1 ≤ S4 x := fun x hx => by rw [hon4 x hx]; exact ⟨hps4 x hx, hpn4 x hx⟩
    refine q_iv (As := [_]) dX1_assess_44 ml_X1_47 mt_X4_decidedCells mi_X4_decidedCells se_X4_decidedCells H.2.2.1.1 rfl rfl (Nat.le_of_ble_eq_true rfl) (Nat.le_of_ble_eq_true rfl) (Nat.zero_le _) (Nat.zero_le _) (Nat.le_of_ble_eq_true rfl) (q_C.mono (c_X4_decidedCells H.2.2.1.1 hs4 ⟨hwh, by omega⟩ (fun x hx => (hS16 x hx).1)) (fun v G1 sz1 hq => ?_))
    obtain ⟨rfl, rfl, rfl⟩ := hq
    have hdl := dc_le S4 (A 1 p * A 2 p)
    have hdo : dc_n S4 (A 1 p * A 2 p) = A 1 p * A 2 p ↔ pz_oc S7 (A 1 p * A 2 p) = none := by rw [dc_oc hS16, pz_oc_congr _ (fun x hx => hon4 x hx)]
    refine q_aload_n dX1_assess_47 rfl rfl ?_
    refine q_get dX1_assess_48 fl_X1_51 hu rfl ?_
    refine n_icmp_ne (tgt := 56) dX1_assess_51 (by decide) (by omega) (by omega) (fun c51 => ?_) (fun c51 => ?_)
    · refine q_iconst (v := nI 1) dX1_assess_56 (by decide) ?_
      refine s_istore_n dX1_assess_57 (by decide) rfl ?_
      refine q_iconst (v := nI 0) dX1_assess_58 (by decide) ?_
      refine s_istore_n dX1_assess_59 (by decide) rfl ?_
      have hga : gr_all A p = gr_run A p 402 S7 0 := by unfold gr_all; rw [hst7]; dsimp only; rw [if_neg (fun h => c51 (hdo.mpr h))]
      exact l_assess hz hsu (fun a n G h1 h2 => ⟨rfl, by rw [h1], by rw [h1]; exact h2⟩) _ 0 402 0 1 S7 G rfl (by omega) (by omega) (by omega) hga.symm H
    · refine q_iconst (v := nI 1) dX1_assess_54 (by decide) ?_
      exact q_ireturn dX1_assess_55 rfl rfl ⟨rfl, by have e : gr_all A p = (1, 0) := (by unfold gr_all; rw [hst7]; dsimp only; rw [if_pos (hdo.mp c51)]); rw [e], by have e : gr_all A p = (1, 0) := (by unfold gr_all; rw [hst7]; dsimp only; rw [if_pos (hdo.mp c51)]); rw [e]; exact H.y⟩
