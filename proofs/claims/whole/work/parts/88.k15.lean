theorem sr_push_h {A : md_A} {p : Nat} {S : Nat → Nat} {h h1 : Nat} {LS LS1 : Nat → Nat → Nat} {C X C1 X1 : Nat → Nat} {f f1 : Nat} {P P1 : Nat → Nat → Nat} {t t1 : Nat} (e : sr_push A p S (h, LS, C, X, f, P, t) = (h1, LS1, C1, X1, f1, P1, t1)) : h1 ≤ h + 1 ∧ f1 ≤ f + 1 := by
  unfold sr_push at e
  dsimp only at e
  cases e0 : sr_op A p S with
  | none => rw [e0] at e; cases e; exact ⟨by omega, by omega⟩
  | some z =>
    obtain ⟨o, S1⟩ := z
    rw [e0] at e
    cases o with
    | none => cases e; exact ⟨by omega, by omega⟩
    | some b => cases e; exact ⟨by omega, by omega⟩

set_option maxHeartbeats 4000000 in
set_option maxRecDepth 100000 in
theorem l_seek {T : q_T} {G0 : q_G} {s u D p : Nat} {A : md_A} {sz0 m0 : Nat} {lv0 : Nat → Nat} {E : q_E} {tr li : Nat} {x4 : Option Value} {R : Bool × sr_T} (hz : Pz A p) (hsu : s + 8 ≤ u) (hsz : u + 3 + 4 * (A 1 p + A 2 p) ≤ sz0) (htr : tr ≤ 200) (hli : li ≤ 5) (hE : ∀ b h LS C X f P t m lv G sz, R = (b, (h, LS, C, X, f, P, t)) → (∃ h1 X1, Sek T G0 s u D p A sz0 m0 lv0 m lv G sz h1 LS C X1 f P t) → E (some (.int (if b = true then -2 else nI f))) G sz) : ∀ (mZ : Nat) (i h n f t m sz : Nat) (LS : Nat → Nat → Nat) (C X : Nat → Nat) (P : Nat → Nat → Nat) (lv : Nat → Nat) (G : q_G) (x7 x8 x9 : Option Value), mZ = n → (i + n ≤ 402) → (f ≤ 5 ∧ t ≤ tr ∧ 2 * (tr - t) + h < n) → (sr_run A p tr li n (h, LS, C, X, f, P, t) = R) → (Sek T G0 s u D p A sz0 m0 lv0 m lv G sz h LS C X f P t) → q_R T mX6_seek 5 127 67 [some (.ref (s + 5)), some (.ref u), some (.int (nI tr)), some (.int (nI li)), x4, some (.int (nI h - 1)), some (.int (nI i)), x7, x8, x9] [] G sz (2 * (101 - m)) (103 * (101 - m)) E := by
  intro mZ
  induction mZ using Nat.strongRecOn with | ind mZ ih => ?_
  intro i h n f t m sz LS C X P lv G x7 x8 x9 hm hin hmn hR H
  have he := H.2.2.2.1
  have hu := H.2.2.1.1
  have hwh := pz_size hz
  have hms := H.2.2.2.2.2.1.1
  have hszs := H.2.2.2.2.2.2.2.2.2.1.2.1
  obtain ⟨n, rfl⟩ : ∃ k, n = k + 1 := ⟨n - 1, by omega⟩
  rcases h with _ | k
  · refine q_iload dX6_seek_67 rfl ?_
    refine q_ldc (v := nI 1000000) dX6_seek_69 cn_X6_62 ?_
    refine n_icmp_ge (tgt := 214) dX6_seek_71 (by decide) (by omega) (by omega) (fun c71 => absurd c71 (by omega)) (fun c71 => ?_)
    refine q_iload dX6_seek_74 rfl ?_
    refine q_if_lt (tgt := 214) dX6_seek_76 (by decide) (fun _ => ?_) (fun h => absurd (by decide) h)
    refine q_aload_n dX6_seek_214 rfl rfl ?_
    refine q_get dX6_seek_215 fl_X6_25 he rfl ?_
    exact q_ireturn dX6_seek_218 rfl rfl (hE false _ LS C X f P t m lv _ _ (by rw [← hR, sr_run_s, if_pos (Or.inl rfl)]) ⟨_, _, H⟩)
  rw [nI_pred]
  have hok := H.2.2.2.2.2.2.2.2.1 k (by show k < k + 1; omega)
  dsimp only at hok
  have hCk := hok.2.2.1
  have hkw := sr_ok_h H.2.2.2.2.2.2.2.2.1
  dsimp only at hkw
  have hlk := (H.2.2.2.2.2.1.2.2.1 k (by have := H.2.2.2.2.2.2.1; omega)).2
  have hkm0 := H.2.2.2.2.2.2.1
  refine q_iload dX6_seek_67 rfl ?_
  refine q_ldc (v := nI 1000000) dX6_seek_69 cn_X6_62 ?_
  refine n_icmp_ge (tgt := 214) dX6_seek_71 (by decide) (by omega) (by omega) (fun c71 => absurd c71 (by omega)) (fun c71 => ?_)
  refine q_iload dX6_seek_74 rfl ?_
  refine n_if_lt (tgt := 214) dX6_seek_76 (by decide) (by omega) ?_
  refine q_iload dX6_seek_79 rfl ?_
  refine q_bipush (v := nI 100) dX6_seek_81 (by decide) ?_
  refine n_icmp_ge (tgt := 214) dX6_seek_83 (by decide) (by omega) (by omega) (fun c83 => absurd c83 (by omega)) (fun c83 => ?_)
  refine q_aload_n dX6_seek_86 rfl rfl ?_
  refine q_get dX6_seek_87 fl_X6_25 he rfl ?_
  refine q_iload_n dX6_seek_90 rfl ?_
  refine n_icmp_ge (tgt := 214) dX6_seek_91 (by decide) (by omega) (by omega) (fun c91 => ?_) (fun c91 => ?_)
  · refine q_aload_n dX6_seek_214 rfl rfl ?_
    refine q_get dX6_seek_215 fl_X6_25 he rfl ?_
    exact q_ireturn dX6_seek_218 rfl rfl (hE false _ LS C X f P t m lv _ _ (by rw [← hR, sr_run_s, if_pos (Or.inr (by omega))]) ⟨_, _, H⟩)
  · obtain ⟨Sk, ⟨ha, hs⟩, hX4, hon, hrst⟩ := H.2.2.2.2.2.2.2.1 k (by omega)
    obtain ⟨g, hg, hg1, hg2⟩ := H.2.2.2.2.2.1.2.1
    have hLS : Sk (C k) = LS k (C k) := hon _ hCk
    refine q_aload_n dX6_seek_94 rfl rfl ?_
    refine q_iload dX6_seek_95 rfl ?_
    refine q_iv (As := [_]) dX6_seek_97 ml_X6_38 mt_X6_levelAt mi_X6_levelAt se_X6_levelAt he rfl rfl (Nat.le_of_ble_eq_true rfl) (Nat.le_of_ble_eq_true rfl) (Nat.zero_le _) (Nat.zero_le _) (Nat.le_of_ble_eq_true rfl) (q_C.mono (c_X6_levelAt_old he hg (by omega) (hg1 k (by omega))) (fun v G1 sz1 hq => ?_))
    obtain ⟨rfl, rfl, rfl⟩ := hq
    refine s_astore dX6_seek_100 (by decide) rfl rfl ?_
    refine q_aload dX6_seek_102 rfl rfl ?_
    refine q_iv (As := []) dX6_seek_104 ml_X6_63 mt_X2_takeColour mi_X2_takeColour se_X2_takeColour ha rfl rfl (Nat.le_of_ble_eq_true rfl) (Nat.le_of_ble_eq_true rfl) (Nat.zero_le _) (Nat.zero_le _) (Nat.le_of_ble_eq_true rfl) (q_C.mono (c_X2_takeColour ha hs (by omega) (by rw [hLS]; exact hok.1 _ hCk) hX4) (fun v G2 sz1 hq => ?_))
    obtain ⟨rfl, hN, hv⟩ := hq
    rw [hLS] at hv
    rcases hv with ⟨hnx, rfl, ha2⟩ | ⟨hnx, rfl, ha2⟩
    · have H := H.at (G' := G2) (h' := k) (X' := X) hsu hsz (d0 := k) (by omega) (by omega) (fun b hb => hN b hb.1) ⟨_, _, _, ha2, (hN _ (by omega)).trans hs⟩ (fun _ _ _ => rfl) (fun h => absurd h (Nat.lt_irrefl _))
      refine s_istore dX6_seek_107 (by decide) rfl ?_
      refine q_iload dX6_seek_109 rfl ?_
      refine q_iconst (v := -1) dX6_seek_111 (by decide) ?_
      refine q_icmp_ne (tgt := 121) dX6_seek_112 (by decide) (fun h => absurd h (by decide)) (fun _ => ?_)
      refine s_iinc dX6_seek_115 rfl (s_decm _) (by decide) rfl ?_
      refine q_goto (tgt := 208) dX6_seek_118 (by decide) ?_
      refine s_iinc dX6_seek_208 rfl (s_inc1 _) (by decide) rfl ?_
      refine q_goto (tgt := 67) dX6_seek_211 (by decide) ?_
      refine ih _ (by omega) (i + 1) k n f t _ _ LS C X P _ G2 _ _ _ rfl (by omega) (by omega) ?_ H
      rw [sr_run_s, if_neg (by omega), Nat.add_sub_cancel, if_pos hnx] at hR
      exact hR
    · have hbit := (sr_nx_bit (s := LS k (C k)) (x := X k) (by omega)).1
      have H := H.at (G' := G2) (h' := k + 1) (X' := va_up X k (sr_nx (LS k (C k)) (X k) + 1)) hsu hsz (d0 := k) (by omega) (Nat.le_refl _) (fun b hb => hN b hb.1) ⟨_, _, _, ha2, (hN _ (by omega)).trans hs⟩ (fun d _ hd => va_up_n _ _ hd) (fun _ => ⟨Sk, by rw [va_up_s]; exact ⟨ha2, (hN _ (by omega)).trans hs⟩, by rw [va_up_s]; omega, hon, hrst⟩)
      have he := H.2.2.2.1
      obtain ⟨g, hg, hg1, hg2⟩ := H.2.2.2.2.2.1.2.1
      refine s_istore dX6_seek_107 (by decide) rfl ?_
      refine q_iload dX6_seek_109 rfl ?_
      refine q_iconst (v := -1) dX6_seek_111 (by decide) ?_
      refine q_icmp_ne (tgt := 121) dX6_seek_112 (by decide) (fun c112 => ?_) (fun c112 => absurd c112 (nI_nm1 (by omega)))
      refine q_aload_n dX6_seek_121 rfl rfl ?_
      refine q_get dX6_seek_122 fl_X6_29 he rfl ?_
      refine q_iload_n dX6_seek_125 rfl ?_
      refine n_icmp_ne (tgt := 132) dX6_seek_126 (by decide) (by omega) (by omega) (fun c126 => ?_) (fun c126 => ?_)
      · refine q_aload_n dX6_seek_132 rfl rfl ?_
        refine q_dup dX6_seek_133 rfl ?_
        refine q_get dX6_seek_134 fl_X6_29 he rfl ?_
        refine q_iconst (v := nI 1) dX6_seek_137 (by decide) ?_
        refine q_iadd dX6_seek_138 (nI_add _ _) ?_
        refine w_put (fs2 := se_ob s f (t + 1) (A 1 p * A 2 p)) dX6_seek_139 fl_X6_29 fp_X6_29 he (Nat.le_of_ble_eq_true rfl) rfl rfl rfl (fun G4 he hN => ?_)
        have H := H.tried hsu he hN
        obtain ⟨g, hg, hg1, hg2⟩ := H.2.2.2.2.2.1.2.1
        refine q_aload_n dX6_seek_142 rfl rfl ?_
        refine q_iload dX6_seek_143 rfl ?_
        refine q_iconst (v := nI 1) dX6_seek_145 (by decide) ?_
        refine q_iadd dX6_seek_146 (nI_add _ _) ?_
        by_cases hkm : k + 1 < m
        · refine q_iv (As := [_]) dX6_seek_147 ml_X6_38 mt_X6_levelAt mi_X6_levelAt se_X6_levelAt he rfl rfl (Nat.le_of_ble_eq_true rfl) (Nat.le_of_ble_eq_true rfl) (Nat.zero_le _) (Nat.zero_le _) (Nat.le_of_ble_eq_true rfl) (q_C.mono (c_X6_levelAt_old he hg (by omega) (hg1 (k + 1) hkm)) (fun v G1 sz1 hq => ?_))
          obtain ⟨rfl, rfl, rfl⟩ := hq
          refine s_astore dX6_seek_150 (by decide) rfl rfl ?_
          refine l_seek_try hz hsu hsz H (by omega) (by omega) hnx hbit (fun h1 LS1 C1 X1 f1 P1 G6 hpu H1 => ?_)
          have hh1 := sr_push_h hpu
          refine s_iinc dX6_seek_208 rfl (s_inc1 _) (by decide) rfl ?_
          refine q_goto (tgt := 67) dX6_seek_211 (by decide) ?_
          refine q_R.less (ih _ (by omega) (i + 1) h1 n f1 (t + 1) _ _ LS1 C1 X1 P1 _ G6 _ _ _ rfl (by omega) (by omega) ?_ H1) (by omega) (by omega)
          rw [sr_run_s, if_neg (by omega)] at hR
          rw [Nat.add_sub_cancel, if_neg (by omega), if_neg c126, hpu] at hR
          exact hR
        · obtain rfl : m = k + 1 := by omega
          refine q_iv (As := [_]) dX6_seek_147 ml_X6_38 mt_X6_levelAt mi_X6_levelAt se_X6_levelAt he rfl rfl (Nat.le_of_ble_eq_true rfl) (Nat.le_of_ble_eq_true rfl) (by omega) (by omega) (Nat.le_of_ble_eq_true rfl) (q_C.mono (c_X6_levelAt_new he hg (by omega) (hg2 (k + 1) (Nat.le_refl _)) (by omega)) (fun v G5 sz1 hq => ?_))
          obtain ⟨rfl, rfl, hg5, hL5, hN⟩ := hq
          have H := H.lvnew hsu hsz (by omega) ⟨hg1, hg2⟩ hg5 hL5 hN
          refine s_astore dX6_seek_150 (by decide) rfl rfl ?_
          rw [show lv k = va_up lv (k + 1) sz k from (va_up_n _ _ (by omega)).symm]
          have hzz : some (Value.ref sz) = some (Value.ref (va_up lv (k + 1) sz (k + 1))) := by rw [va_up_s]
          rw [hzz]
          refine l_seek_try hz hsu hsz H (by omega) (by omega) hnx hbit (fun h1 LS1 C1 X1 f1 P1 G6 hpu H1 => ?_)
          have hh1 := sr_push_h hpu
          refine s_iinc dX6_seek_208 rfl (s_inc1 _) (by decide) rfl ?_
          refine q_goto (tgt := 67) dX6_seek_211 (by decide) ?_
          refine q_R.less (ih _ (by omega) (i + 1) h1 n f1 (t + 1) _ _ LS1 C1 X1 P1 _ G6 _ _ _ rfl (by omega) (by omega) ?_ H1) (by omega) (by omega)
          rw [sr_run_s, if_neg (by omega)] at hR
          rw [Nat.add_sub_cancel, if_neg (by omega), if_neg c126, hpu] at hR
          exact hR
      · refine q_bipush (v := -2) dX6_seek_129 (by decide) ?_
        exact q_ireturn dX6_seek_131 rfl rfl (hE true _ LS C X f P t m lv _ _ (by rw [← hR, sr_run_s, if_neg (by omega), Nat.add_sub_cancel, if_neg (by omega), if_pos c126]) ⟨_, _, H⟩)
