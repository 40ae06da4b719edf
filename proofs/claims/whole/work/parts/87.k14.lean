theorem nI_nm1 {n : Nat} (h : n < 2 ^ 31) : ¬ nI n = -1 := fun e => by
  have h1 := congrArg Int32.toInt e
  rw [nI_toInt h] at h1
  have h2 : (-1 : Int32).toInt = -1 := by decide
  omega
theorem Wt.every {A : md_A} {p : Nat} {S : Nat → Nat} (hz : Pz A p) : Wt A p (1 <<< (A 1 p + A 2 p) - 1) S := by
  have h1 := hz.2.1.2; have h2 := hz.2.2.1.2
  refine ⟨ev_lt (by omega), fun q hq => ?_, fun k hk hb => ?_⟩
  · rw [ev_bit, decide_eq_true_eq] at hq; exact hq
  · rw [ev_bit, decide_eq_true hk] at hb; cases hb

set_option maxHeartbeats 4000000 in
set_option maxRecDepth 100000 in
theorem l_seek_try {T : q_T} {G0 : q_G} {s u D p : Nat} {A : md_A} {sz0 m0 : Nat} {lv0 : Nat → Nat} {E : q_E} {G : q_G} {sz k n f t m tr li i bc bs : Nat} {lv : Nat → Nat} {LS : Nat → Nat → Nat} {C X : Nat → Nat} {P : Nat → Nat → Nat} {x4 : Option Value} (hz : Pz A p) (hsu : s + 8 ≤ u) (hsz : u + 3 + 4 * (A 1 p + A 2 p) ≤ sz0) (H : Sek T G0 s u D p A sz0 m0 lv0 m lv G sz (k + 1) LS C X f P t) (hkm : k + 1 < m) (hf5 : f < 5) (hn : n < 4) (hbit : (LS k (C k)).testBit n = true) (hx : ∀ h1 LS1 C1 X1 f1 P1 G1, sr_push A p (sr_child LS C (k + 1) n) (k + 1, LS, C, X, f, P, t) = (h1, LS1, C1, X1, f1, P1, t) → Sek T G0 s u D p A sz0 m0 lv0 m lv G1 sz h1 LS1 C1 X1 f1 P1 t → q_R T mX6_seek 5 127 208 [some (.ref (s + 5)), some (.ref u), some (.int (nI tr)), some (.int (nI li)), x4, some (.int (nI h1 - 1)), some (.int (nI i)), some (.ref (lv k)), some (.int (nI n)), some (.ref (lv (k + 1)))] [] G1 sz bc bs E) : q_R T mX6_seek 5 127 152 [some (.ref (s + 5)), some (.ref u), some (.int (nI tr)), some (.int (nI li)), x4, some (.int (nI k)), some (.int (nI i)), some (.ref (lv k)), some (.int (nI n)), some (.ref (lv (k + 1)))] [] G sz bc bs E := by
  have he := H.2.2.2.1
  have hu := H.2.2.1.1
  have hwh := pz_size hz
  obtain ⟨Sk, ⟨ha, hs⟩, hX4, hon, hrst⟩ := H.2.2.2.2.2.2.2.1 k (by omega)
  obtain ⟨⟨Sb, cb, xb, hba, hbs⟩, l1, l2, l3⟩ := H.2.2.2.2.2.1.2.2.1 (k + 1) hkm
  have l4 := H.2.2.2.2.2.1.2.2.2 k (k + 1) (by omega) hkm
  have l5 := (H.2.2.2.2.2.1.2.2.1 k (by omega)).2
  have hok := H.2.2.2.2.2.2.2.2.1 k (by show k < k + 1; omega)
  dsimp only at hok
  have hCk := hok.2.2.1
  refine q_aload dX6_seek_152 rfl rfl ?_
  refine q_get dX6_seek_154 fl_X6_45 ha rfl ?_
  refine q_iconst (v := nI 0) dX6_seek_157 (by decide) ?_
  refine q_aload dX6_seek_158 rfl rfl ?_
  refine q_get dX6_seek_160 fl_X6_45 hba rfl ?_
  refine q_iconst (v := nI 0) dX6_seek_163 (by decide) ?_
  refine q_aload_n dX6_seek_164 rfl rfl ?_
  refine q_get dX6_seek_165 fl_X6_32 he rfl ?_
  refine w_acopy dX6_seek_168 ml_X6_48 hs hbs hwh hwh (by omega) (by omega) (Nat.le_of_ble_eq_true rfl) (Nat.le_of_ble_eq_true rfl) (Nat.le_of_ble_eq_true rfl) (fun G1 hbs hN => ?_)
  have hba := (hN _ (by omega)).trans hba
  have H := H.at (G' := G1) (h' := k + 1) (X' := X) hsu hsz (d0 := k + 1) hkm (Nat.le_refl _) (fun b hb => hN b hb.2) ⟨_, _, _, hba, hbs⟩ (fun _ _ _ => rfl) (fun h => absurd h (Nat.lt_irrefl _))
  have ha := (hN _ (by omega)).trans ha
  have hs := (hN _ (by omega)).trans hs
  refine q_aload dX6_seek_171 rfl rfl ?_
  refine q_get dX6_seek_173 fl_X6_45 hba rfl ?_
  refine q_aload dX6_seek_176 rfl rfl ?_
  refine q_get dX6_seek_178 fl_X6_66 ha rfl ?_
  refine q_iconst (v := nI 1) dX6_seek_181 (by decide) ?_
  refine q_iload dX6_seek_182 rfl ?_
  refine q_ishl dX6_seek_184 (n_shl (by omega) rfl) ?_
  refine w_st (k := C k) (v := 1 <<< n) dX6_seek_185 hbs rfl (by omega) (by omega) rfl (fun G2 hbs hN => ?_)
  have hba := (hN _ (by omega)).trans hba
  have H := H.at (G' := G2) (h' := k + 1) (X' := X) hsu hsz (d0 := k + 1) hkm (Nat.le_refl _) (fun b hb => hN b hb.2) ⟨_, _, _, hba, hbs⟩ (fun _ _ _ => rfl) (fun h => absurd h (Nat.lt_irrefl _))
  have ha := (hN _ (by omega)).trans ha
  have hs := (hN _ (by omega)).trans hs
  have he := H.2.2.2.1
  have hu := H.2.2.1.1
  refine q_aload_n dX6_seek_186 rfl rfl ?_
  refine q_aload_n dX6_seek_187 rfl rfl ?_
  refine q_aload dX6_seek_188 rfl rfl ?_
  refine q_aload_n dX6_seek_190 rfl rfl ?_
  refine q_aload dX6_seek_191 rfl rfl ?_
  refine q_get dX6_seek_193 fl_X6_66 ha rfl ?_
  refine q_iv (As := [_]) dX6_seek_196 ml_X6_69 mt_X4_linesThrough mi_X4_linesThrough se_X4_linesThrough hu rfl rfl (Nat.le_of_ble_eq_true rfl) (Nat.le_of_ble_eq_true rfl) (Nat.zero_le _) (Nat.zero_le _) (Nat.le_of_ble_eq_true rfl) (q_C.mono (c_X4_linesThrough hu hz.2.1 hz.2.2.1.2 hCk) (fun v G1 sz1 hq => ?_))
  obtain ⟨rfl, rfl, rfl⟩ := hq
  have hSB : ∀ x, x < A 1 p * A 2 p → x ≠ C k → (va_up (fun i => if i < A 1 p * A 2 p then Sk i else Sb i) (C k) (1 <<< n)) x = Sk x := fun x hx hne => by rw [va_up_n _ _ hne, if_pos hx]
  have hSC : (va_up (fun i => if i < A 1 p * A 2 p then Sk i else Sb i) (C k) (1 <<< n)) (C k) = 1 <<< n := va_up_s _ _ _
  have hon2 : pz_on A p (va_up (fun i => if i < A 1 p * A 2 p then Sk i else Sb i) (C k) (1 <<< n)) (sr_child LS C (k + 1) n) := fun x hx => by show _ = va_up (LS k) (C k) (1 <<< n) x; by_cases e : x = C k; rw [e, hSC, va_up_s]; rw [hSB x hx e, va_up_n _ _ e]; exact hon x hx
  obtain ⟨hpc, hpnc⟩ := sr_child_ok (c := C k) (v := n) hok.1 hok.2.1 (by omega)
  have hpc : Ps A p (sr_child LS C (k + 1) n) := hpc
  have hpnc : Pn A p (sr_child LS C (k + 1) n) := hpnc
  obtain ⟨Q, hQ, hQP⟩ := H.2.2.2.2.1
  refine q_iv (As := [_, _, _]) dX6_seek_199 ml_X6_58 mt_X6_staysOpen mi_X6_staysOpen se_X6_staysOpen he rfl rfl (Nat.le_of_ble_eq_true rfl) (Nat.le_of_ble_eq_true rfl) (Nat.zero_le _) (Nat.zero_le _) (Nat.le_of_ble_eq_true rfl) (q_C.mono (c_X6_staysOpen H.1 H.2.1 H.2.2.1 ⟨hba, hbs⟩ he hQ (pz_on_ps hon2.symm hpc) (fun x hx => by rw [hon2 x hx]; exact hpnc x hx) (Wt.child hz hrst hCk hSB) hz hf5 hsu (by omega) (by omega)) (fun v G3 sz1 hq => ?_))
  obtain ⟨rfl, hN, hSc, hT, hLL, hv⟩ := hq
  obtain ⟨h1, LS1, C1, X1, f1, P1, hpu, H1, hv1⟩ := H.push hsu hsz hz hkm hon2 hpc hpnc (fun S1 q1 q2 => by have := pz_no_lt hok.1 q1 hok.2.2.1 hok.2.2.2.1 (by omega) hbit q2; have := hok.2.2.2.2; omega) hQP hN hSc hT hLL hv
  rcases hv1 with ⟨rfl, rfl⟩ | ⟨rfl, rfl⟩
  · refine q_if_eq (tgt := 208) dX6_seek_202 (by decide) (fun _ => ?_) (fun h => absurd h (by decide))
    rw [show nI k = nI (k + 1) - 1 from (nI_pred k).symm]
    exact hx _ LS1 C1 X1 f1 P1 G3 hpu H1
  · refine q_if_eq (tgt := 208) dX6_seek_202 (by decide) (fun h => absurd h (by decide)) (fun _ => ?_)
    refine s_iinc dX6_seek_205 rfl (s_inc1 _) (by decide) rfl ?_
    rw [show nI (k + 1) = nI (k + 1 + 1) - 1 from (nI_pred (k + 1)).symm]
    exact hx _ LS1 C1 X1 f1 P1 G3 hpu H1
