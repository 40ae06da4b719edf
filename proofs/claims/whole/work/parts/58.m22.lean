theorem Gr.tot {I I1 : md_I} {A A1 : md_A} {p n : Nat} {S : Nat → Nat} (h : Gr I I1 A A1 p S n) {c : Nat} (hc : c < A 1 p * A 2 p) : A1 10 c = S c := by
  have : A1 10 (0 + c) = S c := h.2.2.2.2.2.1 c hc
  rwa [Nat.zero_add] at this
def gr_tA (A A1 : md_A) (p c v : Nat) : md_A := md_st (md_cp A1 10 100 (fun x => A1 10 (0 + x)) (A 1 p * A 2 p)) 10 (100 + c) (1 <<< v)
theorem gr_tA_k {A A1 : md_A} {p c v k : Nat} (h : k ≠ 10) : gr_tA A A1 p c v k = A1 k := (md_st_k _ h).trans (md_cp_k _ h)
theorem gr_tA_lo {A A1 : md_A} {p c v j : Nat} (h : j < 100) : gr_tA A A1 p c v 10 j = A1 10 j := (md_st_n _ (by omega)).trans (md_cp_out _ (by omega))
theorem gr_tA_on {I I1 : md_I} {A A1 : md_A} {p n c v : Nat} {S : Nat → Nat} (h : Gr I I1 A A1 p S n) : pz_on A p (fun x => gr_tA A A1 p c v 10 (100 + x)) (va_up S c (1 <<< v)) := by
  intro x hx
  show gr_tA A A1 p c v 10 (100 + x) = _
  unfold gr_tA
  by_cases hc : x = c
  · subst hc; rw [md_st_s, va_up_s]
  · rw [md_st_n _ (by omega), md_cp_in _ hx, va_up_n _ _ hc]
    exact h.2.2.2.2.2.1 x hx
theorem Gr.next {I I1 I2 : md_I} {A A1 A2 : md_A} {p n c v : Nat} {S : Nat → Nat} (hz : Pz A p) (h : Gr I I1 A A1 p S n) (hn : n ≠ 400) (hR : Scr (va_up I1 5 (n + 1)) I2 (gr_tA A A1 p c v) A2) (h10 : ∀ j, j < 100 → A2 10 j = gr_tA A A1 p c v 10 j) : Gr I I2 A A2 p S (n + 1) := by
  have hsz := pz_size hz
  obtain ⟨s1, s2, s3, s4, s5, s6, s7, s8⟩ := h
  refine ⟨fun j h1 h5 h6 => (hR.1 j h1).trans ((va_up_n _ _ h5).trans (s1 j h1 h5 h6)), (hR.1 5 (by decide)).trans (va_up_s _ _ _), by omega, (hR.1 6 (by decide)).trans ((va_up_n _ _ (by decide)).trans s4), fun k hk => (hR.2 k hk).trans ((gr_tA_k (by omega)).trans (s5 k hk)), fun x hx => ?_, s7, s8⟩
  show A2 10 (0 + x) = S x
  rw [h10 _ (by omega), gr_tA_lo (by omega)]
  exact s6 x hx
theorem Gr.less {I I1 : md_I} {A A1 : md_A} {p n c v : Nat} {S : Nat → Nat} (h : Gr I I1 A A1 p S n) : pz_on A p (fun x => md_st A1 10 c (ln_df (S c) (1 <<< v)) 10 (0 + x)) (va_up S c (ln_df (S c) (1 <<< v))) := by
  intro x hx
  show md_st A1 10 c _ 10 (0 + x) = _
  rw [Nat.zero_add]
  by_cases hc : x = c
  · subst hc; rw [md_st_s, va_up_s]
  · rw [md_st_n _ hc, va_up_n _ _ hc]
    have : A1 10 (0 + x) = S x := h.2.2.2.2.2.1 x hx
    rwa [Nat.zero_add] at this

set_option maxHeartbeats 4000000 in
set_option maxRecDepth 100000 in
theorem l_X9_passes_v {T : q_T} {m : Nat} {G0 : q_G} {I : md_I} {A : md_A} {sz : Nat} {E : q_E} {p n0 : Nat} {c : Nat} {Q : gr_Q} (hz : Pz A p) (hc : c < A 1 p * A 2 p) (hx : ∀ (I1 : md_I) (A1 : md_A) (G : q_G) (S : Nat → Nat) (n k : Nat), gr_v A p c 4 Q = (S, n, k, 0) → Mod T m G0 I1 A1 G → Gr I I1 A A1 p S n → n0 + k ≤ n → q_R T mX9_passes 5 128 149 [some (.ref m), some (.int (nI p)), some (.int (nI k)), some (.int (nI c)), some (.int (nI 4))] [] G sz 0 0 E) (hE : ∀ v G' I1 A1, Mod T m G0 I1 A1 G' → ∀ S n k e, gr_v A p c 4 Q = (S, n, k, e) → e ≠ 0 → Gx I I1 A A1 n k e v → E v G' sz) : ∀ (v : Nat) (z : q_G × md_I × md_A × (Nat → Nat) × Nat × Nat), v ≤ 4 → gr_v A p c v Q = (z.2.2.2.1, z.2.2.2.2.1, z.2.2.2.2.2, 0) → Mod T m G0 z.2.1 z.2.2.1 z.1 → Gr I z.2.1 A z.2.2.1 p z.2.2.2.1 z.2.2.2.2.1 → n0 + z.2.2.2.2.2 ≤ z.2.2.2.2.1 → q_R T mX9_passes 5 128 16 [some (.ref m), some (.int (nI p)), some (.int (nI z.2.2.2.2.2)), some (.int (nI c)), some (.int (nI v))] [] z.1 sz 0 0 E := by
  refine q_indN (fun v _ => 4 - v) _ (fun v z ih => ?_)
  obtain ⟨G, I1, A1, S, n, k⟩ := z
  dsimp only
  intro hv hQ hM hG hk
  have hsz := pz_size hz
  have hn400 := hG.2.2.1
  refine q_iload dX9_passes_16 rfl ?_
  refine q_iconst (v := nI 4) dX9_passes_18 (by decide) ?_
  refine n_icmp_ge (tgt := 149) dX9_passes_19 (by decide) (by omega) (by omega) (fun c19 => ?_) (fun c19 => ?_)
  · obtain rfl : v = 4 := by omega
    exact hx I1 A1 G S n k hQ hM hG hk
  · refine q_aload_n dX9_passes_22 rfl rfl ?_
    refine q_mga 10 10 dX9_passes_23 hM fl_X9_38 rfl ?_
    refine q_iload_n dX9_passes_26 rfl ?_
    refine q_mld (k := 10) (v := nI (S c)) dX9_passes_27 hM (by decide) rfl (show _ < (10400 : Nat) by omega) (congrArg nI (hG.tot hc)) (fun b27 => ?_)
    refine q_is (As := [_]) dX9_passes_28 ml_X9_128 mt_X9_isOne ms_X9_isOne rfl (Nat.le_of_ble_eq_true rfl) (Nat.le_of_ble_eq_true rfl) (Nat.zero_le _) (Nat.zero_le _) (Nat.le_of_ble_eq_true rfl) (q_C.mono (c_X9_isOne (hG.2.2.2.2.2.2.2 c hc) (by have := hG.2.2.2.2.2.2.1 c hc; omega)) (fun v G1 sz1 hq => ?_))
    obtain ⟨rfl, rfl, rfl⟩ := hq
    by_cases c1 : S c &&& (S c - 1) = 0
    · rw [if_pos c1]
      refine q_if_ne (tgt := 143) dX9_passes_31 (by decide) (fun _ => ?_) (fun h => absurd h (by decide))
      refine s_iinc dX9_passes_143 rfl (s_inc1 _) (by decide) rfl ?_
      refine q_goto (tgt := 16) dX9_passes_146 (by decide) ?_
      exact ih (v + 1) (G, I1, A1, S, n, k) (by omega) (by omega) (by show gr_p1 A p c v (gr_v A p c v Q) = _; rw [hQ]; exact gr_p1_skip (Or.inl c1)) hM hG hk
    · rw [if_neg c1]
      refine q_if_ne (tgt := 143) dX9_passes_31 (by decide) (fun h => absurd h (by decide)) (fun _ => ?_)
      refine q_aload_n dX9_passes_34 rfl rfl ?_
      refine q_mga 10 10 dX9_passes_35 hM fl_X9_38 rfl ?_
      refine q_iload_n dX9_passes_38 rfl ?_
      refine q_mld (k := 10) (v := nI (S c)) dX9_passes_39 hM (by decide) rfl (show _ < (10400 : Nat) by omega) (congrArg nI (hG.tot hc)) (fun b39 => ?_)
      refine q_iload dX9_passes_40 rfl ?_
      refine q_ishr dX9_passes_42 (n_shr (by have := hG.2.2.2.2.2.2.1 c hc; omega) (by omega)) ?_
      refine q_iconst (v := nI 1) dX9_passes_43 (by decide) ?_
      refine q_iand dX9_passes_44 (n_and _ _) ?_
      rw [ln_tb]
      have hS16 := hG.2.2.2.2.2.2.1 c hc
      have h16 := (ln_one16 (v := v) (by omega)).2
      cases c2 : (S c).testBit v with
      | true =>
        refine q_if_ne (tgt := 51) dX9_passes_45 (by decide) (fun _ => ?_) (fun h => absurd h (by decide))
        have hG5 := hG.2.1
        have hG400 := hG.2.2.1
        refine q_aload_n dX9_passes_51 rfl rfl ?_
        refine q_mgi 5 dX9_passes_52 hM fl_X9_188 (by decide) (fun b52 => ?_)
        refine q_sipush (v := nI 400) dX9_passes_55 (by decide) ?_
        refine n_icmp_ne (tgt := 68) dX9_passes_58 (by decide) (by omega) (by omega) (fun c58 => ?_) (fun c58 => ?_)
        · refine q_aload_n dX9_passes_68 rfl rfl ?_
          refine q_dup dX9_passes_69 rfl ?_
          refine q_mgi 5 dX9_passes_70 hM fl_X9_188 (by decide) (fun b70 => ?_)
          refine q_iconst (v := nI 1) dX9_passes_73 (by decide) ?_
          refine q_iadd dX9_passes_74 (show nI (I1 5) + nI 1 = nI (n + 1) by rw [hG.2.1]; exact nI_add n 1) ?_
          refine q_mpi 5 dX9_passes_75 hM fl_X9_188 fp_X9_188 (by decide) rfl (by omega) (fun G hM => ?_)
          refine q_aload_n dX9_passes_78 rfl rfl ?_
          refine q_iload_n dX9_passes_79 rfl ?_
          refine q_iconst (v := nI 0) dX9_passes_80 (by decide) ?_
          refine q_bipush (v := nI 100) dX9_passes_81 (by decide) ?_
          refine q_iv (As := [_, _, _]) dX9_passes_83 ml_X9_184 mt_X9_copies mi_X9_copies se_X9_copies hM.1 rfl rfl (Nat.le_of_ble_eq_true rfl) (Nat.le_of_ble_eq_true rfl) (Nat.zero_le _) (Nat.zero_le _) (Nat.le_of_ble_eq_true rfl) (q_C.mono (c_X9_copies hM hz.1 (by rw [hG.lt 1 (by decide), hG.lt 2 (by decide)]; exact ⟨hz.2.1.1, hz.2.1.2, hz.2.2.1.1, hz.2.2.1.2⟩) (by omega) (by omega) (by omega)) (fun v G sz1 hq => ?_))
          obtain ⟨rfl, rfl, hM⟩ := hq
          rw [hG.lt 1 (by decide), hG.lt 2 (by decide)] at hM
          refine q_aload_n dX9_passes_86 rfl rfl ?_
          refine q_mga 10 10 dX9_passes_87 hM fl_X9_38 rfl ?_
          refine q_bipush (v := nI 100) dX9_passes_90 (by decide) ?_
          refine q_iload_n dX9_passes_92 rfl ?_
          refine q_iadd dX9_passes_93 (nI_add _ _) ?_
          refine q_iconst (v := nI 1) dX9_passes_94 (by decide) ?_
          refine q_iload dX9_passes_95 rfl ?_
          refine q_ishl dX9_passes_97 (n_shl (by omega) rfl) ?_
          refine q_mst (k := 10) dX9_passes_98 hM (by decide) rfl (show _ < (10400 : Nat) by omega) rfl (by have := (ln_one16 (v := v) (by omega)).2; omega) (fun G hM => ?_)
          refine q_aload_n dX9_passes_99 rfl rfl ?_
          refine q_iload_n dX9_passes_100 rfl ?_
          refine q_bipush (v := nI 100) dX9_passes_101 (by decide) ?_
          have hM : Mod T m G0 (va_up I1 5 (n + 1)) (gr_tA A A1 p c v) G := hM
          have hlt : ∀ k, k < 10 → gr_tA A A1 p c v k = A k := fun k hk => (gr_tA_k (by omega)).trans (hG.lt k hk)
          have hon := gr_tA_on (c := c) (v := v) hG
          have kk := sr_child_ok (c := c) (v := v) hG.2.2.2.2.2.2.1 hG.2.2.2.2.2.2.2 (by omega)
          refine q_iv (As := [_, _]) dX9_passes_103 ml_X9_163 mt_X9_settles mi_X9_settles se_X9_settles hM.1 rfl rfl (Nat.le_of_ble_eq_true rfl) (Nat.le_of_ble_eq_true rfl) (Nat.zero_le _) (Nat.zero_le _) (Nat.le_of_ble_eq_true rfl) (q_C.mono (c_X9_settles hM (hz.same hlt) (by omega) (Ps.same hlt (pz_on_ps hon.symm kk.1))) (fun v G sz1 hq => ?_))
          rw [pz_same_st hlt] at hq
          have hal := pz_on_st hz 401 _ _ hon
          obtain ⟨rfl, I2, A2, hM, hR, ⟨e0, rfl, hlow⟩ | ⟨r, S1, e0, rfl, hV⟩⟩ := hq
          · obtain ⟨-, e1⟩ | ⟨r9, T1, T2, e1, -, -⟩ := hal
            · have hG2 := hG.next hz (by omega) hR hlow
              refine q_iconst (v := -1) dX9_passes_106 (by decide) ?_
              refine q_icmp_eq (tgt := 113) dX9_passes_107 (by decide) (fun _ => ?_) (fun h => absurd rfl h)
              refine s_iinc dX9_passes_113 rfl (s_inc1 _) (by decide) rfl ?_
              refine q_aload_n dX9_passes_116 rfl rfl ?_
              refine q_mga 10 10 dX9_passes_117 hM fl_X9_38 rfl ?_
              refine q_iload_n dX9_passes_120 rfl ?_
              refine q_dup2 dX9_passes_121 rfl rfl ?_
              refine q_mld (k := 10) (v := nI (S c)) dX9_passes_122 hM (by decide) rfl (show _ < (10400 : Nat) by omega) (congrArg nI (hG2.tot hc)) (fun b122 => ?_)
              refine q_iconst (v := nI 1) dX9_passes_123 (by decide) ?_
              refine q_iload dX9_passes_124 rfl ?_
              refine q_ishl dX9_passes_126 (n_shl (by omega) rfl) ?_
              refine q_iconst (v := -1) dX9_passes_127 (by decide) ?_
              refine q_ixor dX9_passes_128 rfl ?_
              refine q_iand dX9_passes_129 (ln_df_i hS16 h16) ?_
              refine q_mst (k := 10) dX9_passes_130 hM (by decide) rfl (show _ < (10400 : Nat) by omega) rfl (by have := (gr_df hS16 (v := v) (by omega) c1).2; omega) (fun G hM => ?_)
              refine q_aload_n dX9_passes_131 rfl rfl ?_
              refine q_iload_n dX9_passes_132 rfl ?_
              refine q_iconst (v := nI 0) dX9_passes_133 (by decide) ?_
              have hlt : ∀ k, k < 10 → md_st A2 10 c (ln_df (S c) (1 <<< v)) k = A k := fun k hk => (md_st_k _ (by omega)).trans (hG2.lt k hk)
              have hon2 := Gr.less (c := c) (v := v) hG2
              have kk2 := gr_less (v := v) hG.2.2.2.2.2.2.1 hG.2.2.2.2.2.2.2 hc (by omega) c1
              refine q_iv (As := [_, _]) dX9_passes_134 ml_X9_163 mt_X9_settles mi_X9_settles se_X9_settles hM.1 rfl rfl (Nat.le_of_ble_eq_true rfl) (Nat.le_of_ble_eq_true rfl) (Nat.zero_le _) (Nat.zero_le _) (Nat.le_of_ble_eq_true rfl) (q_C.mono (c_X9_settles hM (hz.same hlt) (by omega) (Ps.same hlt (pz_on_ps hon2.symm kk2.1))) (fun v G sz1 hq => ?_))
              rw [pz_same_st hlt] at hq
              have hal := pz_on_st hz 401 _ _ hon2
              obtain ⟨rfl, I3, A3, hM, hR3, ⟨e0', rfl, hlow3⟩ | ⟨r, S1, e0', rfl, hV3⟩⟩ := hq
              · obtain ⟨-, e3⟩ | ⟨r9, T1, T2, e3, -, -⟩ := hal
                · refine q_iconst (v := -1) dX9_passes_137 (by decide) ?_
                  refine q_icmp_ne (tgt := 143) dX9_passes_138 (by decide) (fun h => absurd rfl h) (fun _ => ?_)
                  refine q_iconst (v := -1) dX9_passes_141 (by decide) ?_
                  exact q_ireturn dX9_passes_142 rfl rfl (hE _ _ I3 A3 hM S (n + 1) (k + 1) 2 (by rw [show (4 : Nat) = (v + 1) + (3 - v) by omega, gr_v_on (a := v + 1) (3 - v) (by rw [show gr_v A p c (v + 1) Q = gr_p1 A p c v (gr_v A p c v Q) from rfl, hQ, gr_p1_brk c1 c2 (by omega) e1 e3]; exact (by decide : (2 : Nat) ≠ 0)), show gr_v A p c (v + 1) Q = gr_p1 A p c v (gr_v A p c v Q) from rfl, hQ, gr_p1_brk c1 c2 (by omega) e1 e3]) (by decide) ⟨fun j h1 h5 h6 => (hR3.1 j h1).trans (hG2.1 j h1 h5 h6), (hR3.1 5 (by decide)).trans hG2.2.1, by omega, fun k hk => (hR3.2 k hk).trans ((md_st_k _ (by omega)).trans (hG2.2.2.2.2.1 k hk)), Or.inr ⟨rfl, (hR3.1 6 (by decide)).trans hG2.2.2.2.1, rfl⟩⟩)
                · rw [e0'] at e3; cases e3
              · obtain ⟨e3, -⟩ | ⟨r9, T1, T2, e3, e4, e5⟩ := hal
                · rw [e0'] at e3; cases e3
                · rw [e0'] at e3
                  cases e3
                  have hrr : r < 2 ^ 31 := by have := (pz_st_inv hz 401 _ kk2.1 _ _ e4).2.2.1; have := pz_tot_le hz kk2.1; omega
                  refine q_iconst (v := -1) dX9_passes_137 (by decide) ?_
                  refine q_icmp_ne (tgt := 143) dX9_passes_138 (by decide) (fun _ => ?_) (fun h => absurd h (nI_m1 hrr))
                  refine s_iinc dX9_passes_143 rfl (s_inc1 _) (by decide) rfl ?_
                  refine q_goto (tgt := 16) dX9_passes_146 (by decide) ?_
                  have i1 := pz_st_inv hz 401 _ kk2.1 _ _ e4
                  have i2 := pz_st_more hz 401 _ kk2.1 kk2.2 _ _ e4
                  exact ih (v + 1) (G, I3, A3, T2, n + 1, k + 1) (by omega) (by omega) (by show gr_p1 A p c v (gr_v A p c v Q) = _; rw [hQ]; exact gr_p1_took c1 c2 (by omega) e1 e4) hM ⟨fun j h1 h5 h6 => (hR3.1 j h1).trans (hG2.1 j h1 h5 h6), (hR3.1 5 (by decide)).trans hG2.2.1, hG2.2.2.1, (hR3.1 6 (by decide)).trans hG2.2.2.2.1, fun k hk => (hR3.2 k hk).trans ((md_st_k _ (by omega)).trans (hG2.2.2.2.2.1 k hk)), fun x hx => (hV3.1 x).trans (e5 x hx), i1.1, i2.1⟩ (show n0 + (k + 1) ≤ n + 1 by omega)
            · rw [e0] at e1; cases e1
          · obtain ⟨e1, -⟩ | ⟨r9, T1, T2, e1, e2, -⟩ := hal
            · rw [e0] at e1; cases e1
            · have hG2 := hG.next hz (by omega) hR (fun j hj => hV.2 j hj)
              have hrr : r < 2 ^ 31 := by have := (pz_st_inv hz 401 _ (pz_on_ps hon.symm kk.1) _ _ e0).2.2.1; have := pz_tot_le hz (pz_on_ps hon.symm kk.1); omega
              refine q_iconst (v := -1) dX9_passes_106 (by decide) ?_
              refine q_icmp_eq (tgt := 113) dX9_passes_107 (by decide) (fun h => absurd h (nI_m1 hrr)) (fun _ => ?_)
              refine q_goto (tgt := 143) dX9_passes_110 (by decide) ?_
              refine s_iinc dX9_passes_143 rfl (s_inc1 _) (by decide) rfl ?_
              refine q_goto (tgt := 16) dX9_passes_146 (by decide) ?_
              exact ih (v + 1) (G, I2, A2, S, n + 1, k) (by omega) (by omega) (by show gr_p1 A p c v (gr_v A p c v Q) = _; rw [hQ]; exact gr_p1_fine c1 c2 (by omega) e2) hM hG2 (show n0 + k ≤ n + 1 by omega)
        · refine q_aload_n dX9_passes_61 rfl rfl ?_
          refine q_iconst (v := nI 1) dX9_passes_62 (by decide) ?_
          refine q_mpz dX9_passes_63 hM fl_X9_191 fp_X9_191 rfl (by omega) (fun G hM => ?_)
          refine q_iload_n dX9_passes_66 rfl ?_
          exact q_ireturn dX9_passes_67 rfl rfl (hE _ _ _ A1 hM S 400 k 1 (by rw [show (4 : Nat) = (v + 1) + (3 - v) by omega, gr_v_on (a := v + 1) (3 - v) (by rw [show gr_v A p c (v + 1) Q = gr_p1 A p c v (gr_v A p c v Q) from rfl, hQ, show n = 400 by omega, gr_p1_much c1 c2]; exact (by decide : (1 : Nat) ≠ 0)), show gr_v A p c (v + 1) Q = gr_p1 A p c v (gr_v A p c v Q) from rfl, hQ, show n = 400 by omega, gr_p1_much c1 c2]) (by decide) ⟨fun j h1 h5 h6 => (va_up_n _ _ h6).trans (hG.1 j h1 h5 h6), (va_up_n _ _ (by decide)).trans (by omega), Nat.le_refl _, hG.2.2.2.2.1, Or.inl ⟨rfl, va_up_s _ _ _, rfl⟩⟩)
      | false =>
        refine q_if_ne (tgt := 51) dX9_passes_45 (by decide) (fun h => absurd rfl h) (fun _ => ?_)
        refine q_goto (tgt := 143) dX9_passes_48 (by decide) ?_
        refine s_iinc dX9_passes_143 rfl (s_inc1 _) (by decide) rfl ?_
        refine q_goto (tgt := 16) dX9_passes_146 (by decide) ?_
        exact ih (v + 1) (G, I1, A1, S, n, k) (by omega) (by omega) (by show gr_p1 A p c v (gr_v A p c v Q) = _; rw [hQ]; exact gr_p1_skip (Or.inr c2)) hM hG hk

set_option maxHeartbeats 4000000 in
set_option maxRecDepth 100000 in
theorem l_X9_passes_c {T : q_T} {m : Nat} {G0 : q_G} {I : md_I} {A : md_A} {sz : Nat} {E : q_E} {p n0 : Nat} {S0 : Nat → Nat} (hz : Pz A p) (hE : ∀ v G' I1 A1, Mod T m G0 I1 A1 G' → ∀ S n k e, gr_c A p (A 1 p * A 2 p) (S0, n0, 0, 0) = (S, n, k, e) → ((e = 0 ∧ v = some (.int (nI k)) ∧ Gr I I1 A A1 p S n ∧ n0 + k ≤ n) ∨ (e ≠ 0 ∧ Gx I I1 A A1 n k e v)) → E v G' sz) : ∀ (c : Nat) (z : q_G × md_I × md_A × (Nat → Nat) × Nat × Nat), c ≤ A 1 p * A 2 p → gr_c A p c (S0, n0, 0, 0) = (z.2.2.2.1, z.2.2.2.2.1, z.2.2.2.2.2, 0) → Mod T m G0 z.2.1 z.2.2.1 z.1 → Gr I z.2.1 A z.2.2.1 p z.2.2.2.1 z.2.2.2.2.1 → n0 + z.2.2.2.2.2 ≤ z.2.2.2.2.1 → ∀ x4, q_R T mX9_passes 5 128 4 [some (.ref m), some (.int (nI p)), some (.int (nI z.2.2.2.2.2)), some (.int (nI c)), x4] [] z.1 sz 0 0 E := by
  refine q_indN (fun c _ => A 1 p * A 2 p - c) _ (fun c z ih => ?_)
  obtain ⟨G, I1, A1, S, n, k⟩ := z
  dsimp only
  intro hv hQ hM hG hk x4
  have hsz := pz_size hz
  have hn400 := hG.2.2.1
  refine q_iload_n dX9_passes_4 rfl ?_
  refine q_aload_n dX9_passes_5 rfl rfl ?_
  refine q_iload_n dX9_passes_6 rfl ?_
  refine q_iv (As := [_]) dX9_passes_7 ml_X9_108 mt_X9_sizeOf mi_X9_sizeOf se_X9_sizeOf hM.1 rfl rfl (Nat.le_of_ble_eq_true rfl) (Nat.le_of_ble_eq_true rfl) (Nat.zero_le _) (Nat.zero_le _) (Nat.le_of_ble_eq_true rfl) (q_C.mono (c_X9_sizeOf (w := A 1 p) (h := A 2 p) hM hz.1 (congrFun (hG.lt 1 (by decide)) p) (congrFun (hG.lt 2 (by decide)) p)) (fun v G1 sz1 hq => ?_))
  obtain ⟨rfl, rfl, rfl⟩ := hq
  refine n_icmp_ge (tgt := 155) dX9_passes_10 (by decide) (by omega) (by omega) (fun c10 => ?_) (fun c10 => ?_)
  · refine q_iload_n dX9_passes_155 rfl ?_
    exact q_ireturn dX9_passes_156 rfl rfl (hE _ _ I1 A1 hM S n k 0 (by rw [show A 1 p * A 2 p = c by omega]; exact hQ) (Or.inl ⟨rfl, rfl, hG, hk⟩))
  · refine q_iconst (v := nI 0) dX9_passes_13 (by decide) ?_
    refine s_istore dX9_passes_14 (by decide) rfl ?_
    refine l_X9_passes_v (I := I) (n0 := n0) (Q := (S, n, k, 0)) hz (by omega) (fun I2 A2 G S2 n2 k2 e2 hM hG2 hk2 => ?_) (fun v2 G2 I2 A2 hM2 S2 n2 k2 e2 eq ne gx => ?_) 0 (G, I1, A1, S, n, k) (Nat.zero_le _) rfl hM hG hk
    · refine s_iinc dX9_passes_149 rfl (s_inc1 _) (by decide) rfl ?_
      refine q_goto (tgt := 4) dX9_passes_152 (by decide) ?_
      exact ih (c + 1) (G, I2, A2, S2, n2, k2) (by omega) (by omega) (by show gr_v A p c 4 (gr_c A p c (S0, n0, 0, 0)) = _; rw [hQ]; exact e2) hM hG2 hk2 _
    · refine hE v2 G2 I2 A2 hM2 S2 n2 k2 e2 ?_ (Or.inr ⟨ne, gx⟩)
      have ee : gr_c A p (c + 1) (S0, n0, 0, 0) = (S2, n2, k2, e2) := by show gr_v A p c 4 (gr_c A p c (S0, n0, 0, 0)) = _; rw [hQ]; exact eq
      rw [show A 1 p * A 2 p = (c + 1) + (A 1 p * A 2 p - (c + 1)) by omega, gr_c_on (a := c + 1) _ (by rw [ee]; exact ne)]
      exact ee

set_option maxHeartbeats 4000000 in
set_option maxRecDepth 100000 in
theorem c_X9_passes {T : q_T} {m : Nat} {G0 G : q_G} {I I1 : md_I} {A A1 : md_A} {sz p n : Nat} {S : Nat → Nat} (hM : Mod T m G0 I1 A1 G) (hz : Pz A p) (hG : Gr I I1 A A1 p S n) : q_C T mX9_passes 5 128 0 0 [.ref m, .int (nI p)] G sz (fun v G' sz' => sz = sz' ∧ ∃ (I2 : md_I) (A2 : md_A), Mod T m G0 I2 A2 G' ∧ ∃ S2 n2 k e, gr_c A p (A 1 p * A 2 p) (S, n, 0, 0) = (S2, n2, k, e) ∧ ((e = 0 ∧ v = some (.int (nI k)) ∧ Gr I I2 A A2 p S2 n2 ∧ n + k ≤ n2) ∨ (e ≠ 0 ∧ Gx I I2 A A2 n2 k e v))) := by
  refine q_C.of (by decide) rfl (by simp [Value.category]) (Nat.le_of_ble_eq_true rfl) ?_
  refine q_iconst (v := nI 0) dX9_passes_0 (by decide) ?_
  refine s_istore_n dX9_passes_1 (by decide) rfl ?_
  refine q_iconst (v := nI 0) dX9_passes_2 (by decide) ?_
  refine s_istore_n dX9_passes_3 (by decide) rfl ?_
  exact l_X9_passes_c (I := I) hz (fun v G' I2 A2 hM2 S2 n2 k2 e2 eq h => ⟨rfl, I2, A2, hM2, S2, n2, k2, e2, eq, h⟩) 0 (G, I1, A1, S, n, 0) (Nat.zero_le _) rfl hM hG (Nat.le_refl _) _
