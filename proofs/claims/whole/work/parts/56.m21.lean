/-- the depth, as the model has it: one below the number of levels -/
def sr_dp : Nat → Int32
  | 0 => -1
  | n + 1 => nI n
theorem sr_dp_dec : ∀ d : Nat, nI d + -1 = sr_dp d
  | 0 => by decide
  | d + 1 => s_dec1 (by omega)
def sr_tryA (A A1 : md_A) (p d c n : Nat) : md_A := md_st (md_cp (md_st A1 18 d (n + 1)) 10 (100 * (d + 1)) (fun x => md_st A1 18 d (n + 1) 10 (100 * d + x)) (A 1 p * A 2 p)) 10 (100 * (d + 1) + c) (1 <<< n)
theorem Sr.try {I I1 : md_I} {A A1 : md_A} {p d n : Nat} {LS : Nat → Nat → Nat} {C X : Nat → Nat} {f : Nat} {P : Nat → Nat → Nat} {t : Nat} (hz : Pz A p) (hS : Sr I I1 A A1 p (d + 1) LS C X f P t) (hn : n ≤ 3) : Sr I (va_up I1 3 (t + 1)) A (sr_tryA A A1 p d (C d) n) p (d + 1) LS C (va_up X d (n + 1)) f P (t + 1) := by
  obtain ⟨s1, s2, s3, s4, s5, s6, s7, s8⟩ := hS
  have hsz := pz_size hz
  refine ⟨fun j h1 h2 h3 h4 => (va_up_n _ _ h3).trans (s1 j h1 h2 h3 h4), (va_up_n _ _ (by decide)).trans s2, va_up_s _ _ _, (va_up_n _ _ (by decide)).trans s4, fun k hk => ?_, fun e he => ?_, fun i hi k hk => ?_, s8⟩
  · unfold sr_tryA
    rw [md_st_k _ (by omega), md_cp_k _ (by omega), md_st_k _ (by omega)]
    exact s5 k hk
  · have hsix := s6 e he
    refine ⟨fun x hx => ?_, ?_, ?_⟩
    · unfold sr_tryA
      rw [md_st_n _ (by omega), md_cp_out _ (by omega), md_st_k _ (by decide)]
      exact hsix.1 x hx
    · unfold sr_tryA
      rw [md_st_k _ (by decide), md_cp_k _ (by decide), md_st_k _ (by decide)]
      exact hsix.2.1
    · unfold sr_tryA
      rw [md_st_k _ (by decide), md_cp_k _ (by decide), md_st_at]
      by_cases hed : e = d
      · subst hed
        rw [if_pos ⟨rfl, rfl⟩, va_up_s]
        exact ⟨rfl, by omega⟩
      · rw [if_neg (fun g => hed g.2), va_up_n _ _ hed]
        exact hsix.2.2
  · unfold sr_tryA
    rw [md_st_k _ (by decide), md_cp_k _ (by decide), md_st_k _ (by decide)]
    exact s7 i hi k hk
theorem Sr.tryon {I I1 : md_I} {A A1 : md_A} {p d n : Nat} {LS : Nat → Nat → Nat} {C X : Nat → Nat} {f : Nat} {P : Nat → Nat → Nat} {t : Nat} (hz : Pz A p) (hS : Sr I I1 A A1 p (d + 1) LS C X f P t) : pz_on A p (fun x => sr_tryA A A1 p d (C d) n 10 (100 * (d + 1) + x)) (va_up (LS d) (C d) (1 <<< n)) := by
  intro x hx
  show sr_tryA A A1 p d (C d) n 10 (100 * (d + 1) + x) = _
  unfold sr_tryA
  by_cases h : x = C d
  · subst h
    rw [md_st_s, va_up_s]
  · rw [md_st_n _ (by omega), md_cp_in _ hx, va_up_n _ _ h, md_st_k _ (by decide)]
    exact (hS.2.2.2.2.2.1 d (Nat.lt_succ_self d)).1 x hx

set_option maxHeartbeats 4000000 in
set_option maxRecDepth 100000 in
theorem l_X9_search_v {T : q_T} {m : Nat} {G0 : q_G} {I : md_I} {A : md_A} {sz : Nat} {E : q_E} {p tr li : Nat} {I1 : md_I} {A1 : md_A} {LS : Nat → Nat → Nat} {C : Nat → Nat} {d : Nat} (hd : d ≤ 103) (hC : C d < 100) (hcd : A1 17 d = C d) (hsd : A1 10 (100 * d + C d) = LS d (C d)) (hs16 : LS d (C d) < 16) : ∀ (v : Nat) (G : q_G), v ≤ 4 → Mod T m G0 I1 A1 G → (q_R T mX9_search 6 153 131 [some (.ref m), some (.int (nI p)), some (.int (nI tr)), some (.int (nI li)), some (.int (nI d)), some (.int (nI (sr_nx (LS d (C d)) v)))] [] G sz 0 0 E) → q_R T mX9_search 6 153 93 [some (.ref m), some (.int (nI p)), some (.int (nI tr)), some (.int (nI li)), some (.int (nI d)), some (.int (nI v))] [] G sz 0 0 E := by
  refine q_indN (fun v _ => 4 - v) _ (fun v G ih => ?_)
  intro hv hM hx
  refine q_iload dX9_search_93 rfl ?_
  refine q_iconst (v := nI 4) dX9_search_95 (by decide) ?_
  refine n_icmp_ge (tgt := 131) dX9_search_96 (by decide) (by omega) (by omega) (fun c96 => ?_) (fun c96 => ?_)
  · obtain rfl : v = 4 := by omega
    rw [sr_nx_4 (Nat.le_refl 4)] at hx
    exact hx
  · refine q_aload_n dX9_search_99 rfl rfl ?_
    refine q_mga 10 10 dX9_search_100 hM fl_X9_38 rfl ?_
    refine q_bipush (v := nI 100) dX9_search_103 (by decide) ?_
    refine q_iload dX9_search_105 rfl ?_
    refine q_imul dX9_search_107 (pk_mul _ _) ?_
    refine q_aload_n dX9_search_108 rfl rfl ?_
    refine q_mga 21 17 dX9_search_109 hM fl_X9_59 rfl ?_
    refine q_iload dX9_search_112 rfl ?_
    refine q_mld (k := 17) (v := nI (C d)) dX9_search_114 hM (by decide) rfl (show _ < (104 : Nat) by omega) (congrArg nI hcd) (fun b114 => ?_)
    refine q_iadd dX9_search_115 (nI_add _ _) ?_
    refine q_mld (k := 10) (v := nI (LS d (C d))) dX9_search_116 hM (by decide) rfl (show _ < (10400 : Nat) by omega) (congrArg nI hsd) (fun b116 => ?_)
    refine q_iload dX9_search_117 rfl ?_
    refine q_ishr dX9_search_119 (n_shr (by omega) (by omega)) ?_
    refine q_iconst (v := nI 1) dX9_search_120 (by decide) ?_
    refine q_iand dX9_search_121 (n_and _ _) ?_
    rw [ln_tb]
    cases htb : (LS d (C d)).testBit v with
    | true =>
      refine q_if_ne (tgt := 131) dX9_search_122 (by decide) (fun _ => ?_) (fun h => absurd h (by decide))
      rw [sr_nx_hit (by omega) htb] at hx
      exact hx
    | false =>
      refine q_if_ne (tgt := 131) dX9_search_122 (by decide) (fun h => absurd rfl h) (fun _ => ?_)
      refine s_iinc dX9_search_125 rfl (s_inc1 _) (by decide) rfl ?_
      refine q_goto (tgt := 93) dX9_search_128 (by decide) ?_
      exact ih (v + 1) G (by omega) (by omega) hM (by rw [← sr_nx_miss (by omega) htb]; exact hx)

set_option maxHeartbeats 4000000 in
set_option maxRecDepth 100000 in
theorem l_X9_search {T : q_T} {m : Nat} {G0 : q_G} {I : md_I} {A : md_A} {sz : Nat} {E : q_E} {p tr li : Nat} (hz : Pz A p) (htr : tr ≤ 200) (hli : li ≤ 5) : ∀ (n h : Nat) (LS : Nat → Nat → Nat) (C X : Nat → Nat) (f : Nat) (P : Nat → Nat → Nat) (t : Nat) (I1 : md_I) (A1 : md_A) (G : q_G), 2 * (tr - t) + h < n → f ≤ li → t ≤ tr → h ≤ 101 → Mod T m G0 I1 A1 G → Sr I I1 A A1 p h LS C X f P t → ∀ x4 x5, x4 = sr_dp h → (∀ v G' I' A', Mod T m G0 I' A' G' → ∀ b h' LS' C' X' f' P' t', sr_run A p tr li n (h, LS, C, X, f, P, t) = (b, (h', LS', C', X', f', P', t')) → f' ≤ li → t' ≤ tr → v = some (.int (if b = true then -2 else nI f')) → Sr I I' A A' p h' LS' C' X' f' P' t' → E v G' sz) → q_R T mX9_search 6 153 71 [some (.ref m), some (.int (nI p)), some (.int (nI tr)), some (.int (nI li)), some (.int x4), x5] [] G sz 0 0 E := by
  intro n
  induction n with
  | zero => intro h LS C X f P t I1 A1 G hn; omega
  | succ n ih =>
  intro h LS C X f P t I1 A1 G hn hf ht hh hM hS x4 x5 hx4 hE
  subst hx4
  have hsz := pz_size hz
  have hh2 := sr_ok_h hS.2.2.2.2.2.2.2
  dsimp only at hh2
  have hp30 := hz.1
  have hS2 := hS.2.1
  cases h with
  | zero =>
    refine q_iload dX9_search_71 rfl ?_
    refine q_if_lt (tgt := 234) dX9_search_73 (by decide) (fun _ => ?_) (fun h => absurd h (by decide))
    refine q_aload_n dX9_search_234 rfl rfl ?_
    refine q_mgi 2 dX9_search_235 hM fl_X9_172 (by decide) (fun b235 => ?_)
    exact q_ireturn dX9_search_238 rfl rfl (hE _ _ I1 A1 hM false _ LS C X f P t (by rw [sr_run_s, if_pos (by omega)]) (by omega) (by omega) (by rw [← hS.2.1]; rfl) hS)
  | succ d =>
    show q_R T mX9_search 6 153 71 [some (.ref m), some (.int (nI p)), some (.int (nI tr)), some (.int (nI li)), some (.int (nI d)), x5] [] G sz 0 0 E
    refine q_iload dX9_search_71 rfl ?_
    refine n_if_lt (tgt := 234) dX9_search_73 (by decide) (by omega) ?_
    refine q_aload_n dX9_search_76 rfl rfl ?_
    refine q_mgi 2 dX9_search_77 hM fl_X9_172 (by decide) (fun b77 => ?_)
    refine q_iload_n dX9_search_80 rfl ?_
    refine n_icmp_ge (tgt := 234) dX9_search_81 (by decide) (by omega) (by omega) (fun c81 => ?_) (fun c81 => ?_)
    · refine q_aload_n dX9_search_234 rfl rfl ?_
      refine q_mgi 2 dX9_search_235 hM fl_X9_172 (by decide) (fun b235 => ?_)
      exact q_ireturn dX9_search_238 rfl rfl (hE _ _ I1 A1 hM false _ LS C X f P t (by rw [sr_run_s, if_pos (by omega)]) (by omega) (by omega) (by rw [← hS.2.1]; rfl) hS)
    · refine q_aload_n dX9_search_84 rfl rfl ?_
      refine q_mga 22 18 dX9_search_85 hM fl_X9_62 rfl ?_
      refine q_iload dX9_search_88 rfl ?_
      refine q_mld (k := 18) (v := nI (X d)) dX9_search_90 hM (by decide) rfl (show _ < (104 : Nat) by omega) (congrArg nI (hS.2.2.2.2.2.1 d (Nat.lt_succ_self d)).2.2.1) (fun b90 => ?_)
      refine s_istore dX9_search_91 (by decide) rfl ?_
      obtain ⟨o1, o2, o3, o4, o5⟩ := hS.2.2.2.2.2.2.2 d (Nat.lt_succ_self d)
      dsimp only at o1 o2 o3 o4 o5
      obtain ⟨u1, u2, u3, u4⟩ := hS.2.2.2.2.2.1 d (Nat.lt_succ_self d)
      refine l_X9_search_v (I := I) (A := A) (LS := LS) (C := C) (by omega) (by omega) u2 (u1 _ o3) (o1 _ o3) (X d) G u4 hM ?_
      have hnx := sr_nx_le (LS d (C d)) (X d)
      have hS2 := hS.2.1
      have hS3 := hS.2.2.1
      generalize env : sr_nx (LS d (C d)) (X d) = nv at *
      refine q_iload dX9_search_131 rfl ?_
      refine q_iconst (v := nI 4) dX9_search_133 (by decide) ?_
      refine n_icmp_ne (tgt := 143) dX9_search_134 (by decide) (by omega) (by omega) (fun c134 => ?_) (fun c134 => ?_)
      · refine q_aload_n dX9_search_143 rfl rfl ?_
        refine q_mgi 3 dX9_search_144 hM fl_X9_175 (by decide) (fun b144 => ?_)
        refine q_iload_n dX9_search_147 rfl ?_
        refine n_icmp_ne (tgt := 154) dX9_search_148 (by decide) (by omega) (by omega) (fun c148 => ?_) (fun c148 => ?_)
        · refine q_aload_n dX9_search_154 rfl rfl ?_
          refine q_dup dX9_search_155 rfl ?_
          refine q_mgi 3 dX9_search_156 hM fl_X9_175 (by decide) (fun b156 => ?_)
          refine q_iconst (v := nI 1) dX9_search_159 (by decide) ?_
          refine q_iadd dX9_search_160 (show nI (I1 3) + nI 1 = nI (t + 1) by rw [hS3]; exact nI_add t 1) ?_
          refine q_mpi 3 dX9_search_161 hM fl_X9_175 fp_X9_175 (by decide) rfl (by omega) (fun G hM => ?_)
          refine q_aload_n dX9_search_164 rfl rfl ?_
          refine q_mga 22 18 dX9_search_165 hM fl_X9_62 rfl ?_
          refine q_iload dX9_search_168 rfl ?_
          refine q_iload dX9_search_170 rfl ?_
          refine q_iconst (v := nI 1) dX9_search_172 (by decide) ?_
          refine q_iadd dX9_search_173 (nI_add _ _) ?_
          refine q_mst (k := 18) dX9_search_174 hM (by decide) rfl (show _ < (104 : Nat) by omega) rfl (by omega) (fun G hM => ?_)
          refine q_aload_n dX9_search_175 rfl rfl ?_
          refine q_iload_n dX9_search_176 rfl ?_
          refine q_bipush (v := nI 100) dX9_search_177 (by decide) ?_
          refine q_iload dX9_search_179 rfl ?_
          refine q_imul dX9_search_181 (pk_mul _ _) ?_
          refine q_bipush (v := nI 100) dX9_search_182 (by decide) ?_
          refine q_iload dX9_search_184 rfl ?_
          refine q_iconst (v := nI 1) dX9_search_186 (by decide) ?_
          refine q_iadd dX9_search_187 (nI_add _ _) ?_
          refine q_imul dX9_search_188 (pk_mul _ _) ?_
          have hc17 : A1 17 d = C d := u2
          refine q_iv (As := [_, _, _]) dX9_search_189 ml_X9_184 mt_X9_copies mi_X9_copies se_X9_copies hM.1 rfl rfl (Nat.le_of_ble_eq_true rfl) (Nat.le_of_ble_eq_true rfl) (Nat.zero_le _) (Nat.zero_le _) (Nat.le_of_ble_eq_true rfl) (q_C.mono (c_X9_copies hM hz.1 (by rw [show md_st A1 18 d (nv + 1) 1 = A 1 from (md_st_k _ (by decide)).trans (hS.lt 1 (by decide)), show md_st A1 18 d (nv + 1) 2 = A 2 from (md_st_k _ (by decide)).trans (hS.lt 2 (by decide))]; exact ⟨hz.2.1.1, hz.2.1.2, hz.2.2.1.1, hz.2.2.1.2⟩) (by omega) (by omega) (by omega)) (fun v G sz1 hq => ?_))
          obtain ⟨rfl, rfl, hM⟩ := hq
          rw [show md_st A1 18 d (nv + 1) 1 = A 1 from (md_st_k _ (by decide)).trans (hS.lt 1 (by decide)), show md_st A1 18 d (nv + 1) 2 = A 2 from (md_st_k _ (by decide)).trans (hS.lt 2 (by decide))] at hM
          refine q_aload_n dX9_search_192 rfl rfl ?_
          refine q_mga 10 10 dX9_search_193 hM fl_X9_38 rfl ?_
          refine q_bipush (v := nI 100) dX9_search_196 (by decide) ?_
          refine q_iload dX9_search_198 rfl ?_
          refine q_iconst (v := nI 1) dX9_search_200 (by decide) ?_
          refine q_iadd dX9_search_201 (nI_add _ _) ?_
          refine q_imul dX9_search_202 (pk_mul _ _) ?_
          refine q_aload_n dX9_search_203 rfl rfl ?_
          refine q_mga 21 17 dX9_search_204 hM fl_X9_59 rfl ?_
          refine q_iload dX9_search_207 rfl ?_
          refine q_mld (k := 17) (v := nI (C d)) dX9_search_209 hM (by decide) rfl (show _ < (104 : Nat) by omega) (congrArg nI hc17) (fun b209 => ?_)
          refine q_iadd dX9_search_210 (nI_add _ _) ?_
          refine q_iconst (v := nI 1) dX9_search_211 (by decide) ?_
          refine q_iload dX9_search_212 rfl ?_
          refine q_ishl dX9_search_214 (n_shl (by omega) rfl) ?_
          refine q_mst (k := 10) dX9_search_215 hM (by decide) rfl (show _ < (10400 : Nat) by omega) rfl (by have := (ln_one16 (v := nv) (by omega)).2; omega) (fun G hM => ?_)
          refine q_aload_n dX9_search_216 rfl rfl ?_
          refine q_iload_n dX9_search_217 rfl ?_
          refine q_iload dX9_search_218 rfl ?_
          refine q_iconst (v := nI 1) dX9_search_220 (by decide) ?_
          refine q_iadd dX9_search_221 (nI_add _ _) ?_
          have hv3 : nv ≤ 3 := by omega
          have hb := sr_nx_bit (s := LS d (C d)) (x := X d) (by omega)
          rw [env] at hb
          obtain ⟨k1, k2⟩ := sr_child_ok (c := C d) o1 o2 hv3
          obtain ⟨hM, hS9, hon⟩ : Mod T m G0 (va_up I1 3 (t + 1)) (sr_tryA A A1 p d (C d) nv) G ∧ _ ∧ _ := ⟨hM, Sr.try hz hS (n := nv) (by omega), Sr.tryon hz hS (n := nv)⟩
          generalize eA : sr_tryA A A1 p d (C d) nv = A9 at hM hS9 hon
          generalize eI : va_up I1 3 (t + 1) = I9 at hM hS9
          have hI92 := hS9.2.1
          refine q_iv (As := [_, _]) dX9_search_222 ml_X9_181 mt_X9_opens mi_X9_opens se_X9_opens hM.1 rfl rfl (Nat.le_of_ble_eq_true rfl) (Nat.le_of_ble_eq_true rfl) (Nat.zero_le _) (Nat.zero_le _) (Nat.le_of_ble_eq_true rfl) (q_C.mono (c_X9_opens hM (hz.same hS9.lt) (by omega) (Ps.same hS9.lt (pz_on_ps hon.symm k1)) (by omega)) (fun v G sz1 hq => ?_))
          obtain ⟨rfl, I2, A2, hM, hfr, hq⟩ := hq
          obtain ⟨h', LS', C', X', f', P', epu, hS', ⟨rfl, rfl, hf'⟩ | ⟨rfl, rfl, rfl⟩⟩ := Sr.push hz hS9 hon k1 k2 (fun S1 j1 j2 => by have := pz_no_lt o1 j1 o3 o4 hv3 hb.1 j2; omega) hfr hq
          · refine q_if_eq (tgt := 231) dX9_search_225 (by decide) (fun _ => ?_) (fun h => absurd h (by decide))
            refine q_goto (tgt := 71) dX9_search_231 (by decide) ?_
            exact ih _ LS' C' X' f' P' (t + 1) I2 A2 G (by omega) (by omega) (by omega) (by omega) hM hS' _ _ rfl (fun v G' I3 A3 hM3 b h3 LS3 C3 X3 f3 P3 t3 e => hE v G' I3 A3 hM3 b h3 LS3 C3 X3 f3 P3 t3 (by rw [sr_run_s, if_neg (by omega), Nat.add_sub_cancel, env, if_neg (by omega), if_neg (by omega), show sr_child LS C (d + 1) nv = va_up (LS d) (C d) (1 <<< nv) from rfl, epu]; exact e))
          · refine q_if_eq (tgt := 231) dX9_search_225 (by decide) (fun h => absurd h (by decide)) (fun _ => ?_)
            refine s_iinc dX9_search_228 rfl (s_inc1 _) (by decide) rfl ?_
            refine q_goto (tgt := 71) dX9_search_231 (by decide) ?_
            exact ih _ LS' C' X' _ P' (t + 1) I2 A2 G (by omega) (by omega) (by omega) (by omega) hM hS' _ _ rfl (fun v G' I3 A3 hM3 b h3 LS3 C3 X3 f3 P3 t3 e => hE v G' I3 A3 hM3 b h3 LS3 C3 X3 f3 P3 t3 (by rw [sr_run_s, if_neg (by omega), Nat.add_sub_cancel, env, if_neg (by omega), if_neg (by omega), show sr_child LS C (d + 1) nv = va_up (LS d) (C d) (1 <<< nv) from rfl, epu]; exact e))
        · refine q_bipush (v := -2) dX9_search_151 (by decide) ?_
          exact q_ireturn dX9_search_153 rfl rfl (hE _ _ I1 A1 hM true _ LS C X f P t (by rw [sr_run_s, if_neg (by omega), Nat.add_sub_cancel, env, if_neg (by omega), if_pos (by omega)]) (by omega) (by omega) rfl hS)
      · refine s_iinc dX9_search_137 rfl rfl (by decide) rfl ?_
        refine q_goto (tgt := 71) dX9_search_140 (by decide) ?_
        refine ih d LS C X f P t I1 A1 G (by omega) (by omega) (by omega) (by omega) hM ⟨hS.1, hS.2.1, hS.2.2.1, hS.2.2.2.1, hS.2.2.2.2.1, fun e he => hS.2.2.2.2.2.1 e (by omega), hS.2.2.2.2.2.2.1, fun e he => hS.2.2.2.2.2.2.2 e (show e < d + 1 from Nat.lt_trans he (Nat.lt_succ_self d))⟩ _ _ (sr_dp_dec d) (fun v G' I2 A2 hM2 b h2 LS2 C2 X2 f2 P2 t2 e => hE v G' I2 A2 hM2 b h2 LS2 C2 X2 f2 P2 t2 (by rw [sr_run_s, if_neg (by omega), Nat.add_sub_cancel, env, if_pos (by omega)]; exact e))

set_option maxHeartbeats 4000000 in
set_option maxRecDepth 100000 in
theorem c_X9_search {T : q_T} {m : Nat} {G0 G : q_G} {I : md_I} {A : md_A} {sz t : Nat} (hM : Mod T m G0 I A G) (hI : Inv t I A) (x y w : Int32) : q_C T mX9_search 6 153 0 0 [.ref m, .int x, .int y, .int w] G sz (fun v G' sz' => sz = sz' ∧ ∃ (I' : md_I) (A' : md_A), Mod T m G0 I' A' G' ∧ ∃ (z : Int32) (I2 : md_I) (A2 : md_A), v = some (.int z) ∧ D_search I A x y w z I2 A2 ∧ Per I2 I' A2 A') := by
  refine q_C.of (by decide) rfl (by simp [Value.category]) (Nat.le_of_ble_eq_true rfl) ?_
  refine q_aload_n dX9_search_0 rfl rfl ?_
  refine q_iload_n dX9_search_1 rfl ?_
  refine q_iv (As := [_]) dX9_search_2 ml_X9_100 mt_X9_isPuzzle mi_X9_isPuzzle se_X9_isPuzzle hM.1 rfl rfl (Nat.le_of_ble_eq_true rfl) (Nat.le_of_ble_eq_true rfl) (Nat.zero_le _) (Nat.zero_le _) (Nat.le_of_ble_eq_true rfl) (q_C.mono (c_X9_isPuzzle hM _) (fun v G1 sz1 hq => ?_))
  obtain ⟨⟨⟨p, hp, rfl⟩, rfl⟩ | ⟨hV2, rfl⟩, rfl, rfl⟩ := hq
  · have hz := (hI.2.1 p hp).1
    have hp30 := hI.1
    have hsz := pz_size hz
    refine q_if_eq (tgt := 28) dX9_search_5 (by decide) (fun h => absurd h (by decide)) (fun _ => ?_)
    refine q_iload_n dX9_search_8 rfl ?_
    refine q_iconst (v := nI 0) dX9_search_9 (by decide) ?_
    refine q_sipush (v := nI 200) dX9_search_10 (by decide) ?_
    refine q_is (As := [_, _, _]) dX9_search_13 ml_X9_96 mt_X9_in ms_X9_in rfl (Nat.le_of_ble_eq_true rfl) (Nat.le_of_ble_eq_true rfl) (Nat.zero_le _) (Nat.zero_le _) (Nat.le_of_ble_eq_true rfl) (q_C.mono (c_X9_in _ _ _) (fun v G1 sz1 hq => ?_))
    rw [q_ixn (by omega)] at hq
    obtain ⟨⟨⟨tr, htr, rfl⟩, rfl⟩ | ⟨hV13, rfl⟩, rfl, rfl⟩ := hq
    · refine q_if_eq (tgt := 28) dX9_search_16 (by decide) (fun h => absurd h (by decide)) (fun _ => ?_)
      refine q_iload_n dX9_search_19 rfl ?_
      refine q_iconst (v := nI 1) dX9_search_20 (by decide) ?_
      refine q_iconst (v := nI 5) dX9_search_21 (by decide) ?_
      refine q_is (As := [_, _, _]) dX9_search_22 ml_X9_96 mt_X9_in ms_X9_in rfl (Nat.le_of_ble_eq_true rfl) (Nat.le_of_ble_eq_true rfl) (Nat.zero_le _) (Nat.zero_le _) (Nat.le_of_ble_eq_true rfl) (q_C.mono (c_X9_in _ _ _) (fun v G1 sz1 hq => ?_))
      rw [q_ixr (by omega) (by omega)] at hq
      obtain ⟨⟨⟨li, hl1, hl5, rfl⟩, rfl⟩ | ⟨hV22, rfl⟩, rfl, rfl⟩ := hq
      · refine q_if_ne (tgt := 30) dX9_search_25 (by decide) (fun _ => ?_) (fun h => absurd h (by decide))
        refine q_aload_n dX9_search_30 rfl rfl ?_
        refine q_iconst (v := nI 0) dX9_search_31 (by decide) ?_
        refine q_mpi 2 dX9_search_32 hM fl_X9_172 fp_X9_172 (by decide) rfl (by omega) (fun G hM => ?_)
        refine q_aload_n dX9_search_35 rfl rfl ?_
        refine q_iconst (v := nI 0) dX9_search_36 (by decide) ?_
        refine q_mpi 3 dX9_search_37 hM fl_X9_175 fp_X9_175 (by decide) rfl (by omega) (fun G hM => ?_)
        refine q_aload_n dX9_search_40 rfl rfl ?_
        refine q_aload_n dX9_search_41 rfl rfl ?_
        refine q_iload_n dX9_search_42 rfl ?_
        refine q_iv (As := [_]) dX9_search_43 ml_X9_108 mt_X9_sizeOf mi_X9_sizeOf se_X9_sizeOf hM.1 rfl rfl (Nat.le_of_ble_eq_true rfl) (Nat.le_of_ble_eq_true rfl) (Nat.zero_le _) (Nat.zero_le _) (Nat.le_of_ble_eq_true rfl) (q_C.mono (c_X9_sizeOf (w := A 1 p) (h := A 2 p) hM hz.1 rfl rfl) (fun v G1 sz1 hq => ?_))
        obtain ⟨rfl, rfl, rfl⟩ := hq
        refine q_mpi 4 dX9_search_46 hM fl_X9_178 fp_X9_178 (by decide) rfl (by omega) (fun G hM => ?_)
        refine q_aload_n dX9_search_49 rfl rfl ?_
        refine q_iload_n dX9_search_50 rfl ?_
        refine q_iconst (v := nI 0) dX9_search_51 (by decide) ?_
        refine q_iv (As := [_, _]) dX9_search_52 ml_X9_156 mt_X9_loads mi_X9_loads se_X9_loads hM.1 rfl rfl (Nat.le_of_ble_eq_true rfl) (Nat.le_of_ble_eq_true rfl) (Nat.zero_le _) (Nat.zero_le _) (Nat.le_of_ble_eq_true rfl) (q_C.mono (c_X9_loads hM (by omega) (hI.puz p hp) (by omega)) (fun v G sz1 hq => ?_))
        obtain ⟨rfl, rfl, hM⟩ := hq
        refine q_aload_n dX9_search_55 rfl rfl ?_
        refine q_iload_n dX9_search_56 rfl ?_
        refine q_iconst (v := nI 0) dX9_search_57 (by decide) ?_
        have hS9 : Sr I (va_up (va_up (va_up I 2 0) 3 0) 4 (A 1 p * A 2 p)) A (md_cp A 10 0 (fun x => A 8 (100 * p + x)) (A 1 p * A 2 p)) p 0 (fun _ _ => 0) (fun _ => 0) (fun _ => 0) 0 (fun _ _ => 0) 0 := ⟨fun j h1 h2 h3 h4 => (va_up_n _ _ h4).trans ((va_up_n _ _ h3).trans (va_up_n _ _ h2)), rfl, rfl, rfl, fun k hk => md_cp_k A (by omega), fun d hd => absurd hd (Nat.not_lt_zero d), fun i hi => absurd hi (Nat.not_lt_zero i), fun d hd => absurd hd (Nat.not_lt_zero d)⟩
        have hon : pz_on A p (fun x => md_cp A 10 0 (fun x => A 8 (100 * p + x)) (A 1 p * A 2 p) 10 (100 * 0 + x)) (fun x => A 8 (100 * p + x)) := md_ld
        generalize eA : md_cp A 10 0 (fun x => A 8 (100 * p + x)) (A 1 p * A 2 p) = A9 at hM hS9 hon
        generalize eI : va_up (va_up (va_up I 2 0) 3 0) 4 (A 1 p * A 2 p) = I9 at hM hS9
        have hI92 := hS9.2.1
        refine q_iv (As := [_, _]) dX9_search_58 ml_X9_181 mt_X9_opens mi_X9_opens se_X9_opens hM.1 rfl rfl (Nat.le_of_ble_eq_true rfl) (Nat.le_of_ble_eq_true rfl) (Nat.zero_le _) (Nat.zero_le _) (Nat.le_of_ble_eq_true rfl) (q_C.mono (c_X9_opens (d := 0) hM (hz.same hS9.lt) (by omega) (Ps.same hS9.lt (pz_on_ps hon.symm (hI.ps hp))) (by omega)) (fun v G sz1 hq => ?_))
        obtain ⟨rfl, I2, A2, hM, hfr, hq⟩ := hq
        obtain ⟨h', LS', C', X', f', P', epu, hS', ⟨rfl, rfl, hf'⟩ | ⟨rfl, rfl, rfl⟩⟩ := Sr.push hz hS9 hon (hI.ps hp) (fun x hx => ((hI.2.1 p hp).2.2 x hx).1) (fun S1 j1 j2 => pz_no_le) hfr hq
        · refine q_if_eq (tgt := 68) dX9_search_61 (by decide) (fun _ => ?_) (fun h => absurd h (by decide))
          refine q_iconst (v := -1) dX9_search_68 (by decide) ?_
          refine s_istore dX9_search_69 (by decide) rfl ?_
          refine l_X9_search (I := I) hz htr hl5 402 _ LS' C' X' _ P' 0 I2 A2 G (by omega) (by omega) (Nat.zero_le _) (by omega) hM hS' _ _ rfl ?_
          intro v G' I3 A3 hM3 b h3 LS3 C3 X3 f3 P3 t3 e hf3 ht3 hv hS3
          refine ⟨rfl, I3, A3, hM3, _, va_up (va_up (va_up I 2 f3) 3 t3) 4 (A 1 p * A 2 p), va_up A 16 (A3 16), hv, Or.inl ⟨p, tr, li, b, h3, LS3, C3, X3, f3, P3, t3, ⟨hp, rfl, ⟨htr, rfl⟩, hl1, hl5, rfl⟩, ?_, hf3, ht3, rfl, rfl, fun k hk => va_up_n _ _ hk, fun i hi k hk => by rw [va_up_s]; exact hS3.2.2.2.2.2.2.1 i hi k hk⟩, ?_, ?_⟩
          · unfold sr_0; rw [epu]; exact e
          · intro j h1 h6; by_cases h4 : j = 4; subst h4; rw [va_up_s]; exact hS3.2.2.2.1; rw [va_up_n _ _ h4]; by_cases h3 : j = 3; subst h3; rw [va_up_s]; exact hS3.2.2.1; rw [va_up_n _ _ h3]; by_cases h2 : j = 2; subst h2; rw [va_up_s]; exact hS3.2.1; rw [va_up_n _ _ h2]; exact hS3.1 j h1 h2 h3 h4
          · intro k hk; by_cases h16 : k = 16; subst h16; rw [va_up_s]; rw [va_up_n _ _ h16]; exact hS3.2.2.2.2.1 k (by omega)
        · refine q_if_eq (tgt := 68) dX9_search_61 (by decide) (fun h => absurd h (by decide)) (fun _ => ?_)
          refine q_iconst (v := nI 0) dX9_search_64 (by decide) ?_
          refine q_goto (tgt := 69) dX9_search_65 (by decide) ?_
          refine s_istore dX9_search_69 (by decide) rfl ?_
          refine l_X9_search (I := I) hz htr hl5 402 _ LS' C' X' _ P' 0 I2 A2 G (by omega) (by omega) (Nat.zero_le _) (by omega) hM hS' _ _ rfl ?_
          intro v G' I3 A3 hM3 b h3 LS3 C3 X3 f3 P3 t3 e hf3 ht3 hv hS3
          refine ⟨rfl, I3, A3, hM3, _, va_up (va_up (va_up I 2 f3) 3 t3) 4 (A 1 p * A 2 p), va_up A 16 (A3 16), hv, Or.inl ⟨p, tr, li, b, h3, LS3, C3, X3, f3, P3, t3, ⟨hp, rfl, ⟨htr, rfl⟩, hl1, hl5, rfl⟩, ?_, hf3, ht3, rfl, rfl, fun k hk => va_up_n _ _ hk, fun i hi k hk => by rw [va_up_s]; exact hS3.2.2.2.2.2.2.1 i hi k hk⟩, ?_, ?_⟩
          · unfold sr_0; rw [epu]; exact e
          · intro j h1 h6; by_cases h4 : j = 4; subst h4; rw [va_up_s]; exact hS3.2.2.2.1; rw [va_up_n _ _ h4]; by_cases h3 : j = 3; subst h3; rw [va_up_s]; exact hS3.2.2.1; rw [va_up_n _ _ h3]; by_cases h2 : j = 2; subst h2; rw [va_up_s]; exact hS3.2.1; rw [va_up_n _ _ h2]; exact hS3.1 j h1 h2 h3 h4
          · intro k hk; by_cases h16 : k = 16; subst h16; rw [va_up_s]; rw [va_up_n _ _ h16]; exact hS3.2.2.2.2.1 k (by omega)
      · refine q_if_ne (tgt := 30) dX9_search_25 (by decide) (fun h => absurd h (by decide)) (fun _ => ?_)
        refine q_iconst (v := -1) dX9_search_28 (by decide) ?_
        exact q_ireturn dX9_search_29 rfl rfl ⟨rfl, I, A, hM, _, I, A, rfl, Or.inr ⟨fun ⟨p, tr, li, h1, h2, h3, h4⟩ => hV22 ⟨li, h4.1, h4.2.1, h4.2.2⟩, rfl, rfl, rfl⟩, Per.rfl'⟩
    · refine q_if_eq (tgt := 28) dX9_search_16 (by decide) (fun _ => ?_) (fun h => absurd h (by decide))
      refine q_iconst (v := -1) dX9_search_28 (by decide) ?_
      exact q_ireturn dX9_search_29 rfl rfl ⟨rfl, I, A, hM, _, I, A, rfl, Or.inr ⟨fun ⟨p, tr, li, h1, h2, h3, h4⟩ => hV13 ⟨tr, h3.1, h3.2⟩, rfl, rfl, rfl⟩, Per.rfl'⟩
  · refine q_if_eq (tgt := 28) dX9_search_5 (by decide) (fun _ => ?_) (fun h => absurd h (by decide))
    refine q_iconst (v := -1) dX9_search_28 (by decide) ?_
    exact q_ireturn dX9_search_29 rfl rfl ⟨rfl, I, A, hM, _, I, A, rfl, Or.inr ⟨fun ⟨p, tr, li, h1, h2, h3, h4⟩ => hV2 ⟨p, h1, h2⟩, rfl, rfl, rfl⟩, Per.rfl'⟩
