/-- the cell k of a line -/
def ln_cell (w h ln k : Nat) : Nat := if ln < h then ln * w + k else k * w + ln - h
theorem ln_cell_lt {w h ln k : Nat} (hw : w ≤ 10) (hh : h ≤ 10) (hl : ln < w + h) (hk : k < if ln < h then w else h) : ln_cell w h ln k < w * h := by
  unfold ln_cell
  by_cases g : ln < h
  · rw [if_pos g] at hk ⊢
    have : (ln + 1) * w ≤ h * w := Nat.mul_le_mul_right w g
    rw [Nat.mul_comm w h]
    rw [Nat.add_mul] at this
    omega
  · rw [if_neg g] at hk ⊢
    have : (k + 1) * w ≤ h * w := Nat.mul_le_mul_right w hk
    rw [Nat.mul_comm w h]
    rw [Nat.add_mul] at this
    omega
theorem ln_wh {w h : Nat} (hw : w ≤ 10) (hh : h ≤ 10) : w * h ≤ 100 := Nat.mul_le_mul hw hh
def md_pw (f0 g : Nat → Nat) (k : Nat) : Nat → Nat := fun j => if j < k then g j else f0 j
theorem md_pw_0 (f0 g : Nat → Nat) : md_pw f0 g 0 = f0 := by
  funext j
  exact if_neg (by omega)
theorem md_pw_s (f0 g : Nat → Nat) (k : Nat) : va_up (md_pw f0 g k) k (g k) = md_pw f0 g (k + 1) := by
  funext j
  unfold va_up md_pw
  by_cases h : j = k
  · subst h; rw [if_pos rfl, if_pos (by omega)]
  · rw [if_neg h]
    by_cases h2 : j < k
    · rw [if_pos h2, if_pos (by omega)]
    · rw [if_neg h2, if_neg (by omega)]
theorem md_pw_in {f0 g : Nat → Nat} {k j : Nat} (h : j < k) : md_pw f0 g k j = g j := if_pos h
theorem md_pw_out {f0 g : Nat → Nat} {k j : Nat} (h : k ≤ j) : md_pw f0 g k j = f0 j := if_neg (by omega)
theorem md_st_3 (A : md_A) (f g h : Nat → Nat) (i x y z : Nat) : md_st (md_st (md_st (va_up (va_up (va_up A 11 f) 12 g) 13 h) 11 i x) 12 i y) 13 i z = va_up (va_up (va_up A 11 (va_up f i x)) 12 (va_up g i y)) 13 (va_up h i z) := by
  funext l j
  rw [md_st_at, md_st_at, md_st_at]
  unfold va_up
  by_cases h1 : l = 13
  · subst h1; simp
  · by_cases h2 : l = 12
    · subst h2; simp
    · by_cases h3 : l = 11
      · subst h3; simp
      · simp [h1, h2, h3]
/-- the state behind the first loop of lists -/
def md_li (A : md_A) (w h ln o k : Nat) : md_A := va_up (va_up (va_up A 11 (md_pw (A 11) (ln_cell w h ln) k)) 12 (md_pw (A 12) (fun j => A 10 (o + ln_cell w h ln j)) k)) 13 (md_pw (A 13) (fun _ => 0) k)
theorem md_li_0 (A : md_A) (w h ln o : Nat) : md_li A w h ln o 0 = A := by
  unfold md_li
  rw [md_pw_0, md_pw_0, md_pw_0, md_up_self]
  rw [show A 12 = va_up A 11 (A 11) 12 from rfl]
  funext l j
  unfold va_up
  by_cases h1 : l = 13
  · subst h1; rfl
  · by_cases h2 : l = 12
    · subst h2; rfl
    · simp [h1, h2]
theorem md_li_s (A : md_A) (w h ln o k : Nat) : md_st (md_st (md_st (md_li A w h ln o k) 11 k (ln_cell w h ln k)) 12 k (A 10 (o + ln_cell w h ln k))) 13 k 0 = md_li A w h ln o (k + 1) := by
  unfold md_li
  rw [md_st_3, md_pw_s]
  have h1 := md_pw_s (A 12) (fun j => A 10 (o + ln_cell w h ln j)) k
  have h2 := md_pw_s (A 13) (fun _ => 0) k
  rw [h1, h2]
theorem ln_e_s (l pl : Nat → Nat) (s : Nat) : ln_e l pl (s + 1) = pl s + l s := by simp [ln_e]
theorem s_dec (k : Nat) : nI k + Int32.ofInt (-1) = nI k - nI 1 := by
  rw [Int32.sub_eq_add_neg]
  rfl

set_option maxHeartbeats 4000000 in
set_option maxRecDepth 100000 in
theorem l_X9_lists1 {T : q_T} {m : Nat} {G0 : q_G} {I : md_I} {A : md_A} {sz : Nat} {E : q_E} {p ln o w h : Nat} (hp : p < 30) (hw : A 1 p = w) (hh : A 2 p = h) (hln : ln ≤ 20) (ho : o + 100 ≤ 10400) (hL : I 1 ≤ 10) (hcell : ∀ k, k < I 1 → ln_cell w h ln k < 100) (hx : ∀ G, Mod T m G0 I (md_li A w h ln o (I 1)) G → q_R T mX9_lists 2 46 72 [some (.ref m), some (.int (nI p)), some (.int (nI ln)), some (.int (nI o)), some (.int (nI (I 1))), none, none, none, none] [] G sz 0 0 E) : ∀ (c : Nat) (G : q_G), c ≤ I 1 → Mod T m G0 I (md_li A w h ln o c) G → q_R T mX9_lists 2 46 13 [some (.ref m), some (.int (nI p)), some (.int (nI ln)), some (.int (nI o)), some (.int (nI c)), none, none, none, none] [] G sz 0 0 E := by
  refine q_indN (fun c a => I 1 - c) _ (fun c G ih => ?_)
  intro hc hM
  refine q_iload dX9_lists_13 rfl ?_
  refine q_aload_n dX9_lists_15 rfl rfl ?_
  refine q_mgi 1 dX9_lists_16 hM fl_X9_134 (by decide) (fun b16 => ?_)
  refine n_icmp_ge (tgt := 72) dX9_lists_19 (by decide) (by omega) (by omega) (fun c19 => ?_) (fun c19 => ?_)
  · obtain rfl : c = I 1 := by omega
    exact hx G hM
  · refine q_aload_n dX9_lists_22 rfl rfl ?_
    refine q_mga 11 11 dX9_lists_23 hM fl_X9_41 rfl ?_
    refine q_iload dX9_lists_26 rfl ?_
    refine q_aload_n dX9_lists_28 rfl rfl ?_
    refine q_iload_n dX9_lists_29 rfl ?_
    refine q_iload_n dX9_lists_30 rfl ?_
    refine q_iload dX9_lists_31 rfl ?_
    refine q_iv (As := [_, _, _]) dX9_lists_33 ml_X9_140 mt_X9_cellOf mi_X9_cellOf se_X9_cellOf hM.1 rfl rfl (Nat.le_of_ble_eq_true rfl) (Nat.le_of_ble_eq_true rfl) (Nat.zero_le _) (Nat.zero_le _) (Nat.le_of_ble_eq_true rfl) (q_C.mono (c_X9_cellOf (w := w) (h := h) hM hp hw hh (by omega)) (fun v G1 sz1 hq => ?_))
    obtain ⟨rfl, rfl, rfl⟩ := hq
    have hce := hcell c c19
    refine q_mst (k := 11) dX9_lists_36 hM (by decide) rfl (show _ < (10 : Nat) by omega) rfl (show ln_cell w h ln c ≤ 100000 by omega) (fun G hM => ?_)
    refine q_aload_n dX9_lists_37 rfl rfl ?_
    refine q_mga 12 12 dX9_lists_38 hM fl_X9_44 rfl ?_
    refine q_iload dX9_lists_41 rfl ?_
    refine q_aload_n dX9_lists_43 rfl rfl ?_
    refine q_mga 10 10 dX9_lists_44 hM fl_X9_38 rfl ?_
    refine q_iload_n dX9_lists_47 rfl ?_
    refine q_aload_n dX9_lists_48 rfl rfl ?_
    refine q_mga 11 11 dX9_lists_49 hM fl_X9_41 rfl ?_
    refine q_iload dX9_lists_52 rfl ?_
    refine q_mld (k := 11) (v := nI (ln_cell w h ln c)) dX9_lists_54 hM (by decide) rfl (show _ < (10 : Nat) by omega) (congrArg nI (md_st_s _ _ _ _)) (fun b54 => ?_)
    refine q_iadd dX9_lists_55 (nI_add _ _) ?_
    refine q_mld (k := 10) (v := nI (A 10 (o + ln_cell w h ln c))) dX9_lists_56 hM (by decide) rfl (show _ < (10400 : Nat) by omega) rfl (fun b56 => ?_)
    refine q_mst (k := 12) dX9_lists_57 hM (by decide) rfl (show _ < (10 : Nat) by omega) rfl (show A 10 (o + ln_cell w h ln c) ≤ 100000 from b56) (fun G hM => ?_)
    refine q_aload_n dX9_lists_58 rfl rfl ?_
    refine q_mga 13 13 dX9_lists_59 hM fl_X9_47 rfl ?_
    refine q_iload dX9_lists_62 rfl ?_
    refine q_iconst (v := nI 0) dX9_lists_64 (by decide) ?_
    refine q_mst (k := 13) dX9_lists_65 hM (by decide) rfl (show _ < (10 : Nat) by omega) rfl (by omega) (fun G hM => ?_)
    refine s_iinc dX9_lists_66 rfl (s_inc1 _) (by decide) rfl ?_
    refine q_goto (tgt := 13) dX9_lists_69 (by decide) ?_
    exact ih (c + 1) G (by omega) (by omega) (by rw [← md_li_s]; exact hM)

set_option maxHeartbeats 4000000 in
set_option maxRecDepth 100000 in
theorem l_X9_lists2 {T : q_T} {m : Nat} {G0 : q_G} {I : md_I} {A : md_A} {sz : Nat} {E : q_E} {p ln o u n many : Nat} {f : Nat → Nat} (hL : I 1 ≤ 10) (h13 : ∀ k, k < I 1 → f k < 16) (h14 : ∀ k, k < I 1 → A 14 k ≤ 3) (hx : ∀ (G : q_G) (x8 : Option Value), Mod T m G0 I (va_up A 13 (md_pw f (fun k => f k ||| 1 <<< A 14 k) (I 1))) G → q_R T mX9_lists 2 46 163 [some (.ref m), some (.int (nI p)), some (.int (nI ln)), some (.int (nI o)), some (.int (nI u)), some (.int (nI n)), some (.int (nI many)), some (.int (nI 1)), x8] [] G sz 0 0 E) : ∀ (k : Nat) (G : q_G), k ≤ I 1 → Mod T m G0 I (va_up A 13 (md_pw f (fun k => f k ||| 1 <<< A 14 k) k)) G → q_R T mX9_lists 2 46 129 [some (.ref m), some (.int (nI p)), some (.int (nI ln)), some (.int (nI o)), some (.int (nI u)), some (.int (nI n)), some (.int (nI many)), some (.int (nI 1)), some (.int (nI k))] [] G sz 0 0 E := by
  refine q_indN (fun k a => I 1 - k) _ (fun k G ih => ?_)
  intro hk hM
  refine q_iload dX9_lists_129 rfl ?_
  refine q_aload_n dX9_lists_131 rfl rfl ?_
  refine q_mgi 1 dX9_lists_132 hM fl_X9_134 (by decide) (fun b132 => ?_)
  refine n_icmp_ge (tgt := 163) dX9_lists_135 (by decide) (by omega) (by omega) (fun c135 => ?_) (fun c135 => ?_)
  · obtain rfl : k = I 1 := by omega
    exact hx G _ hM
  · refine q_aload_n dX9_lists_138 rfl rfl ?_
    refine q_mga 13 13 dX9_lists_139 hM fl_X9_47 rfl ?_
    refine q_iload dX9_lists_142 rfl ?_
    refine q_dup2 dX9_lists_144 rfl rfl ?_
    refine q_mld (k := 13) (v := nI (f k)) dX9_lists_145 hM (by decide) rfl (show _ < (10 : Nat) by omega) (congrArg nI (md_pw_out (f0 := f) (g := fun k => f k ||| 1 <<< A 14 k) (k := k) (j := k) (Nat.le_refl _))) (fun b145 => ?_)
    refine q_iconst (v := nI 1) dX9_lists_146 (by decide) ?_
    refine q_aload_n dX9_lists_147 rfl rfl ?_
    refine q_mga 14 14 dX9_lists_148 hM fl_X9_50 rfl ?_
    refine q_iload dX9_lists_151 rfl ?_
    refine q_mld (k := 14) (v := nI (A 14 k)) dX9_lists_153 hM (by decide) rfl (show _ < (10 : Nat) by omega) rfl (fun b153 => ?_)
    refine q_ishl dX9_lists_154 (n_shl (by have := h14 k c135; omega) rfl) ?_
    refine q_ior dX9_lists_155 (n_or _ _) ?_
    refine q_mst (k := 13) dX9_lists_156 hM (by decide) rfl (show _ < (10 : Nat) by omega) rfl (by have h9 := ln_bit16 (h13 k c135) (h14 k c135); omega) (fun G hM => ?_)
    refine s_iinc dX9_lists_157 rfl (s_inc1 _) (by decide) rfl ?_
    refine q_goto (tgt := 129) dX9_lists_160 (by decide) ?_
    exact ih (k + 1) G (by omega) (by omega) (by have h8 := md_pw_s f (fun k => f k ||| 1 <<< A 14 k) k; rw [md_st_up, h8] at hM; exact hM)

theorem c_X9_fits' {T : q_T} {m : Nat} {G0 G : q_G} {I : md_I} {A : md_A} {sz : Nat} (hM : Mod T m G0 I A G) {u n : Nat} {c l pl : Nat → Nat} (hu : u + 10 ≤ 6000) (hc : ∀ i, A 6 (u + i) = c i) (hl : ∀ i, A 7 (u + i) = l i) (hpl : ∀ i, A 15 i = pl i) (hn : n ≤ 10) (hL : I 1 ≤ 10) (hv : ∀ i, i < n → pl i + l i ≤ I 1) (hcc : ∀ i, i < n → c i ≤ 3) (hmay : ∀ k, k < I 1 → A 12 k < 16) : q_C T mX9_fits 0 0 0 0 [.ref m, .int (nI u), .int (nI n)] G sz (fun v G' sz' => (ln_fits (A 12) (I 1) (ln_fil c l pl n) = true ∧ v = some (.int (nI 1)) ∨ ln_fits (A 12) (I 1) (ln_fil c l pl n) = false ∧ v = some (.int (nI 0))) ∧ sz = sz' ∧ Mod T m G0 I (va_up A 14 (ln_F c l pl (I 1) (A 14) n)) G') := by
  refine q_C.mono (c_X9_fits hM hu hc hl hpl hn hL hv hcc hmay) (fun v G' sz' h => ?_)
  obtain ⟨h1, h2, h3⟩ := h
  refine ⟨?_, h1, h3⟩
  cases h9 : ln_fits (A 12) (I 1) (ln_fil c l pl n)
  · rw [h9] at h2; exact Or.inr ⟨rfl, h2⟩
  · rw [h9] at h2; exact Or.inl ⟨rfl, h2⟩
theorem c_X9_lays' {T : q_T} {m : Nat} {G0 G : q_G} {I : md_I} {A : md_A} {sz : Nat} (hM : Mod T m G0 I A G) {u f n : Nat} {c l pl : Nat → Nat} (hu : u + 10 ≤ 6000) (hc : ∀ i, A 6 (u + i) = c i) (hl : ∀ i, A 7 (u + i) = l i) (hpl : ∀ i, A 15 i = pl i) (hf : f ≤ n) (hn : n ≤ 10) (hb : ∀ k, k ≤ n - f → ln_e l pl f + ln_S c l k f ≤ 1000) : q_C T mX9_lays 1 22 0 0 [.ref m, .int (nI u), .int (nI f), .int (nI n)] G sz (fun v G' sz' => (ln_e l pl f + ln_S c l (n - f) f ≤ I 1 ∧ v = some (.int (nI 1)) ∨ I 1 < ln_e l pl f + ln_S c l (n - f) f ∧ v = some (.int (nI 0))) ∧ sz = sz' ∧ Mod T m G0 I (va_up A 15 (ln_lay c l pl f (n - f))) G') := by
  refine q_C.mono (c_X9_lays hM hu hc hl hpl hf hn hb) (fun v G' sz' h => ?_)
  obtain ⟨h1, h2, h3⟩ := h
  refine ⟨?_, h1, h3⟩
  by_cases h9 : ln_e l pl f + ln_S c l (n - f) f ≤ I 1
  · rw [if_pos h9] at h2; exact Or.inl ⟨h9, h2⟩
  · rw [if_neg h9] at h2; exact Or.inr ⟨by omega, h2⟩
theorem ln_cnt_to {c l : Nat → Nat} {n L : Nat} {may : Nat → Nat} {many : Nat} {got got' : Nat → Nat} {rm rm' : ((Nat → Nat) → Bool) → Nat} (h : ln_cnt c l n L may many got rm) (hg : ∀ k, k < L → got k = got' k) (h1 : rm (ln_P c l n L may) = rm' (ln_P c l n L may)) (h2 : ∀ k v, rm (ln_Pk c l n L may k v) = rm' (ln_Pk c l n L may k v)) : ln_cnt c l n L may many got' rm' := by
  refine ⟨by rw [← h1]; exact h.1, fun k hk => ?_⟩
  rw [← hg k hk]
  refine ⟨(h.2 k hk).1, fun v => ?_⟩
  rw [← h2 k v]
  exact (h.2 k hk).2 v
theorem ln_ok_next {c l : Nat → Nat} {n L r : Nat} {pl q : Nat → Nat} (h : ln_ok c l n L pl) (hq : ∀ i, i < r → q i = pl i) (hq1 : q r = pl r + 1) (hq2 : ∀ i, r < i → i < n → q i = ln_fst c l q i) (he : ln_e l q n ≤ L) : ln_ok c l n L q := by
  refine ⟨fun i hi => ?_, he⟩
  rcases Nat.lt_trichotomy i r with h1 | h1 | h1
  · rw [ln_fst_congr (pl' := pl) (fun j hj => hq j (by omega)), hq i h1]
    exact h.1 i hi
  · subst h1
    rw [ln_fst_congr (pl' := pl) (fun j hj => hq j (by omega)), hq1]
    have := h.1 i hi
    omega
  · exact Nat.le_of_eq (hq2 i h1 hi).symm

set_option maxHeartbeats 4000000 in
set_option maxRecDepth 100000 in
/-- the next placement, or none -/
theorem l_X9_lists3 {T : q_T} {m : Nat} {G0 : q_G} {I : md_I} {A : md_A} {sz : Nat} {E : q_E} {p ln o u n many : Nat} {c l pl : Nat → Nat} (hu : u + 10 ≤ 6000) (hc : ∀ i, A 6 (u + i) = c i) (hl : ∀ i, A 7 (u + i) = l i) (hn : n ≤ 10) (hL : I 1 ≤ 10) (hS : ln_S c l n 0 ≤ I 1) (hok : ln_ok c l n (I 1) pl) (hnext : ∀ (G : q_G) (A4 : md_A) (x8 : Option Value), Mod T m G0 I A4 G → (∀ k, k ≠ 15 → A4 k = A k) → ln_ok c l n (I 1) (A4 15) → (∀ P : (Nat → Nat) → Bool, (∀ pl pl' : Nat → Nat, (∀ i, i < n → pl i = pl' i) → P pl = P pl') → (∀ pl, P pl = true → ln_e l pl n ≤ I 1) → ln_T c l (I 1) P n 0 pl = ln_Rm c l (I 1) P n 0 (A4 15)) → q_R T mX9_lists 2 46 107 [some (.ref m), some (.int (nI p)), some (.int (nI ln)), some (.int (nI o)), some (.int (nI u)), some (.int (nI n)), some (.int (nI many)), some (.int (nI 1)), x8] [] G sz 0 0 E) (hstop : ∀ (G : q_G) (A4 : md_A) (x8 : Option Value), Mod T m G0 I A4 G → (∀ k, k ≠ 15 → A4 k = A k) → (∀ i, 0 ≤ i → i < n → I 1 < pl i + 1 + l i + ln_S c l (n - 1 - i) (i + 1)) → q_R T mX9_lists 2 46 107 [some (.ref m), some (.int (nI p)), some (.int (nI ln)), some (.int (nI o)), some (.int (nI u)), some (.int (nI n)), some (.int (nI many)), some (.int (nI 0)), x8] [] G sz 0 0 E) : ∀ s : Nat, s ≤ n → (∀ i, s ≤ i → i < n → I 1 < pl i + 1 + l i + ln_S c l (n - 1 - i) (i + 1)) → ∀ (G : q_G) (A5 : md_A), Mod T m G0 I A5 G → (∀ k, k ≠ 15 → A5 k = A k) → (∀ i, i < s → A5 15 i = pl i) → q_R T mX9_lists 2 46 172 [some (.ref m), some (.int (nI p)), some (.int (nI ln)), some (.int (nI o)), some (.int (nI u)), some (.int (nI n)), some (.int (nI many)), some (.int (nI 0)), some (.int (nI s - nI 1))] [] G sz 0 0 E := by
  intro s
  induction s with
  | zero =>
    intro _ hno G A5 hM hA hpl
    refine q_iload dX9_lists_172 rfl ?_
    refine q_if_lt (tgt := 247) dX9_lists_174 (by decide) (fun _ => ?_) (fun h => absurd h (by decide))
    refine q_goto (tgt := 107) dX9_lists_247 (by decide) ?_
    exact hstop _ _ _ hM hA hno
  | succ s ih =>
    intro hs hno G A5 hM hA hpl
    rw [show nI (s + 1) - nI 1 = nI s from pk_sub (by omega)]
    have hin := ln_ok_in hok (i := s) (by omega)
    refine q_iload dX9_lists_172 rfl ?_
    refine n_if_lt (tgt := 247) dX9_lists_174 (by decide) (by omega) ?_
    refine q_iload dX9_lists_177 rfl ?_
    refine q_if_ne (tgt := 247) dX9_lists_179 (by decide) (fun h => absurd h (by decide)) (fun _ => ?_)
    refine q_aload_n dX9_lists_182 rfl rfl ?_
    refine q_mga 15 15 dX9_lists_183 hM fl_X9_53 rfl ?_
    refine q_iload dX9_lists_186 rfl ?_
    refine q_dup2 dX9_lists_188 rfl rfl ?_
    refine q_mld (k := 15) (v := nI (pl s)) dX9_lists_189 hM (by decide) rfl (show _ < (11 : Nat) by omega) (congrArg nI (hpl s (by omega))) (fun b189 => ?_)
    refine q_iconst (v := nI 1) dX9_lists_190 (by decide) ?_
    refine q_iadd dX9_lists_191 (nI_add _ _) ?_
    refine q_mst (k := 15) dX9_lists_192 hM (by decide) rfl (show _ < (11 : Nat) by omega) rfl (by omega) (fun G hM => ?_)
    refine q_aload_n dX9_lists_193 rfl rfl ?_
    refine q_iload dX9_lists_194 rfl ?_
    refine q_iload dX9_lists_196 rfl ?_
    refine q_iconst (v := nI 1) dX9_lists_198 (by decide) ?_
    refine q_iadd dX9_lists_199 (nI_add _ _) ?_
    refine q_iload dX9_lists_200 rfl ?_
    refine q_iv (As := [_, _, _]) dX9_lists_202 ml_X9_144 mt_X9_lays mi_X9_lays se_X9_lays hM.1 rfl rfl (Nat.le_of_ble_eq_true rfl) (Nat.le_of_ble_eq_true rfl) (Nat.zero_le _) (Nat.zero_le _) (Nat.le_of_ble_eq_true rfl) (q_C.mono (c_X9_lays' (c := c) (l := l) hM hu (fun i => (congrFun (hA 6 (by decide)) _).trans (hc i)) (fun i => (congrFun (hA 7 (by decide)) _).trans (hl i)) (fun _ => rfl) (by omega) hn (fun k hk => by have := ln_S_le (c := c) (l := l) (n := n) (k := k) (r := s + 1) (by omega); rw [ln_e_s, md_st_s]; omega)) (fun v G1 sz1 hq => ?_))
    obtain ⟨⟨hg, rfl⟩ | ⟨hg, rfl⟩, rfl, hM⟩ := hq
    · rw [ln_e_s, md_st_s] at hg
      refine s_istore dX9_lists_205 (by decide) rfl ?_
      refine q_iload dX9_lists_207 rfl ?_
      refine q_if_ne (tgt := 223) dX9_lists_209 (by decide) (fun _ => ?_) (fun h => absurd h (by decide))
      refine q_iload dX9_lists_223 rfl ?_
      refine q_if_ne (tgt := 241) dX9_lists_225 (by decide) (fun _ => ?_) (fun h => absurd h (by decide))
      refine s_iinc dX9_lists_241 rfl (s_dec _) (by decide) rfl ?_
      refine q_goto (tgt := 172) dX9_lists_244 (by decide) ?_
      refine q_iload dX9_lists_172 rfl ?_
      refine q_if_lt (tgt := 247) dX9_lists_174 (by decide) (fun c174 => ?_) (fun c174 => ?_)
      · refine q_goto (tgt := 107) dX9_lists_247 (by decide) ?_
        refine hnext _ _ _ hM (fun k hk => (show va_up _ 15 _ k = _ by unfold va_up; rw [if_neg hk]).trans ((md_st_k _ hk).trans (hA k hk))) (ln_ok_next hok (fun i hi => (ln_lay_lt _ _ _ _ _ _ (by omega)).trans ((md_st_n _ (by omega)).trans (hpl i (by omega)))) ((ln_lay_lt _ _ _ _ _ _ (by omega)).trans (md_st_s _ _ _ _)) (fun i h1 h2 => ln_lay_in _ _ _ _ _ _ (by omega) (by omega)) (by have h9 := ln_lay_e c l (md_st A5 15 s (pl s + 1) 15) (s + 1) (n - (s + 1)); rw [show s + 1 + (n - (s + 1)) = n by omega, ln_e_s, md_st_s] at h9; exact Nat.le_trans (Nat.le_of_eq h9) hg)) (fun P hP hE => ln_next hP hE (r := s) (by omega) (fun i hi => (ln_lay_lt _ _ _ _ _ _ (by omega)).trans ((md_st_n _ (by omega)).trans (hpl i (by omega)))) ((ln_lay_lt _ _ _ _ _ _ (by omega)).trans (md_st_s _ _ _ _)) (fun i h1 h2 => ln_lay_in _ _ _ _ _ _ (by omega) (by omega)) (by omega) (fun i h1 h2 => hno i (by omega) h2) s n 0 (by omega) (by omega))
      · refine q_iload dX9_lists_177 rfl ?_
        refine q_if_ne (tgt := 247) dX9_lists_179 (by decide) (fun _ => ?_) (fun h => absurd h (by decide))
        refine q_goto (tgt := 107) dX9_lists_247 (by decide) ?_
        refine hnext _ _ _ hM (fun k hk => (show va_up _ 15 _ k = _ by unfold va_up; rw [if_neg hk]).trans ((md_st_k _ hk).trans (hA k hk))) (ln_ok_next hok (fun i hi => (ln_lay_lt _ _ _ _ _ _ (by omega)).trans ((md_st_n _ (by omega)).trans (hpl i (by omega)))) ((ln_lay_lt _ _ _ _ _ _ (by omega)).trans (md_st_s _ _ _ _)) (fun i h1 h2 => ln_lay_in _ _ _ _ _ _ (by omega) (by omega)) (by have h9 := ln_lay_e c l (md_st A5 15 s (pl s + 1) 15) (s + 1) (n - (s + 1)); rw [show s + 1 + (n - (s + 1)) = n by omega, ln_e_s, md_st_s] at h9; exact Nat.le_trans (Nat.le_of_eq h9) hg)) (fun P hP hE => ln_next hP hE (r := s) (by omega) (fun i hi => (ln_lay_lt _ _ _ _ _ _ (by omega)).trans ((md_st_n _ (by omega)).trans (hpl i (by omega)))) ((ln_lay_lt _ _ _ _ _ _ (by omega)).trans (md_st_s _ _ _ _)) (fun i h1 h2 => ln_lay_in _ _ _ _ _ _ (by omega) (by omega)) (by omega) (fun i h1 h2 => hno i (by omega) h2) s n 0 (by omega) (by omega))
    · rw [ln_e_s, md_st_s] at hg
      refine s_istore dX9_lists_205 (by decide) rfl ?_
      refine q_iload dX9_lists_207 rfl ?_
      refine q_if_ne (tgt := 223) dX9_lists_209 (by decide) (fun h => absurd h (by decide)) (fun _ => ?_)
      have hno2 : ∀ i, s ≤ i → i < n → I 1 < pl i + 1 + l i + ln_S c l (n - 1 - i) (i + 1) := fun i h1 h2 => by
        rcases Nat.eq_or_lt_of_le h1 with h3 | h3
        · rw [← h3, show n - 1 - s = n - (s + 1) by omega]; exact hg
        · exact hno i (by omega) h2
      refine q_aload_n dX9_lists_212 rfl rfl ?_
      refine q_mga 15 15 dX9_lists_213 hM fl_X9_53 rfl ?_
      refine q_iload dX9_lists_216 rfl ?_
      refine q_dup2 dX9_lists_218 rfl rfl ?_
      refine q_mld (k := 15) (v := nI (pl s + 1)) dX9_lists_219 hM (by decide) rfl (show _ < (11 : Nat) by omega) (congrArg nI ((ln_lay_lt _ _ _ _ _ _ (by omega)).trans (md_st_s _ _ _ _))) (fun b219 => ?_)
      refine q_iconst (v := nI 1) dX9_lists_220 (by decide) ?_
      refine q_isub dX9_lists_221 (pk_sub (by omega)) ?_
      refine q_mst (k := 15) dX9_lists_222 hM (by decide) rfl (show _ < (11 : Nat) by omega) rfl (by omega) (fun G hM => ?_)
      refine q_iload dX9_lists_223 rfl ?_
      refine q_if_ne (tgt := 241) dX9_lists_225 (by decide) (fun h => absurd h (by decide)) (fun _ => ?_)
      refine q_aload_n dX9_lists_228 rfl rfl ?_
      refine q_iload dX9_lists_229 rfl ?_
      refine q_iload dX9_lists_231 rfl ?_
      refine q_iconst (v := nI 1) dX9_lists_233 (by decide) ?_
      refine q_iadd dX9_lists_234 (nI_add _ _) ?_
      refine q_iload dX9_lists_235 rfl ?_
      refine q_iv (As := [_, _, _]) dX9_lists_237 ml_X9_144 mt_X9_lays mi_X9_lays se_X9_lays hM.1 rfl rfl (Nat.le_of_ble_eq_true rfl) (Nat.le_of_ble_eq_true rfl) (Nat.zero_le _) (Nat.zero_le _) (Nat.le_of_ble_eq_true rfl) (q_C.mono (c_X9_lays' (c := c) (l := l) hM hu (fun i => (congrFun (hA 6 (by decide)) _).trans (hc i)) (fun i => (congrFun (hA 7 (by decide)) _).trans (hl i)) (fun _ => rfl) (by omega) hn (fun k hk => by have := ln_S_le (c := c) (l := l) (n := n) (k := k) (r := s + 1) (by omega); rw [ln_e_s, md_st_s]; omega)) (fun v G1 sz1 hq => ?_))
      obtain ⟨hg2, rfl, hM⟩ := hq
      obtain ⟨z, rfl⟩ : ∃ z, v = some (.int z) := by rcases hg2 with ⟨-, h⟩ | ⟨-, h⟩ <;> exact ⟨_, h⟩
      refine q_pop dX9_lists_240 rfl ?_
      refine s_iinc dX9_lists_241 rfl (s_dec _) (by decide) rfl ?_
      refine q_goto (tgt := 172) dX9_lists_244 (by decide) ?_
      exact ih (by omega) hno2 _ _ hM (fun k hk => (show va_up _ 15 _ k = _ by unfold va_up; rw [if_neg hk]).trans ((md_st_k _ hk).trans ((show va_up _ 15 _ k = _ by unfold va_up; rw [if_neg hk]).trans ((md_st_k _ hk).trans (hA k hk))))) (fun i hi => (ln_lay_lt _ _ _ _ _ _ (by omega)).trans ((md_st_n _ (by omega)).trans ((ln_lay_lt _ _ _ _ _ _ (by omega)).trans ((md_st_n _ (by omega)).trans (hpl i (by omega))))))
