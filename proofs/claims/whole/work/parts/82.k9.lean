/-! THE CLASS: a puzzle is made -/
def LinN (T : q_T) (G : q_G) (u w h ln : Nat) : Prop := ∀ c l, Lin T G (u + 2 + 4 * ln) (li_fi w h ln) (li_sr w h ln) (if ln < h then w else h) (if ln < h then h else 0) c l 0
theorem LinN.fr {T : q_T} {G G' : q_G} {u w h ln : Nat} (H : LinN T G u w h ln) (hF : ∀ b, u + 2 + 4 * ln ≤ b → b < u + 2 + 4 * ln + 4 → G' b = G b) : LinN T G' u w h ln := fun c l => (H c l).fr hF
theorem LinN.row {T : q_T} {G : q_G} {u w h ln : Nat} (hl : ln < h) (H : ∀ c l, Lin T G (u + 2 + 4 * ln) (ln * w) 1 w h c l 0) : LinN T G u w h ln := by
  intro c l
  unfold li_fi li_sr
  rw [if_pos hl, if_pos hl, if_pos hl, if_pos hl]
  exact H c l
theorem LinN.col {T : q_T} {G : q_G} {u w h x : Nat} (H : ∀ c l, Lin T G (u + 2 + 4 * (h + x)) x w h 0 c l 0) : LinN T G u w h (h + x) := by
  intro c l
  unfold li_fi li_sr
  rw [if_neg (by omega), if_neg (by omega), if_neg (by omega), if_neg (by omega), show h + x - h = x by omega]
  exact H c l
/-- a new puzzle at u -/
def PuzN (T : q_T) (G : q_G) (u w h c : Nat) : Prop := G u = some (q_ob 5 (pu_ob u w h c (u + 2 + 4 * (w + h)) 0)) ∧ (∃ f : Nat → Option Nat, G (u + 1) = some (q_ra T 6 (w + h) f) ∧ ∀ k, k < w + h → f k = some (u + 2 + 4 * k)) ∧ (∀ ln, ln < w + h → LinN T G u w h ln) ∧ ∃ F : Nat → Nat, G (u + 2 + 4 * (w + h)) = some (q_ia T (w * h) (fun i => nI (F i))) ∧ ∀ x, x < w * h → F x = 1 <<< (c + 1) - 1
def Ini (T : q_T) (G0 : q_G) (u w h c : Nat) (G : q_G) (k : Nat) : Prop := G u = some (q_ob 5 [.int (nI w), .int (nI h), .int (nI c), .int (nI (w * h)), .ref (u + 1), .null, .int 0]) ∧ (∃ f : Nat → Option Nat, G (u + 1) = some (q_ra T 6 (h + w) f) ∧ ∀ j, j < k → f j = some (u + 2 + 4 * j)) ∧ (∀ ln, ln < k → LinN T G u w h ln) ∧ ∀ b, b < u → G b = G0 b

set_option maxHeartbeats 4000000 in
set_option maxRecDepth 100000 in
theorem l_rows {T : q_T} {G0 : q_G} {u w h c : Nat} {E : q_E} (hw : 1 ≤ w ∧ w ≤ 10) (hh : 1 ≤ h ∧ h ≤ 10) (hx : ∀ G, Ini T G0 u w h c G (h) → q_R T mX4_init 4 87 72 [some (.ref u), some (.int (nI w)), some (.int (nI h)), some (.int (nI c)), some (.int (nI h))] [] G (u + 2 + 4 * (h)) (81 - 4 * (h)) (1080 - 49 * (h)) E) : ∀ (mZ : Nat) (x : Nat) (G : q_G), mZ = h - x → (x ≤ h) → (Ini T G0 u w h c G (x)) → q_R T mX4_init 4 87 39 [some (.ref u), some (.int (nI w)), some (.int (nI h)), some (.int (nI c)), some (.int (nI x))] [] G (u + 2 + 4 * (x)) (81 - 4 * (x)) (1080 - 49 * (x)) E := by
  intro mZ
  induction mZ using Nat.strongRecOn with | ind mZ ih => ?_
  intro x G hm hxb hI
  obtain ⟨hu, ⟨f, hls, hf⟩, hLs, hF⟩ := hI
  refine q_iload dX4_init_39 rfl ?_
  refine q_iload_n dX4_init_41 rfl ?_
  refine n_icmp_ge (tgt := 72) dX4_init_42 (by decide) (by omega) (by omega) (fun c42 => ?_) (fun c42 => ?_)
  · obtain rfl : x = h := by omega
    exact hx G ⟨hu, ⟨f, hls, hf⟩, hLs, hF⟩
  · refine q_aload_n dX4_init_45 rfl rfl ?_
    refine q_get dX4_init_46 fl_X4_26 hu rfl ?_
    refine q_iload dX4_init_49 rfl ?_
    refine w_new dX4_init_51 nw_X4_24 (by omega) (by omega) (fun G hnl hN => ?_)
    have hu := (hN _ (by omega)).trans hu
    have hls := (hN _ (by omega)).trans hls
    have hLs : ∀ ln, ln < x → LinN T G u w h ln := fun ln hl => (hLs ln hl).fr (fun b b1 b2 => hN b (by omega))
    have hF : ∀ b, b < u → G b = G0 b := fun b hb => (hN b (by omega)).trans (hF b hb)
    refine q_dup dX4_init_54 rfl ?_
    refine q_iload dX4_init_55 rfl ?_
    refine q_iload_n dX4_init_57 rfl ?_
    refine q_imul dX4_init_58 (pk_mul _ _) ?_
    refine q_iconst (v := nI 1) dX4_init_59 (by decide) ?_
    refine q_iload_n dX4_init_60 rfl ?_
    refine q_iload_n dX4_init_61 rfl ?_
    refine q_ii (As := [_, _, _, _]) dX4_init_62 ml_X4_30 mt_X3_init rfl mi_X3_init rfl rfl (Nat.le_of_ble_eq_true rfl) (Nat.le_of_ble_eq_true rfl) (by omega) (by omega) (Nat.le_of_ble_eq_true rfl) (q_C.mono (c_X3_init hnl (by omega)) (fun v G sz1 hq => ?_))
    obtain ⟨rfl, rfl, hN, hLn⟩ := hq
    have hu := (hN _ (by omega)).trans hu
    have hls := (hN _ (by omega)).trans hls
    have hLs : ∀ ln, ln < x → LinN T G u w h ln := fun ln hl => (hLs ln hl).fr (fun b b1 b2 => hN b (by omega))
    have hF : ∀ b, b < u → G b = G0 b := fun b hb => (hN b (by omega)).trans (hF b hb)
    obtain ⟨g0, j0, e0, C0, L0, P0, hlo, -⟩ := id (hLn (fun _ => 0) (fun _ => 0))
    refine w_aas (t := 6) (k := x) dX4_init_65 hls rfl hlo rfl rfl (by omega) (by omega) (fun G hls hN => ?_)
    have hu := (hN _ (by omega)).trans hu
    have hLs : ∀ ln, ln < x → LinN T G u w h ln := fun ln hl => (hLs ln hl).fr (fun b b1 b2 => hN b (by omega))
    have hLn := fun c l => (hLn c l).fr (fun b b1 b2 => hN b (by omega))
    have hF : ∀ b, b < u → G b = G0 b := fun b hb => (hN b (by omega)).trans (hF b hb)
    refine s_iinc dX4_init_66 rfl (s_inc1 _) (by decide) rfl ?_
    refine q_goto (tgt := 39) dX4_init_69 (by decide) ?_
    rw [show u + 2 + 4 * (x) + 4 = u + 2 + 4 * (x + 1) by omega]
    refine q_R.less (ih _ (by omega) (x + 1) G rfl (by omega) ⟨hu, ⟨_, hls, fun j hj => ?_⟩, fun ln hl => ?_, hF⟩) (by omega) (by omega)
    · by_cases hjk : j = x
      · rw [hjk, va_up_s]
      · rw [va_up_n _ _ hjk]; exact hf j (by omega)
    · by_cases hlk : ln = x
      · rw [hlk]; exact LinN.row (by omega) hLn
      · exact hLs ln (by omega)

set_option maxHeartbeats 4000000 in
set_option maxRecDepth 100000 in
theorem l_cols {T : q_T} {G0 : q_G} {u w h c : Nat} {E : q_E} (hw : 1 ≤ w ∧ w ≤ 10) (hh : 1 ≤ h ∧ h ≤ 10) (hx : ∀ G, Ini T G0 u w h c G (h + w) → q_R T mX4_init 4 87 108 [some (.ref u), some (.int (nI w)), some (.int (nI h)), some (.int (nI c)), some (.int (nI w))] [] G (u + 2 + 4 * (h + w)) (81 - 4 * (h + w)) (1080 - 49 * (h + w)) E) : ∀ (mZ : Nat) (x : Nat) (G : q_G), mZ = w - x → (x ≤ w) → (Ini T G0 u w h c G (h + x)) → q_R T mX4_init 4 87 75 [some (.ref u), some (.int (nI w)), some (.int (nI h)), some (.int (nI c)), some (.int (nI x))] [] G (u + 2 + 4 * (h + x)) (81 - 4 * (h + x)) (1080 - 49 * (h + x)) E := by
  intro mZ
  induction mZ using Nat.strongRecOn with | ind mZ ih => ?_
  intro x G hm hxb hI
  obtain ⟨hu, ⟨f, hls, hf⟩, hLs, hF⟩ := hI
  refine q_iload dX4_init_75 rfl ?_
  refine q_iload_n dX4_init_77 rfl ?_
  refine n_icmp_ge (tgt := 108) dX4_init_78 (by decide) (by omega) (by omega) (fun c78 => ?_) (fun c78 => ?_)
  · obtain rfl : x = w := by omega
    exact hx G ⟨hu, ⟨f, hls, hf⟩, hLs, hF⟩
  · refine q_aload_n dX4_init_81 rfl rfl ?_
    refine q_get dX4_init_82 fl_X4_26 hu rfl ?_
    refine q_iload_n dX4_init_85 rfl ?_
    refine q_iload dX4_init_86 rfl ?_
    refine q_iadd dX4_init_88 (nI_add _ _) ?_
    refine w_new dX4_init_89 nw_X4_24 (by omega) (by omega) (fun G hnl hN => ?_)
    have hu := (hN _ (by omega)).trans hu
    have hls := (hN _ (by omega)).trans hls
    have hLs : ∀ ln, ln < h + x → LinN T G u w h ln := fun ln hl => (hLs ln hl).fr (fun b b1 b2 => hN b (by omega))
    have hF : ∀ b, b < u → G b = G0 b := fun b hb => (hN b (by omega)).trans (hF b hb)
    refine q_dup dX4_init_92 rfl ?_
    refine q_iload dX4_init_93 rfl ?_
    refine q_iload_n dX4_init_95 rfl ?_
    refine q_iload_n dX4_init_96 rfl ?_
    refine q_iconst (v := nI 0) dX4_init_97 (by decide) ?_
    refine q_ii (As := [_, _, _, _]) dX4_init_98 ml_X4_30 mt_X3_init rfl mi_X3_init rfl rfl (Nat.le_of_ble_eq_true rfl) (Nat.le_of_ble_eq_true rfl) (by omega) (by omega) (Nat.le_of_ble_eq_true rfl) (q_C.mono (c_X3_init hnl (by omega)) (fun v G sz1 hq => ?_))
    obtain ⟨rfl, rfl, hN, hLn⟩ := hq
    have hu := (hN _ (by omega)).trans hu
    have hls := (hN _ (by omega)).trans hls
    have hLs : ∀ ln, ln < h + x → LinN T G u w h ln := fun ln hl => (hLs ln hl).fr (fun b b1 b2 => hN b (by omega))
    have hF : ∀ b, b < u → G b = G0 b := fun b hb => (hN b (by omega)).trans (hF b hb)
    obtain ⟨g0, j0, e0, C0, L0, P0, hlo, -⟩ := id (hLn (fun _ => 0) (fun _ => 0))
    refine w_aas (t := 6) (k := h + x) dX4_init_101 hls rfl hlo rfl rfl (by omega) (by omega) (fun G hls hN => ?_)
    have hu := (hN _ (by omega)).trans hu
    have hLs : ∀ ln, ln < h + x → LinN T G u w h ln := fun ln hl => (hLs ln hl).fr (fun b b1 b2 => hN b (by omega))
    have hLn := fun c l => (hLn c l).fr (fun b b1 b2 => hN b (by omega))
    have hF : ∀ b, b < u → G b = G0 b := fun b hb => (hN b (by omega)).trans (hF b hb)
    refine s_iinc dX4_init_102 rfl (s_inc1 _) (by decide) rfl ?_
    refine q_goto (tgt := 75) dX4_init_105 (by decide) ?_
    rw [show u + 2 + 4 * (h + x) + 4 = u + 2 + 4 * (h + x + 1) by omega]
    refine q_R.less (ih _ (by omega) (x + 1) G rfl (by omega) ⟨hu, ⟨_, hls, fun j hj => ?_⟩, fun ln hl => ?_, hF⟩) (by omega) (by omega)
    · by_cases hjk : j = h + x
      · rw [hjk, va_up_s]
      · rw [va_up_n _ _ hjk]; exact hf j (by omega)
    · by_cases hlk : ln = h + x
      · rw [hlk]; exact LinN.col hLn
      · exact hLs ln (by omega)

set_option maxHeartbeats 4000000 in
set_option maxRecDepth 100000 in
theorem c_X4_init {T : q_T} {G0 : q_G} {u w h c : Nat} (hu : G0 u = some (q_ob 5 [.int 0, .int 0, .int 0, .int 0, .null, .null, .int 0])) (hw : 1 ≤ w ∧ w ≤ 10) (hh : 1 ≤ h ∧ h ≤ 10) (hc : c ≤ 3) : q_C T mX4_init 4 87 82 1200 [.ref u, .int (nI w), .int (nI h), .int (nI c)] G0 (u + 1) (fun v G' sz' => sz' = u + 3 + 4 * (w + h) ∧ v = none ∧ (∀ b, b < u → G' b = G0 b) ∧ PuzN T G' u w h c) := by
  refine q_C.of (by decide) rfl (by simp [Value.category]) (Nat.le_of_ble_eq_true rfl) ?_
  have hF : ∀ b, b < u → G0 b = G0 b := fun _ _ => rfl
  have hwh : w * h ≤ 10 * 10 := Nat.mul_le_mul hw.2 hh.2
  refine q_aload_n dX4_init_0 rfl rfl ?_
  refine q_oi dX4_init_1 ml_X4_3 oi_i oi_c (Nat.le_of_ble_eq_true rfl) (Nat.le_of_ble_eq_true rfl) (Nat.le_of_ble_eq_true rfl) ?_
  refine q_aload_n dX4_init_4 rfl rfl ?_
  refine q_iload_n dX4_init_5 rfl ?_
  refine w_put (fs2 := [.int (nI w), .int 0, .int 0, .int 0, .null, .null, .int 0]) dX4_init_6 fl_X4_9 fp_X4_9 hu (Nat.le_of_ble_eq_true rfl) rfl rfl rfl (fun G hu hN => ?_)
  have hF : ∀ b, b < u → G b = G0 b := fun b hb => (hN b (by omega)).trans (hF b hb)
  refine q_aload_n dX4_init_9 rfl rfl ?_
  refine q_iload_n dX4_init_10 rfl ?_
  refine w_put (fs2 := [.int (nI w), .int (nI h), .int 0, .int 0, .null, .null, .int 0]) dX4_init_11 fl_X4_15 fp_X4_15 hu (Nat.le_of_ble_eq_true rfl) rfl rfl rfl (fun G hu hN => ?_)
  have hF : ∀ b, b < u → G b = G0 b := fun b hb => (hN b (by omega)).trans (hF b hb)
  refine q_aload_n dX4_init_14 rfl rfl ?_
  refine q_iload_n dX4_init_15 rfl ?_
  refine w_put (fs2 := [.int (nI w), .int (nI h), .int (nI c), .int 0, .null, .null, .int 0]) dX4_init_16 fl_X4_18 fp_X4_18 hu (Nat.le_of_ble_eq_true rfl) rfl rfl rfl (fun G hu hN => ?_)
  have hF : ∀ b, b < u → G b = G0 b := fun b hb => (hN b (by omega)).trans (hF b hb)
  refine q_aload_n dX4_init_19 rfl rfl ?_
  refine q_iload_n dX4_init_20 rfl ?_
  refine q_iload_n dX4_init_21 rfl ?_
  refine q_imul dX4_init_22 (pk_mul _ _) ?_
  refine w_put (fs2 := [.int (nI w), .int (nI h), .int (nI c), .int (nI (w * h)), .null, .null, .int 0]) dX4_init_23 fl_X4_21 fp_X4_21 hu (Nat.le_of_ble_eq_true rfl) rfl rfl rfl (fun G hu hN => ?_)
  have hF : ∀ b, b < u → G b = G0 b := fun b hb => (hN b (by omega)).trans (hF b hb)
  refine q_aload_n dX4_init_26 rfl rfl ?_
  refine q_iload_n dX4_init_27 rfl ?_
  refine q_iload_n dX4_init_28 rfl ?_
  refine q_iadd dX4_init_29 (nI_add _ _) ?_
  refine w_newR (N := h + w) (t := 6) dX4_init_30 rfl (by omega) (by omega) (by omega) cw_X4_24 (by simp) rfl (fun G hls hN => ?_)
  have hu := (hN _ (by omega)).trans hu
  have hF : ∀ b, b < u → G b = G0 b := fun b hb => (hN b (by omega)).trans (hF b hb)
  refine w_put (fs2 := [.int (nI w), .int (nI h), .int (nI c), .int (nI (w * h)), .ref (u + 1), .null, .int 0]) dX4_init_33 fl_X4_26 fp_X4_26 hu (Nat.le_of_ble_eq_true rfl) rfl rfl rfl (fun G hu hN => ?_)
  have hls := (hN _ (by omega)).trans hls
  have hF : ∀ b, b < u → G b = G0 b := fun b hb => (hN b (by omega)).trans (hF b hb)
  refine q_iconst (v := nI 0) dX4_init_36 (by decide) ?_
  refine s_istore dX4_init_37 (by decide) rfl ?_
  refine q_R.less (bc := 81 - 4 * 0) (bs := 1080 - 49 * 0) (l_rows hw hh (fun G hI => ?_) _ 0 G rfl (Nat.zero_le _) ⟨hu, ⟨_, hls, fun j hj => absurd hj (Nat.not_lt_zero _)⟩, fun ln hl => absurd hl (Nat.not_lt_zero _), hF⟩) (by omega) (by omega)
  refine q_iconst (v := nI 0) dX4_init_72 (by decide) ?_
  refine s_istore dX4_init_73 (by decide) rfl ?_
  refine l_cols hw hh (fun G hI => ?_) _ 0 G rfl (Nat.zero_le _) hI
  obtain ⟨hu, ⟨f, hls, hf⟩, hLs, hF⟩ := hI
  rw [show u + 2 + 4 * (h + w) = u + 2 + 4 * (w + h) by omega]
  refine q_aload_n dX4_init_108 rfl rfl ?_
  refine q_aload_n dX4_init_109 rfl rfl ?_
  refine q_get dX4_init_110 fl_X4_21 hu rfl ?_
  refine w_newI (N := w * h) dX4_init_113 rfl (by omega) (by omega) (by omega) (fun G hd hN => ?_)
  have hd : G (u + 2 + 4 * (w + h)) = some (q_ia T (w * h) (fun i => nI ((fun _ => 0) i))) := hd
  have hu := (hN _ (by omega)).trans hu
  have hls := (hN _ (by omega)).trans hls
  have hLs : ∀ ln, ln < h + w → LinN T G u w h ln := fun ln hl => (hLs ln hl).fr (fun b b1 b2 => hN b (by omega))
  have hF : ∀ b, b < u → G b = G0 b := fun b hb => (hN b (by omega)).trans (hF b hb)
  refine w_put (fs2 := [.int (nI w), .int (nI h), .int (nI c), .int (nI (w * h)), .ref (u + 1), .ref (u + 2 + 4 * (w + h)), .int 0]) dX4_init_115 fl_X4_33 fp_X4_33 hu (Nat.le_of_ble_eq_true rfl) rfl rfl rfl (fun G hu hN => ?_)
  have hls := (hN _ (by omega)).trans hls
  have hd := (hN _ (by omega)).trans hd
  have hLs : ∀ ln, ln < h + w → LinN T G u w h ln := fun ln hl => (hLs ln hl).fr (fun b b1 b2 => hN b (by omega))
  have hF : ∀ b, b < u → G b = G0 b := fun b hb => (hN b (by omega)).trans (hF b hb)
  refine q_aload_n dX4_init_118 rfl rfl ?_
  refine q_iconst (v := nI 0) dX4_init_119 (by decide) ?_
  refine w_put (fs2 := pu_ob u w h c (u + 2 + 4 * (w + h)) 0) dX4_init_120 fl_X4_37 fp_X4_37 hu (Nat.le_of_ble_eq_true rfl) rfl rfl rfl (fun G hu hN => ?_)
  have hls := (hN _ (by omega)).trans hls
  have hd := (hN _ (by omega)).trans hd
  have hLs : ∀ ln, ln < h + w → LinN T G u w h ln := fun ln hl => (hLs ln hl).fr (fun b b1 b2 => hN b (by omega))
  have hF : ∀ b, b < u → G b = G0 b := fun b hb => (hN b (by omega)).trans (hF b hb)
  refine q_aload_n dX4_init_123 rfl rfl ?_
  refine q_iv (As := []) dX4_init_124 ml_X4_41 mt_X4_clearDesk mi_X4_clearDesk se_X4_clearDesk hu rfl rfl (Nat.le_of_ble_eq_true rfl) (Nat.le_of_ble_eq_true rfl) (Nat.zero_le _) (Nat.zero_le _) (Nat.le_of_ble_eq_true rfl) (q_C.mono (c_X4_clearDesk hu hd (by omega) (by omega)) (fun v G sz1 hq => ?_))
  obtain ⟨rfl, rfl, hd, hN⟩ := hq
  have hu := (hN _ (by omega)).trans hu
  have hls := (hN _ (by omega)).trans hls
  have hLs : ∀ ln, ln < h + w → LinN T G u w h ln := fun ln hl => (hLs ln hl).fr (fun b b1 b2 => hN b (by omega))
  have hF : ∀ b, b < u → G b = G0 b := fun b hb => (hN b (by omega)).trans (hF b hb)
  exact q_return dX4_init_127 rfl ⟨by omega, rfl, hF, hu, ⟨f, by rw [hls, Nat.add_comm h w], fun k hk => hf k (by omega)⟩, fun ln hl => hLs ln (by omega), _, hd, fun x hx => if_pos hx⟩

theorem tn_rd_le (h how src : Nat) : tn_rd h how src ≤ 1 := by
  unfold tn_rd
  (repeat' split) <;> omega
/-- one line of tn_same -/
def tn_one (A : md_A) (p q how ln : Nat) : Prop := pz_n A q ln = pz_n A p (tn_at A p how ln) ∧ ∀ k, k < pz_n A q ln → pz_c A q ln k = tn_c A p how ln k ∧ pz_l A q ln k = tn_l A p how ln k

set_option maxHeartbeats 4000000 in
set_option maxRecDepth 100000 in
theorem l_turnsInto {T : q_T} {G : q_G} {sz u u2 p q D D2 how : Nat} {A : md_A} {E : q_E} {x3 : Option Value} (hP : PuzL T G u A p D) (hP2 : PuzL T G u2 A q D2) (hz : Pz A p) (hz2 : Pz A q) (hho : how < 8) (hwh : A 1 q + A 2 q = A 1 p + A 2 p) (hE1 : (∀ ln, ln < A 1 q + A 2 q → tn_one A p q how ln) → E (some (.int (nI 1))) G sz) (hE0 : ¬ (∀ ln, ln < A 1 q + A 2 q → tn_one A p q how ln) → E (some (.int (nI 0))) G sz) : ∀ (mZ : Nat) (k : Nat) (x5 : Option Value), mZ = A 1 q + A 2 q - k → (k ≤ A 1 q + A 2 q) → (∀ ln, ln < k → tn_one A p q how ln) → q_R T mX4_turnsInto 1 26 72 [some (.ref u), some (.ref u2), some (.int (nI how)), x3, some (.int (nI k)), x5] [] G sz 0 0 E := by
  intro mZ
  induction mZ using Nat.strongRecOn with | ind mZ ih => ?_
  intro k x5 hm hk hok
  have hu := hP.1
  obtain ⟨f, hls, hf⟩ := hP.2.1
  have hu2 := hP2.1
  obtain ⟨f2, hls2, hf2⟩ := hP2.2.1
  have b1 := hz.2
  have b2 := hz2.2
  refine q_iload dX4_turnsInto_72 rfl ?_
  refine q_aload_n dX4_turnsInto_74 rfl rfl ?_
  refine q_get dX4_turnsInto_75 fl_X4_26 hu2 rfl ?_
  refine q_alen (t := 6) (v := nI (A 1 q + A 2 q)) dX4_turnsInto_78 hls2 rfl rfl ?_
  refine n_icmp_ge (tgt := 126) dX4_turnsInto_79 (by decide) (by omega) (by omega) (fun c79 => ?_) (fun c79 => ?_)
  · refine q_iconst (v := nI 1) dX4_turnsInto_126 (by decide) ?_
    exact q_ireturn dX4_turnsInto_127 rfl (by decide +kernel) (hE1 (fun ln hl => hok ln (by omega)))
  · refine q_aload_n dX4_turnsInto_82 rfl rfl ?_
    refine q_iload dX4_turnsInto_83 rfl ?_
    refine q_iload_n dX4_turnsInto_85 rfl ?_
    refine q_iv (As := [_, _]) dX4_turnsInto_86 ml_X4_71 mt_X4_sourceOf mi_X4_sourceOf se_X4_sourceOf hu rfl rfl (Nat.le_of_ble_eq_true rfl) (Nat.le_of_ble_eq_true rfl) (Nat.zero_le _) (Nat.zero_le _) (Nat.le_of_ble_eq_true rfl) (q_C.mono (c_X4_sourceOf hu hz.2.1 hz.2.2.1 (by omega) hho) (fun v G1 sz1 hq => ?_))
    obtain ⟨rfl, rfl, rfl⟩ := hq
    have hsl : tn_at A p how k < A 1 p + A 2 p := tn_src_lt hz.2.1.1 hz.2.2.1.1 (by omega)
    obtain ⟨g0, j0, e0, C0, L0, P0, hlk, -⟩ := id (hP2.2.2 k (by omega))
    have hsc : tn_src (A 1 p) (A 2 p) how k = tn_at A p how k := rfl
    rw [hsc]
    refine s_istore dX4_turnsInto_89 (by decide) rfl ?_
    refine q_aload_n dX4_turnsInto_91 rfl rfl ?_
    refine q_get dX4_turnsInto_92 fl_X4_26 hu2 rfl ?_
    refine q_iload dX4_turnsInto_95 rfl ?_
    refine q_aaload (t := 6) (v := .ref (u2 + 2 + 4 * k)) dX4_turnsInto_97 hls2 rfl rfl (by omega) (by omega) (congrArg va_rf (hf2 k (by omega))) ?_
    refine q_aload_n dX4_turnsInto_98 rfl rfl ?_
    refine q_get dX4_turnsInto_99 fl_X4_26 hu rfl ?_
    refine q_iload dX4_turnsInto_102 rfl ?_
    refine q_aaload (t := 6) (v := .ref (u + 2 + 4 * tn_at A p how k)) dX4_turnsInto_104 hls rfl rfl hsl (by omega) (congrArg va_rf (hf (tn_at A p how k) hsl)) ?_
    refine q_aload_n dX4_turnsInto_105 rfl rfl ?_
    refine q_iload dX4_turnsInto_106 rfl ?_
    refine q_iload_n dX4_turnsInto_108 rfl ?_
    refine q_iv (As := [_, _]) dX4_turnsInto_109 ml_X4_75 mt_X4_isBackwards mi_X4_isBackwards se_X4_isBackwards hu rfl rfl (Nat.le_of_ble_eq_true rfl) (Nat.le_of_ble_eq_true rfl) (Nat.zero_le _) (Nat.zero_le _) (Nat.le_of_ble_eq_true rfl) (q_C.mono (c_X4_isBackwards hu hz.2.2.1 (by omega) hho) (fun v G1 sz1 hq => ?_))
    obtain ⟨rfl, rfl, rfl⟩ := hq
    refine q_iv (As := [_, _]) dX4_turnsInto_112 ml_X4_82 mt_X3_hasRunsOf mi_X3_hasRunsOf se_X3_hasRunsOf hlk rfl rfl (Nat.le_of_ble_eq_true rfl) (Nat.le_of_ble_eq_true rfl) (Nat.zero_le _) (Nat.zero_le _) (Nat.le_of_ble_eq_true rfl) (q_C.mono (c_X3_hasRunsOf (hP2.2.2 k (by omega)) (hP.2.2 (tn_at A p how k) hsl) (tn_rd_le _ _ _)) (fun v G1 sz1 hq => ?_))
    obtain ⟨⟨hq112, rfl⟩ | ⟨hq112, rfl⟩, rfl, rfl⟩ := hq
    · refine q_if_ne (tgt := 120) dX4_turnsInto_115 (by decide) (fun _ => ?_) (fun h => absurd h (by decide))
      refine s_iinc dX4_turnsInto_120 rfl (s_inc1 _) (by decide) rfl ?_
      refine q_goto (tgt := 72) dX4_turnsInto_123 (by decide) ?_
      exact ih _ (by omega) (k + 1) _ rfl (by omega) (fun ln hl => if h : ln = k then (by rw [h]; exact hq112) else hok ln (by omega))
    · refine q_if_ne (tgt := 120) dX4_turnsInto_115 (by decide) (fun h => absurd h (by decide)) (fun _ => ?_)
      refine q_iconst (v := nI 0) dX4_turnsInto_118 (by decide) ?_
      exact q_ireturn dX4_turnsInto_119 rfl (by decide +kernel) (hE0 (fun h => hq112 (h k (by omega))))

set_option maxHeartbeats 4000000 in
set_option maxRecDepth 100000 in
theorem c_X4_turnsInto {T : q_T} {G : q_G} {sz u u2 p q D D2 how : Nat} {A : md_A} (hP : PuzL T G u A p D) (hP2 : PuzL T G u2 A q D2) (hz : Pz A p) (hz2 : Pz A q) (hho : how < 8) : q_C T mX4_turnsInto 1 26 0 0 [.ref u, .ref u2, .int (nI how)] G sz (fun v G' sz' => ((tn_same A p q how ∧ v = some (.int (nI 1))) ∨ (¬ tn_same A p q how ∧ v = some (.int (nI 0)))) ∧ G = G' ∧ sz = sz') := by
  refine q_C.of (by decide) rfl (by simp [Value.category]) (Nat.le_of_ble_eq_true rfl) ?_
  have hu := hP.1
  obtain ⟨f, hls, hf⟩ := hP.2.1
  have hu2 := hP2.1
  obtain ⟨f2, hls2, hf2⟩ := hP2.2.1
  have b1 := hz.2
  have b2 := hz2.2
  refine q_iload_n dX4_turnsInto_0 rfl ?_
  refine q_iconst (v := nI 4) dX4_turnsInto_1 (by decide) ?_
  refine q_iand dX4_turnsInto_2 (n_and _ _) ?_
  refine n_if_eq (tgt := 10) dX4_turnsInto_3 (by decide) (Nat.lt_of_le_of_lt Nat.and_le_left (by omega)) (fun c3 => ?_) (fun c3 => ?_)
  · refine q_iconst (v := nI 0) dX4_turnsInto_10 (by decide) ?_
    refine s_istore_n dX4_turnsInto_11 (by decide) rfl ?_
    have hw : tn_w A p how = A 1 p := if_pos c3
    have hh : tn_h A p how = A 2 p := if_pos c3
    refine q_aload_n dX4_turnsInto_12 rfl rfl ?_
    refine q_get dX4_turnsInto_13 fl_X4_9 hu2 rfl ?_
    refine q_iload_n dX4_turnsInto_16 rfl ?_
    refine q_if_eq (tgt := 27) dX4_turnsInto_17 (by decide) (fun _ => ?_) (fun h => absurd h (by decide))
    refine q_aload_n dX4_turnsInto_27 rfl rfl ?_
    refine q_get dX4_turnsInto_28 fl_X4_9 hu rfl ?_
    refine n_icmp_ne (tgt := 67) dX4_turnsInto_31 (by decide) (by omega) (by omega) (fun c31 => ?_) (fun c31 => ?_)
    · refine q_iconst (v := nI 0) dX4_turnsInto_67 (by decide) ?_
      exact q_ireturn dX4_turnsInto_68 rfl (by decide +kernel) ⟨Or.inr ⟨fun h => absurd h (fun ⟨e1, e2, e3, _⟩ => by omega), rfl⟩, rfl, rfl⟩
    · refine q_aload_n dX4_turnsInto_34 rfl rfl ?_
      refine q_get dX4_turnsInto_35 fl_X4_15 hu2 rfl ?_
      refine q_iload_n dX4_turnsInto_38 rfl ?_
      refine q_if_eq (tgt := 49) dX4_turnsInto_39 (by decide) (fun _ => ?_) (fun h => absurd h (by decide))
      refine q_aload_n dX4_turnsInto_49 rfl rfl ?_
      refine q_get dX4_turnsInto_50 fl_X4_15 hu rfl ?_
      refine n_icmp_ne (tgt := 67) dX4_turnsInto_53 (by decide) (by omega) (by omega) (fun c53 => ?_) (fun c53 => ?_)
      · refine q_iconst (v := nI 0) dX4_turnsInto_67 (by decide) ?_
        exact q_ireturn dX4_turnsInto_68 rfl (by decide +kernel) ⟨Or.inr ⟨fun h => absurd h (fun ⟨e1, e2, e3, _⟩ => by omega), rfl⟩, rfl, rfl⟩
      · refine q_aload_n dX4_turnsInto_56 rfl rfl ?_
        refine q_get dX4_turnsInto_57 fl_X4_18 hu2 rfl ?_
        refine q_aload_n dX4_turnsInto_60 rfl rfl ?_
        refine q_get dX4_turnsInto_61 fl_X4_18 hu rfl ?_
        refine n_icmp_eq (tgt := 69) dX4_turnsInto_64 (by decide) (by omega) (by omega) (fun c64 => ?_) (fun c64 => ?_)
        · refine q_iconst (v := nI 0) dX4_turnsInto_69 (by decide) ?_
          refine s_istore dX4_turnsInto_70 (by decide) rfl ?_
          exact l_turnsInto hP hP2 hz hz2 hho (by omega) (fun h => ⟨Or.inl ⟨⟨by omega, by omega, by omega, h⟩, rfl⟩, rfl, rfl⟩) (fun h => ⟨Or.inr ⟨fun g => h g.2.2.2, rfl⟩, rfl, rfl⟩) _ 0 _ rfl (Nat.zero_le _) (fun _ h => absurd h (Nat.not_lt_zero _))
        · refine q_iconst (v := nI 0) dX4_turnsInto_67 (by decide) ?_
          exact q_ireturn dX4_turnsInto_68 rfl (by decide +kernel) ⟨Or.inr ⟨fun h => absurd h (fun ⟨e1, e2, e3, _⟩ => by omega), rfl⟩, rfl, rfl⟩
  · refine q_iconst (v := nI 1) dX4_turnsInto_6 (by decide) ?_
    refine q_goto (tgt := 11) dX4_turnsInto_7 (by decide) ?_
    refine s_istore_n dX4_turnsInto_11 (by decide) rfl ?_
    have hw : tn_w A p how = A 2 p := if_neg c3
    have hh : tn_h A p how = A 1 p := if_neg c3
    refine q_aload_n dX4_turnsInto_12 rfl rfl ?_
    refine q_get dX4_turnsInto_13 fl_X4_9 hu2 rfl ?_
    refine q_iload_n dX4_turnsInto_16 rfl ?_
    refine q_if_eq (tgt := 27) dX4_turnsInto_17 (by decide) (fun h => absurd h (by decide)) (fun _ => ?_)
    refine q_aload_n dX4_turnsInto_20 rfl rfl ?_
    refine q_get dX4_turnsInto_21 fl_X4_15 hu rfl ?_
    refine q_goto (tgt := 31) dX4_turnsInto_24 (by decide) ?_
    refine n_icmp_ne (tgt := 67) dX4_turnsInto_31 (by decide) (by omega) (by omega) (fun c31 => ?_) (fun c31 => ?_)
    · refine q_iconst (v := nI 0) dX4_turnsInto_67 (by decide) ?_
      exact q_ireturn dX4_turnsInto_68 rfl (by decide +kernel) ⟨Or.inr ⟨fun h => absurd h (fun ⟨e1, e2, e3, _⟩ => by omega), rfl⟩, rfl, rfl⟩
    · refine q_aload_n dX4_turnsInto_34 rfl rfl ?_
      refine q_get dX4_turnsInto_35 fl_X4_15 hu2 rfl ?_
      refine q_iload_n dX4_turnsInto_38 rfl ?_
      refine q_if_eq (tgt := 49) dX4_turnsInto_39 (by decide) (fun h => absurd h (by decide)) (fun _ => ?_)
      refine q_aload_n dX4_turnsInto_42 rfl rfl ?_
      refine q_get dX4_turnsInto_43 fl_X4_9 hu rfl ?_
      refine q_goto (tgt := 53) dX4_turnsInto_46 (by decide) ?_
      refine n_icmp_ne (tgt := 67) dX4_turnsInto_53 (by decide) (by omega) (by omega) (fun c53 => ?_) (fun c53 => ?_)
      · refine q_iconst (v := nI 0) dX4_turnsInto_67 (by decide) ?_
        exact q_ireturn dX4_turnsInto_68 rfl (by decide +kernel) ⟨Or.inr ⟨fun h => absurd h (fun ⟨e1, e2, e3, _⟩ => by omega), rfl⟩, rfl, rfl⟩
      · refine q_aload_n dX4_turnsInto_56 rfl rfl ?_
        refine q_get dX4_turnsInto_57 fl_X4_18 hu2 rfl ?_
        refine q_aload_n dX4_turnsInto_60 rfl rfl ?_
        refine q_get dX4_turnsInto_61 fl_X4_18 hu rfl ?_
        refine n_icmp_eq (tgt := 69) dX4_turnsInto_64 (by decide) (by omega) (by omega) (fun c64 => ?_) (fun c64 => ?_)
        · refine q_iconst (v := nI 0) dX4_turnsInto_69 (by decide) ?_
          refine s_istore dX4_turnsInto_70 (by decide) rfl ?_
          exact l_turnsInto hP hP2 hz hz2 hho (by omega) (fun h => ⟨Or.inl ⟨⟨by omega, by omega, by omega, h⟩, rfl⟩, rfl, rfl⟩) (fun h => ⟨Or.inr ⟨fun g => h g.2.2.2, rfl⟩, rfl, rfl⟩) _ 0 _ rfl (Nat.zero_le _) (fun _ h => absurd h (Nat.not_lt_zero _))
        · refine q_iconst (v := nI 0) dX4_turnsInto_67 (by decide) ?_
          exact q_ireturn dX4_turnsInto_68 rfl (by decide +kernel) ⟨Or.inr ⟨fun h => absurd h (fun ⟨e1, e2, e3, _⟩ => by omega), rfl⟩, rfl, rfl⟩
