/-! THE MODEL'S CONSTRUCTOR -/
def md_A0 : md_A := fun k _ => if k = 20 ∨ k = 25 ∨ k = 26 then 1 else 0
def md_I0 : md_I := fun _ => 0
/-- the model's object at m has the first j of its arrays -/
def Cn (T : q_T) (m : Nat) (G0 G : q_G) (j : Nat) (ob : List Value) : Prop := G m = some (q_ob 10 ob) ∧ (∀ k, 1 ≤ k → k ≤ j → G (m + k) = some (md_ar T k md_A0)) ∧ ∀ b, b < m ∨ m + 28 ≤ b → G b = G0 b
theorem md_ar0 (T : q_T) {k N : Nat} (h4 : k ≠ 4) (hN : md_len k = N) : md_ar T k md_A0 = q_ia T N (fun _ => 0) := by
  rw [md_ar_i T h4, hN]
  congr 1
  funext i
  unfold md_A0
  by_cases a : k = 20
  · subst a; decide
  · by_cases b : k = 25
    · subst b; decide
    · by_cases c : k = 26
      · subst c; decide
      · rw [if_neg (by omega)]
        unfold md_e
        split
        · exact absurd rfl a
        · exact absurd rfl b
        · exact absurd rfl c
        · rfl
theorem Cn.arr {T : q_T} {m : Nat} {G0 G : q_G} {j : Nat} {ob ob' : List Value} {e : va_E} (h : Cn T m G0 G j ob) (hj : j < 27) (he : md_ar T (j + 1) md_A0 = e) : Cn T m G0 (q_up (q_up G (m + 1 + j) e) m (q_ob 10 ob')) (j + 1) ob' := by
  obtain ⟨h1, h2, h3⟩ := h
  refine ⟨q_up_s, fun k k1 k2 => ?_, fun b hb => ?_⟩
  · rw [q_up_n (by omega)]
    by_cases hk : k = j + 1
    · subst hk
      rw [show m + (j + 1) = m + 1 + j by omega, q_up_s, he]
    · rw [q_up_n (by omega)]
      exact h2 k k1 (by omega)
  · rw [q_up_n (by omega), q_up_n (by omega)]
    exact h3 b hb
section cn_rows
variable {T : q_T} {M : q_M} {fr lo pc : Nat} {ls : List (Option Value)} {st : List Value} {G G0 : q_G} {bc bs : Nat} {E : q_E} {m : Nat}
theorem q_cnI {j N idx f : Nat} {n : Int32} {ob ob2 : List Value} {ty : FieldType} (hd1 : decode M.2.2.1 pc = .ok (.newarray .int, 2)) (hd2 : decode M.2.2.1 (pc + 2) = .ok (.putfield idx, 3)) (hC : Cn T m G0 G j ob) (hj : j < 27) (h4 : j + 1 ≠ 4) (hN : md_len (j + 1) = N) (hN2 : N ≤ 100000) (hn : n = nI N) (hf : q_FL M.1 idx 10 f) (hp : q_FP M.1 10 f ty M.2.1.name) (hl : f < ob.length) (hob : ob.set f (.ref (m + (j + 1))) = ob2) (hna : ∀ a, narrow ty (.ref a) = .ref a) (hfi : ∀ a, fits ty (.ref a) = true) (h1 : 1 ≤ bc) (h2 : N ≤ bs) (h : ∀ G1, Cn T m G0 G1 (j + 1) ob2 → q_R T M fr lo (pc + 2 + 3) ls st G1 (m + 1 + (j + 1)) (bc - 1) (bs - N) E) : q_R T M fr lo pc ls (.int n :: .ref m :: st) G (m + 1 + j) bc bs E := by
  refine q_newI hd1 hn hN2 h1 h2 ac_int ?_
  refine q_put hd2 hf hp ((q_up_n (by omega)).trans hC.1) hl (hna _) (hfi _) ?_
  refine h _ ?_
  rw [← hob, show m + (j + 1) = m + 1 + j by omega]
  exact hC.arr hj (md_ar0 T h4 hN)
theorem q_cnZ {idx f : Nat} {n : Int32} {ob ob2 : List Value} {ty : FieldType} (hd1 : decode M.2.2.1 pc = .ok (.newarray .boolean, 2)) (hd2 : decode M.2.2.1 (pc + 2) = .ok (.putfield idx, 3)) (hC : Cn T m G0 G 3 ob) (hn : n = nI 30) (hf : q_FL M.1 idx 10 f) (hp : q_FP M.1 10 f ty M.2.1.name) (hl : f < ob.length) (hob : ob.set f (.ref (m + 4)) = ob2) (hna : ∀ a, narrow ty (.ref a) = .ref a) (hfi : ∀ a, fits ty (.ref a) = true) (h1 : 1 ≤ bc) (h2 : 30 ≤ bs) (h : ∀ G1, Cn T m G0 G1 4 ob2 → q_R T M fr lo (pc + 2 + 3) ls st G1 (m + 1 + 4) (bc - 1) (bs - 30) E) : q_R T M fr lo pc ls (.int n :: .ref m :: st) G (m + 1 + 3) bc bs E := by
  refine q_newZ hd1 hn (by decide) h1 h2 ac_boolean ?_
  refine q_put hd2 hf hp ((q_up_n (by omega)).trans hC.1) hl (hna _) (hfi _) ?_
  refine h _ ?_
  rw [← hob, show m + 4 = m + 1 + 3 by omega]
  exact hC.arr (by decide) rfl
end cn_rows

set_option maxHeartbeats 4000000 in
set_option maxRecDepth 100000 in
theorem c_X9_init {T : q_T} {m : Nat} {G : q_G} (hG : G m = some (q_ob 10 [.int 0, .null, .null, .null, .null, .null, .null, .null, .null, .null, .null, .null, .null, .null, .null, .null, .int 0, .int 0, .int 0, .int 0, .null, .null, .null, .int 0, .int 0, .int 0, .null, .null, .null, .null, .null, .null, .null, .null, .null, .int 0])) : q_C T mX9_init 1 20 27 41123 [.ref m] G (m + 1) (fun v G' sz' => sz' = m + 28 ∧ v = none ∧ Mod T m G md_I0 md_A0 G') := by
  have hC : Cn T m G G 0 [.int 0, .null, .null, .null, .null, .null, .null, .null, .null, .null, .null, .null, .null, .null, .null, .null, .int 0, .int 0, .int 0, .int 0, .null, .null, .null, .int 0, .int 0, .int 0, .null, .null, .null, .null, .null, .null, .null, .null, .null, .int 0] := ⟨hG, fun k h1 h2 => by omega, fun _ _ => rfl⟩
  refine q_C.of (by decide) rfl (by simp [Value.category]) (Nat.le_of_ble_eq_true rfl) ?_
  refine q_aload_n dX9_init_0 rfl rfl ?_
  refine q_oi dX9_init_1 ml_X9_1 oi_i oi_c (Nat.le_of_ble_eq_true rfl) (Nat.le_of_ble_eq_true rfl) (Nat.le_of_ble_eq_true rfl) ?_
  refine q_aload_n dX9_init_4 rfl rfl ?_
  refine q_bipush (v := nI 30) dX9_init_5 (by decide) ?_
  refine q_cnI (j := 0) (N := 30) (f := 1) (ob2 := [.int 0, .ref (m + 1), .null, .null, .null, .null, .null, .null, .null, .null, .null, .null, .null, .null, .null, .null, .int 0, .int 0, .int 0, .int 0, .null, .null, .null, .int 0, .int 0, .int 0, .null, .null, .null, .null, .null, .null, .null, .null, .null, .int 0]) dX9_init_7 dX9_init_9 hC (by decide) (by decide) rfl (by decide) rfl fl_X9_9 fp_X9_9 (Nat.le_of_ble_eq_true rfl) rfl (fun _ => rfl) (fun _ => rfl) (Nat.le_of_ble_eq_true rfl) (Nat.le_of_ble_eq_true rfl) (fun G hC => ?_)
  refine q_aload_n dX9_init_12 rfl rfl ?_
  refine q_bipush (v := nI 30) dX9_init_13 (by decide) ?_
  refine q_cnI (j := 1) (N := 30) (f := 2) (ob2 := [.int 0, .ref (m + 1), .ref (m + 2), .null, .null, .null, .null, .null, .null, .null, .null, .null, .null, .null, .null, .null, .int 0, .int 0, .int 0, .int 0, .null, .null, .null, .int 0, .int 0, .int 0, .null, .null, .null, .null, .null, .null, .null, .null, .null, .int 0]) dX9_init_15 dX9_init_17 hC (by decide) (by decide) rfl (by decide) rfl fl_X9_13 fp_X9_13 (Nat.le_of_ble_eq_true rfl) rfl (fun _ => rfl) (fun _ => rfl) (Nat.le_of_ble_eq_true rfl) (Nat.le_of_ble_eq_true rfl) (fun G hC => ?_)
  refine q_aload_n dX9_init_20 rfl rfl ?_
  refine q_bipush (v := nI 30) dX9_init_21 (by decide) ?_
  refine q_cnI (j := 2) (N := 30) (f := 3) (ob2 := [.int 0, .ref (m + 1), .ref (m + 2), .ref (m + 3), .null, .null, .null, .null, .null, .null, .null, .null, .null, .null, .null, .null, .int 0, .int 0, .int 0, .int 0, .null, .null, .null, .int 0, .int 0, .int 0, .null, .null, .null, .null, .null, .null, .null, .null, .null, .int 0]) dX9_init_23 dX9_init_25 hC (by decide) (by decide) rfl (by decide) rfl fl_X9_16 fp_X9_16 (Nat.le_of_ble_eq_true rfl) rfl (fun _ => rfl) (fun _ => rfl) (Nat.le_of_ble_eq_true rfl) (Nat.le_of_ble_eq_true rfl) (fun G hC => ?_)
  refine q_aload_n dX9_init_28 rfl rfl ?_
  refine q_bipush (v := nI 30) dX9_init_29 (by decide) ?_
  refine q_cnZ (f := 4) (ob2 := [.int 0, .ref (m + 1), .ref (m + 2), .ref (m + 3), .ref (m + 4), .null, .null, .null, .null, .null, .null, .null, .null, .null, .null, .null, .int 0, .int 0, .int 0, .int 0, .null, .null, .null, .int 0, .int 0, .int 0, .null, .null, .null, .null, .null, .null, .null, .null, .null, .int 0]) dX9_init_31 dX9_init_33 hC rfl fl_X9_19 fp_X9_19 (Nat.le_of_ble_eq_true rfl) rfl (fun _ => rfl) (fun _ => rfl) (Nat.le_of_ble_eq_true rfl) (Nat.le_of_ble_eq_true rfl) (fun G hC => ?_)
  refine q_aload_n dX9_init_36 rfl rfl ?_
  refine q_sipush (v := nI 600) dX9_init_37 (by decide) ?_
  refine q_cnI (j := 4) (N := 600) (f := 5) (ob2 := [.int 0, .ref (m + 1), .ref (m + 2), .ref (m + 3), .ref (m + 4), .ref (m + 5), .null, .null, .null, .null, .null, .null, .null, .null, .null, .null, .int 0, .int 0, .int 0, .int 0, .null, .null, .null, .int 0, .int 0, .int 0, .null, .null, .null, .null, .null, .null, .null, .null, .null, .int 0]) dX9_init_40 dX9_init_42 hC (by decide) (by decide) rfl (by decide) rfl fl_X9_23 fp_X9_23 (Nat.le_of_ble_eq_true rfl) rfl (fun _ => rfl) (fun _ => rfl) (Nat.le_of_ble_eq_true rfl) (Nat.le_of_ble_eq_true rfl) (fun G hC => ?_)
  refine q_aload_n dX9_init_45 rfl rfl ?_
  refine q_sipush (v := nI 6000) dX9_init_46 (by decide) ?_
  refine q_cnI (j := 5) (N := 6000) (f := 6) (ob2 := [.int 0, .ref (m + 1), .ref (m + 2), .ref (m + 3), .ref (m + 4), .ref (m + 5), .ref (m + 6), .null, .null, .null, .null, .null, .null, .null, .null, .null, .int 0, .int 0, .int 0, .int 0, .null, .null, .null, .int 0, .int 0, .int 0, .null, .null, .null, .null, .null, .null, .null, .null, .null, .int 0]) dX9_init_49 dX9_init_51 hC (by decide) (by decide) rfl (by decide) rfl fl_X9_26 fp_X9_26 (Nat.le_of_ble_eq_true rfl) rfl (fun _ => rfl) (fun _ => rfl) (Nat.le_of_ble_eq_true rfl) (Nat.le_of_ble_eq_true rfl) (fun G hC => ?_)
  refine q_aload_n dX9_init_54 rfl rfl ?_
  refine q_sipush (v := nI 6000) dX9_init_55 (by decide) ?_
  refine q_cnI (j := 6) (N := 6000) (f := 7) (ob2 := [.int 0, .ref (m + 1), .ref (m + 2), .ref (m + 3), .ref (m + 4), .ref (m + 5), .ref (m + 6), .ref (m + 7), .null, .null, .null, .null, .null, .null, .null, .null, .int 0, .int 0, .int 0, .int 0, .null, .null, .null, .int 0, .int 0, .int 0, .null, .null, .null, .null, .null, .null, .null, .null, .null, .int 0]) dX9_init_58 dX9_init_60 hC (by decide) (by decide) rfl (by decide) rfl fl_X9_29 fp_X9_29 (Nat.le_of_ble_eq_true rfl) rfl (fun _ => rfl) (fun _ => rfl) (Nat.le_of_ble_eq_true rfl) (Nat.le_of_ble_eq_true rfl) (fun G hC => ?_)
  refine q_aload_n dX9_init_63 rfl rfl ?_
  refine q_sipush (v := nI 3000) dX9_init_64 (by decide) ?_
  refine q_cnI (j := 7) (N := 3000) (f := 8) (ob2 := [.int 0, .ref (m + 1), .ref (m + 2), .ref (m + 3), .ref (m + 4), .ref (m + 5), .ref (m + 6), .ref (m + 7), .ref (m + 8), .null, .null, .null, .null, .null, .null, .null, .int 0, .int 0, .int 0, .int 0, .null, .null, .null, .int 0, .int 0, .int 0, .null, .null, .null, .null, .null, .null, .null, .null, .null, .int 0]) dX9_init_67 dX9_init_69 hC (by decide) (by decide) rfl (by decide) rfl fl_X9_32 fp_X9_32 (Nat.le_of_ble_eq_true rfl) rfl (fun _ => rfl) (fun _ => rfl) (Nat.le_of_ble_eq_true rfl) (Nat.le_of_ble_eq_true rfl) (fun G hC => ?_)
  refine q_aload_n dX9_init_72 rfl rfl ?_
  refine q_bipush (v := nI 100) dX9_init_73 (by decide) ?_
  refine q_cnI (j := 8) (N := 100) (f := 9) (ob2 := [.int 0, .ref (m + 1), .ref (m + 2), .ref (m + 3), .ref (m + 4), .ref (m + 5), .ref (m + 6), .ref (m + 7), .ref (m + 8), .ref (m + 9), .null, .null, .null, .null, .null, .null, .int 0, .int 0, .int 0, .int 0, .null, .null, .null, .int 0, .int 0, .int 0, .null, .null, .null, .null, .null, .null, .null, .null, .null, .int 0]) dX9_init_75 dX9_init_77 hC (by decide) (by decide) rfl (by decide) rfl fl_X9_35 fp_X9_35 (Nat.le_of_ble_eq_true rfl) rfl (fun _ => rfl) (fun _ => rfl) (Nat.le_of_ble_eq_true rfl) (Nat.le_of_ble_eq_true rfl) (fun G hC => ?_)
  refine q_aload_n dX9_init_80 rfl rfl ?_
  refine q_sipush (v := nI 10400) dX9_init_81 (by decide) ?_
  refine q_cnI (j := 9) (N := 10400) (f := 10) (ob2 := [.int 0, .ref (m + 1), .ref (m + 2), .ref (m + 3), .ref (m + 4), .ref (m + 5), .ref (m + 6), .ref (m + 7), .ref (m + 8), .ref (m + 9), .ref (m + 10), .null, .null, .null, .null, .null, .int 0, .int 0, .int 0, .int 0, .null, .null, .null, .int 0, .int 0, .int 0, .null, .null, .null, .null, .null, .null, .null, .null, .null, .int 0]) dX9_init_84 dX9_init_86 hC (by decide) (by decide) rfl (by decide) rfl fl_X9_38 fp_X9_38 (Nat.le_of_ble_eq_true rfl) rfl (fun _ => rfl) (fun _ => rfl) (Nat.le_of_ble_eq_true rfl) (Nat.le_of_ble_eq_true rfl) (fun G hC => ?_)
  refine q_aload_n dX9_init_89 rfl rfl ?_
  refine q_bipush (v := nI 10) dX9_init_90 (by decide) ?_
  refine q_cnI (j := 10) (N := 10) (f := 11) (ob2 := [.int 0, .ref (m + 1), .ref (m + 2), .ref (m + 3), .ref (m + 4), .ref (m + 5), .ref (m + 6), .ref (m + 7), .ref (m + 8), .ref (m + 9), .ref (m + 10), .ref (m + 11), .null, .null, .null, .null, .int 0, .int 0, .int 0, .int 0, .null, .null, .null, .int 0, .int 0, .int 0, .null, .null, .null, .null, .null, .null, .null, .null, .null, .int 0]) dX9_init_92 dX9_init_94 hC (by decide) (by decide) rfl (by decide) rfl fl_X9_41 fp_X9_41 (Nat.le_of_ble_eq_true rfl) rfl (fun _ => rfl) (fun _ => rfl) (Nat.le_of_ble_eq_true rfl) (Nat.le_of_ble_eq_true rfl) (fun G hC => ?_)
  refine q_aload_n dX9_init_97 rfl rfl ?_
  refine q_bipush (v := nI 10) dX9_init_98 (by decide) ?_
  refine q_cnI (j := 11) (N := 10) (f := 12) (ob2 := [.int 0, .ref (m + 1), .ref (m + 2), .ref (m + 3), .ref (m + 4), .ref (m + 5), .ref (m + 6), .ref (m + 7), .ref (m + 8), .ref (m + 9), .ref (m + 10), .ref (m + 11), .ref (m + 12), .null, .null, .null, .int 0, .int 0, .int 0, .int 0, .null, .null, .null, .int 0, .int 0, .int 0, .null, .null, .null, .null, .null, .null, .null, .null, .null, .int 0]) dX9_init_100 dX9_init_102 hC (by decide) (by decide) rfl (by decide) rfl fl_X9_44 fp_X9_44 (Nat.le_of_ble_eq_true rfl) rfl (fun _ => rfl) (fun _ => rfl) (Nat.le_of_ble_eq_true rfl) (Nat.le_of_ble_eq_true rfl) (fun G hC => ?_)
  refine q_aload_n dX9_init_105 rfl rfl ?_
  refine q_bipush (v := nI 10) dX9_init_106 (by decide) ?_
  refine q_cnI (j := 12) (N := 10) (f := 13) (ob2 := [.int 0, .ref (m + 1), .ref (m + 2), .ref (m + 3), .ref (m + 4), .ref (m + 5), .ref (m + 6), .ref (m + 7), .ref (m + 8), .ref (m + 9), .ref (m + 10), .ref (m + 11), .ref (m + 12), .ref (m + 13), .null, .null, .int 0, .int 0, .int 0, .int 0, .null, .null, .null, .int 0, .int 0, .int 0, .null, .null, .null, .null, .null, .null, .null, .null, .null, .int 0]) dX9_init_108 dX9_init_110 hC (by decide) (by decide) rfl (by decide) rfl fl_X9_47 fp_X9_47 (Nat.le_of_ble_eq_true rfl) rfl (fun _ => rfl) (fun _ => rfl) (Nat.le_of_ble_eq_true rfl) (Nat.le_of_ble_eq_true rfl) (fun G hC => ?_)
  refine q_aload_n dX9_init_113 rfl rfl ?_
  refine q_bipush (v := nI 10) dX9_init_114 (by decide) ?_
  refine q_cnI (j := 13) (N := 10) (f := 14) (ob2 := [.int 0, .ref (m + 1), .ref (m + 2), .ref (m + 3), .ref (m + 4), .ref (m + 5), .ref (m + 6), .ref (m + 7), .ref (m + 8), .ref (m + 9), .ref (m + 10), .ref (m + 11), .ref (m + 12), .ref (m + 13), .ref (m + 14), .null, .int 0, .int 0, .int 0, .int 0, .null, .null, .null, .int 0, .int 0, .int 0, .null, .null, .null, .null, .null, .null, .null, .null, .null, .int 0]) dX9_init_116 dX9_init_118 hC (by decide) (by decide) rfl (by decide) rfl fl_X9_50 fp_X9_50 (Nat.le_of_ble_eq_true rfl) rfl (fun _ => rfl) (fun _ => rfl) (Nat.le_of_ble_eq_true rfl) (Nat.le_of_ble_eq_true rfl) (fun G hC => ?_)
  refine q_aload_n dX9_init_121 rfl rfl ?_
  refine q_bipush (v := nI 11) dX9_init_122 (by decide) ?_
  refine q_cnI (j := 14) (N := 11) (f := 15) (ob2 := [.int 0, .ref (m + 1), .ref (m + 2), .ref (m + 3), .ref (m + 4), .ref (m + 5), .ref (m + 6), .ref (m + 7), .ref (m + 8), .ref (m + 9), .ref (m + 10), .ref (m + 11), .ref (m + 12), .ref (m + 13), .ref (m + 14), .ref (m + 15), .int 0, .int 0, .int 0, .int 0, .null, .null, .null, .int 0, .int 0, .int 0, .null, .null, .null, .null, .null, .null, .null, .null, .null, .int 0]) dX9_init_124 dX9_init_126 hC (by decide) (by decide) rfl (by decide) rfl fl_X9_53 fp_X9_53 (Nat.le_of_ble_eq_true rfl) rfl (fun _ => rfl) (fun _ => rfl) (Nat.le_of_ble_eq_true rfl) (Nat.le_of_ble_eq_true rfl) (fun G hC => ?_)
  refine q_aload_n dX9_init_129 rfl rfl ?_
  refine q_sipush (v := nI 500) dX9_init_130 (by decide) ?_
  refine q_cnI (j := 15) (N := 500) (f := 20) (ob2 := [.int 0, .ref (m + 1), .ref (m + 2), .ref (m + 3), .ref (m + 4), .ref (m + 5), .ref (m + 6), .ref (m + 7), .ref (m + 8), .ref (m + 9), .ref (m + 10), .ref (m + 11), .ref (m + 12), .ref (m + 13), .ref (m + 14), .ref (m + 15), .int 0, .int 0, .int 0, .int 0, .ref (m + 16), .null, .null, .int 0, .int 0, .int 0, .null, .null, .null, .null, .null, .null, .null, .null, .null, .int 0]) dX9_init_133 dX9_init_135 hC (by decide) (by decide) rfl (by decide) rfl fl_X9_56 fp_X9_56 (Nat.le_of_ble_eq_true rfl) rfl (fun _ => rfl) (fun _ => rfl) (Nat.le_of_ble_eq_true rfl) (Nat.le_of_ble_eq_true rfl) (fun G hC => ?_)
  refine q_aload_n dX9_init_138 rfl rfl ?_
  refine q_bipush (v := nI 104) dX9_init_139 (by decide) ?_
  refine q_cnI (j := 16) (N := 104) (f := 21) (ob2 := [.int 0, .ref (m + 1), .ref (m + 2), .ref (m + 3), .ref (m + 4), .ref (m + 5), .ref (m + 6), .ref (m + 7), .ref (m + 8), .ref (m + 9), .ref (m + 10), .ref (m + 11), .ref (m + 12), .ref (m + 13), .ref (m + 14), .ref (m + 15), .int 0, .int 0, .int 0, .int 0, .ref (m + 16), .ref (m + 17), .null, .int 0, .int 0, .int 0, .null, .null, .null, .null, .null, .null, .null, .null, .null, .int 0]) dX9_init_141 dX9_init_143 hC (by decide) (by decide) rfl (by decide) rfl fl_X9_59 fp_X9_59 (Nat.le_of_ble_eq_true rfl) rfl (fun _ => rfl) (fun _ => rfl) (Nat.le_of_ble_eq_true rfl) (Nat.le_of_ble_eq_true rfl) (fun G hC => ?_)
  refine q_aload_n dX9_init_146 rfl rfl ?_
  refine q_bipush (v := nI 104) dX9_init_147 (by decide) ?_
  refine q_cnI (j := 17) (N := 104) (f := 22) (ob2 := [.int 0, .ref (m + 1), .ref (m + 2), .ref (m + 3), .ref (m + 4), .ref (m + 5), .ref (m + 6), .ref (m + 7), .ref (m + 8), .ref (m + 9), .ref (m + 10), .ref (m + 11), .ref (m + 12), .ref (m + 13), .ref (m + 14), .ref (m + 15), .int 0, .int 0, .int 0, .int 0, .ref (m + 16), .ref (m + 17), .ref (m + 18), .int 0, .int 0, .int 0, .null, .null, .null, .null, .null, .null, .null, .null, .null, .int 0]) dX9_init_149 dX9_init_151 hC (by decide) (by decide) rfl (by decide) rfl fl_X9_62 fp_X9_62 (Nat.le_of_ble_eq_true rfl) rfl (fun _ => rfl) (fun _ => rfl) (Nat.le_of_ble_eq_true rfl) (Nat.le_of_ble_eq_true rfl) (fun G hC => ?_)
  refine q_aload_n dX9_init_154 rfl rfl ?_
  refine q_bipush (v := nI 20) dX9_init_155 (by decide) ?_
  refine q_cnI (j := 18) (N := 20) (f := 26) (ob2 := [.int 0, .ref (m + 1), .ref (m + 2), .ref (m + 3), .ref (m + 4), .ref (m + 5), .ref (m + 6), .ref (m + 7), .ref (m + 8), .ref (m + 9), .ref (m + 10), .ref (m + 11), .ref (m + 12), .ref (m + 13), .ref (m + 14), .ref (m + 15), .int 0, .int 0, .int 0, .int 0, .ref (m + 16), .ref (m + 17), .ref (m + 18), .int 0, .int 0, .int 0, .ref (m + 19), .null, .null, .null, .null, .null, .null, .null, .null, .int 0]) dX9_init_157 dX9_init_159 hC (by decide) (by decide) rfl (by decide) rfl fl_X9_65 fp_X9_65 (Nat.le_of_ble_eq_true rfl) rfl (fun _ => rfl) (fun _ => rfl) (Nat.le_of_ble_eq_true rfl) (Nat.le_of_ble_eq_true rfl) (fun G hC => ?_)
  refine q_aload_n dX9_init_162 rfl rfl ?_
  refine q_sipush (v := nI 2000) dX9_init_163 (by decide) ?_
  refine q_cnI (j := 19) (N := 2000) (f := 27) (ob2 := [.int 0, .ref (m + 1), .ref (m + 2), .ref (m + 3), .ref (m + 4), .ref (m + 5), .ref (m + 6), .ref (m + 7), .ref (m + 8), .ref (m + 9), .ref (m + 10), .ref (m + 11), .ref (m + 12), .ref (m + 13), .ref (m + 14), .ref (m + 15), .int 0, .int 0, .int 0, .int 0, .ref (m + 16), .ref (m + 17), .ref (m + 18), .int 0, .int 0, .int 0, .ref (m + 19), .ref (m + 20), .null, .null, .null, .null, .null, .null, .null, .int 0]) dX9_init_166 dX9_init_168 hC (by decide) (by decide) rfl (by decide) rfl fl_X9_68 fp_X9_68 (Nat.le_of_ble_eq_true rfl) rfl (fun _ => rfl) (fun _ => rfl) (Nat.le_of_ble_eq_true rfl) (Nat.le_of_ble_eq_true rfl) (fun G hC => ?_)
  refine q_aload_n dX9_init_171 rfl rfl ?_
  refine q_bipush (v := nI 20) dX9_init_172 (by decide) ?_
  refine q_cnI (j := 20) (N := 20) (f := 28) (ob2 := [.int 0, .ref (m + 1), .ref (m + 2), .ref (m + 3), .ref (m + 4), .ref (m + 5), .ref (m + 6), .ref (m + 7), .ref (m + 8), .ref (m + 9), .ref (m + 10), .ref (m + 11), .ref (m + 12), .ref (m + 13), .ref (m + 14), .ref (m + 15), .int 0, .int 0, .int 0, .int 0, .ref (m + 16), .ref (m + 17), .ref (m + 18), .int 0, .int 0, .int 0, .ref (m + 19), .ref (m + 20), .ref (m + 21), .null, .null, .null, .null, .null, .null, .int 0]) dX9_init_174 dX9_init_176 hC (by decide) (by decide) rfl (by decide) rfl fl_X9_71 fp_X9_71 (Nat.le_of_ble_eq_true rfl) rfl (fun _ => rfl) (fun _ => rfl) (Nat.le_of_ble_eq_true rfl) (Nat.le_of_ble_eq_true rfl) (fun G hC => ?_)
  refine q_aload_n dX9_init_179 rfl rfl ?_
  refine q_bipush (v := nI 20) dX9_init_180 (by decide) ?_
  refine q_cnI (j := 21) (N := 20) (f := 29) (ob2 := [.int 0, .ref (m + 1), .ref (m + 2), .ref (m + 3), .ref (m + 4), .ref (m + 5), .ref (m + 6), .ref (m + 7), .ref (m + 8), .ref (m + 9), .ref (m + 10), .ref (m + 11), .ref (m + 12), .ref (m + 13), .ref (m + 14), .ref (m + 15), .int 0, .int 0, .int 0, .int 0, .ref (m + 16), .ref (m + 17), .ref (m + 18), .int 0, .int 0, .int 0, .ref (m + 19), .ref (m + 20), .ref (m + 21), .ref (m + 22), .null, .null, .null, .null, .null, .int 0]) dX9_init_182 dX9_init_184 hC (by decide) (by decide) rfl (by decide) rfl fl_X9_74 fp_X9_74 (Nat.le_of_ble_eq_true rfl) rfl (fun _ => rfl) (fun _ => rfl) (Nat.le_of_ble_eq_true rfl) (Nat.le_of_ble_eq_true rfl) (fun G hC => ?_)
  refine q_aload_n dX9_init_187 rfl rfl ?_
  refine q_bipush (v := nI 20) dX9_init_188 (by decide) ?_
  refine q_cnI (j := 22) (N := 20) (f := 30) (ob2 := [.int 0, .ref (m + 1), .ref (m + 2), .ref (m + 3), .ref (m + 4), .ref (m + 5), .ref (m + 6), .ref (m + 7), .ref (m + 8), .ref (m + 9), .ref (m + 10), .ref (m + 11), .ref (m + 12), .ref (m + 13), .ref (m + 14), .ref (m + 15), .int 0, .int 0, .int 0, .int 0, .ref (m + 16), .ref (m + 17), .ref (m + 18), .int 0, .int 0, .int 0, .ref (m + 19), .ref (m + 20), .ref (m + 21), .ref (m + 22), .ref (m + 23), .null, .null, .null, .null, .int 0]) dX9_init_190 dX9_init_192 hC (by decide) (by decide) rfl (by decide) rfl fl_X9_77 fp_X9_77 (Nat.le_of_ble_eq_true rfl) rfl (fun _ => rfl) (fun _ => rfl) (Nat.le_of_ble_eq_true rfl) (Nat.le_of_ble_eq_true rfl) (fun G hC => ?_)
  refine q_aload_n dX9_init_195 rfl rfl ?_
  refine q_sipush (v := nI 4000) dX9_init_196 (by decide) ?_
  refine q_cnI (j := 23) (N := 4000) (f := 31) (ob2 := [.int 0, .ref (m + 1), .ref (m + 2), .ref (m + 3), .ref (m + 4), .ref (m + 5), .ref (m + 6), .ref (m + 7), .ref (m + 8), .ref (m + 9), .ref (m + 10), .ref (m + 11), .ref (m + 12), .ref (m + 13), .ref (m + 14), .ref (m + 15), .int 0, .int 0, .int 0, .int 0, .ref (m + 16), .ref (m + 17), .ref (m + 18), .int 0, .int 0, .int 0, .ref (m + 19), .ref (m + 20), .ref (m + 21), .ref (m + 22), .ref (m + 23), .ref (m + 24), .null, .null, .null, .int 0]) dX9_init_199 dX9_init_201 hC (by decide) (by decide) rfl (by decide) rfl fl_X9_80 fp_X9_80 (Nat.le_of_ble_eq_true rfl) rfl (fun _ => rfl) (fun _ => rfl) (Nat.le_of_ble_eq_true rfl) (Nat.le_of_ble_eq_true rfl) (fun G hC => ?_)
  refine q_aload_n dX9_init_204 rfl rfl ?_
  refine q_sipush (v := nI 4000) dX9_init_205 (by decide) ?_
  refine q_cnI (j := 24) (N := 4000) (f := 32) (ob2 := [.int 0, .ref (m + 1), .ref (m + 2), .ref (m + 3), .ref (m + 4), .ref (m + 5), .ref (m + 6), .ref (m + 7), .ref (m + 8), .ref (m + 9), .ref (m + 10), .ref (m + 11), .ref (m + 12), .ref (m + 13), .ref (m + 14), .ref (m + 15), .int 0, .int 0, .int 0, .int 0, .ref (m + 16), .ref (m + 17), .ref (m + 18), .int 0, .int 0, .int 0, .ref (m + 19), .ref (m + 20), .ref (m + 21), .ref (m + 22), .ref (m + 23), .ref (m + 24), .ref (m + 25), .null, .null, .int 0]) dX9_init_208 dX9_init_210 hC (by decide) (by decide) rfl (by decide) rfl fl_X9_83 fp_X9_83 (Nat.le_of_ble_eq_true rfl) rfl (fun _ => rfl) (fun _ => rfl) (Nat.le_of_ble_eq_true rfl) (Nat.le_of_ble_eq_true rfl) (fun G hC => ?_)
  refine q_aload_n dX9_init_213 rfl rfl ?_
  refine q_sipush (v := nI 4000) dX9_init_214 (by decide) ?_
  refine q_cnI (j := 25) (N := 4000) (f := 33) (ob2 := [.int 0, .ref (m + 1), .ref (m + 2), .ref (m + 3), .ref (m + 4), .ref (m + 5), .ref (m + 6), .ref (m + 7), .ref (m + 8), .ref (m + 9), .ref (m + 10), .ref (m + 11), .ref (m + 12), .ref (m + 13), .ref (m + 14), .ref (m + 15), .int 0, .int 0, .int 0, .int 0, .ref (m + 16), .ref (m + 17), .ref (m + 18), .int 0, .int 0, .int 0, .ref (m + 19), .ref (m + 20), .ref (m + 21), .ref (m + 22), .ref (m + 23), .ref (m + 24), .ref (m + 25), .ref (m + 26), .null, .int 0]) dX9_init_217 dX9_init_219 hC (by decide) (by decide) rfl (by decide) rfl fl_X9_86 fp_X9_86 (Nat.le_of_ble_eq_true rfl) rfl (fun _ => rfl) (fun _ => rfl) (Nat.le_of_ble_eq_true rfl) (Nat.le_of_ble_eq_true rfl) (fun G hC => ?_)
  refine q_aload_n dX9_init_222 rfl rfl ?_
  refine q_bipush (v := nI 64) dX9_init_223 (by decide) ?_
  refine q_cnI (j := 26) (N := 64) (f := 34) (ob2 := [.int 0, .ref (m + 1), .ref (m + 2), .ref (m + 3), .ref (m + 4), .ref (m + 5), .ref (m + 6), .ref (m + 7), .ref (m + 8), .ref (m + 9), .ref (m + 10), .ref (m + 11), .ref (m + 12), .ref (m + 13), .ref (m + 14), .ref (m + 15), .int 0, .int 0, .int 0, .int 0, .ref (m + 16), .ref (m + 17), .ref (m + 18), .int 0, .int 0, .int 0, .ref (m + 19), .ref (m + 20), .ref (m + 21), .ref (m + 22), .ref (m + 23), .ref (m + 24), .ref (m + 25), .ref (m + 26), .ref (m + 27), .int 0]) dX9_init_225 dX9_init_227 hC (by decide) (by decide) rfl (by decide) rfl fl_X9_89 fp_X9_89 (Nat.le_of_ble_eq_true rfl) rfl (fun _ => rfl) (fun _ => rfl) (Nat.le_of_ble_eq_true rfl) (Nat.le_of_ble_eq_true rfl) (fun G hC => ?_)
  exact q_return dX9_init_230 rfl ⟨rfl, rfl, hC.1, hC.2.1, hC.2.2, fun _ => Nat.zero_le _, fun k i => by unfold md_A0; split <;> decide⟩

/-! step, ways, settle: as relations -/
def D_ways (I : md_I) (A : md_A) (x y z : Int32) : Prop := (∃ p ln, D_line I A x y p ln ∧ z = nI (pz_W A p ln (fun x => A 8 (100 * p + x)))) ∨ (¬ (∃ p ln, D_line I A x y p ln) ∧ z = -1)
def D_step (I : md_I) (A : md_A) (x y z : Int32) (I2 : md_I) (A2 : md_A) : Prop := I2 = I ∧ ((∃ p ln, D_line I A x y p ln ∧ ((pz_W A p ln (fun x => A 8 (100 * p + x)) = 0 ∧ z = -2 ∧ A2 = A) ∨ (0 < pz_W A p ln (fun x => A 8 (100 * p + x)) ∧ z = nI (pz_gone A p ln (fun x => A 8 (100 * p + x))) ∧ A2 = md_cp A 8 (100 * p) (pz_stp A p ln (fun x => A 8 (100 * p + x))) (A 1 p * A 2 p)))) ∨ (¬ (∃ p ln, D_line I A x y p ln) ∧ z = -1 ∧ A2 = A))
def D_settle (I : md_I) (A : md_A) (x z : Int32) (I2 : md_I) (A2 : md_A) : Prop := I2 = I ∧ ((∃ p, p < I 0 ∧ x = nI p ∧ ((pz_st A p 401 (fun x => A 8 (100 * p + x)) = none ∧ z = -2 ∧ A2 = A) ∨ ∃ r S', pz_st A p 401 (fun x => A 8 (100 * p + x)) = some (r, S') ∧ z = nI r ∧ A2 = md_cp A 8 (100 * p) S' (A 1 p * A 2 p))) ∨ (¬ (∃ p, p < I 0 ∧ x = nI p) ∧ z = -1 ∧ A2 = A))

theorem d_X9_ways {T : q_T} {m : Nat} {G0 G : q_G} {I : md_I} {A : md_A} {sz t : Nat} (hM : Mod T m G0 I A G) (hI : Inv t I A) (x y : Int32) : q_C T mX9_ways 3 74 0 0 [.ref m, .int x, .int y] G sz (fun v G' sz' => sz = sz' ∧ ∃ (I' : md_I) (A' : md_A), Mod T m G0 I' A' G' ∧ ∃ (z : Int32) (I2 : md_I) (A2 : md_A), v = some (.int z) ∧ (I2 = I ∧ A2 = A ∧ D_ways I A x y z) ∧ Per I2 I' A2 A') :=
  (c_X9_ways hM hI x y).mono (fun v G' sz' h => by
    obtain ⟨h0, I', A', h1, ⟨p, ln, e1, e2, e3, e4, rfl, hp⟩ | ⟨hn, rfl, hp⟩⟩ := h
    · exact ⟨h0, I', A', h1, _, I, A, rfl, ⟨rfl, rfl, Or.inl ⟨p, ln, ⟨e1, e2, e3, e4⟩, rfl⟩⟩, hp⟩
    · exact ⟨h0, I', A', h1, _, I, A, rfl, ⟨rfl, rfl, Or.inr ⟨fun ⟨p, ln, h⟩ => hn ⟨p, ln, h⟩, rfl⟩⟩, hp⟩)

theorem d_X9_step {T : q_T} {m : Nat} {G0 G : q_G} {I : md_I} {A : md_A} {sz t : Nat} (hM : Mod T m G0 I A G) (hI : Inv t I A) (x y : Int32) : q_C T mX9_step 4 101 0 0 [.ref m, .int x, .int y] G sz (fun v G' sz' => sz = sz' ∧ ∃ (I' : md_I) (A' : md_A), Mod T m G0 I' A' G' ∧ ∃ (z : Int32) (I2 : md_I) (A2 : md_A), v = some (.int z) ∧ D_step I A x y z I2 A2 ∧ Per I2 I' A2 A') :=
  (c_X9_step hM hI x y).mono (fun v G' sz' h => by
    obtain ⟨h0, I', A', h1, ⟨p, ln, e1, e2, e3, e4, ⟨hw, rfl, hp⟩ | ⟨hw, rfl, hp⟩⟩ | ⟨hn, rfl, hp⟩⟩ := h
    · exact ⟨h0, I', A', h1, _, I, _, rfl, ⟨rfl, Or.inl ⟨p, ln, ⟨e1, e2, e3, e4⟩, Or.inl ⟨hw, rfl, rfl⟩⟩⟩, hp⟩
    · exact ⟨h0, I', A', h1, _, I, _, rfl, ⟨rfl, Or.inl ⟨p, ln, ⟨e1, e2, e3, e4⟩, Or.inr ⟨hw, rfl, rfl⟩⟩⟩, hp⟩
    · exact ⟨h0, I', A', h1, _, I, A, rfl, ⟨rfl, Or.inr ⟨fun ⟨p, ln, h⟩ => hn ⟨p, ln, h⟩, rfl, rfl⟩⟩, hp⟩)

theorem d_X9_settle {T : q_T} {m : Nat} {G0 G : q_G} {I : md_I} {A : md_A} {sz t : Nat} (hM : Mod T m G0 I A G) (hI : Inv t I A) (x : Int32) : q_C T mX9_settle 5 128 0 0 [.ref m, .int x] G sz (fun v G' sz' => sz = sz' ∧ ∃ (I' : md_I) (A' : md_A), Mod T m G0 I' A' G' ∧ ∃ (z : Int32) (I2 : md_I) (A2 : md_A), v = some (.int z) ∧ D_settle I A x z I2 A2 ∧ Per I2 I' A2 A') :=
  (c_X9_settle hM hI x).mono (fun v G' sz' h => by
    obtain ⟨h0, I', A', h1, ⟨p, e1, e2, ⟨hw, rfl, hp⟩ | ⟨r, S', hw, rfl, hp⟩⟩ | ⟨hn, rfl, hp⟩⟩ := h
    · exact ⟨h0, I', A', h1, _, I, _, rfl, ⟨rfl, Or.inl ⟨p, e1, e2, Or.inl ⟨hw, rfl, rfl⟩⟩⟩, hp⟩
    · exact ⟨h0, I', A', h1, _, I, _, rfl, ⟨rfl, Or.inl ⟨p, e1, e2, Or.inr ⟨r, S', hw, rfl, rfl⟩⟩⟩, hp⟩
    · exact ⟨h0, I', A', h1, _, I, A, rfl, ⟨rfl, Or.inr ⟨fun ⟨p, h1, h2⟩ => hn ⟨p, h1, h2⟩, rfl, rfl⟩⟩, hp⟩)
