/-! ROWS FOR THE TEXT BUILDER: statics, cells ahead of ours, a super's method, a private method of the super -/
theorem su_J4 : Cond.superclass RJ4 RJ5 ∈ q_gw := List.mem_filter.mpr ⟨List.mem_of_getElem? (i := 108) (by decide +kernel), by decide +kernel⟩
theorem in_J5 : Cond.initialized RJ5 ∈ q_gw := List.mem_filter.mpr ⟨List.mem_of_getElem? (i := 46) (by decide +kernel), by decide +kernel⟩
theorem pr_J5_ens : Cond.selects RJ4 yJ5_ensureCapacityInternal_d00df yJ5_ensureCapacityInternal_d00df ∈ q_nw := List.mem_of_getElem? (i := 7) rfl
theorem pr_J5_new : Cond.selects RJ4 yJ5_newCapacity_0f7a4 yJ5_newCapacity_0f7a4 ∈ q_nw := List.mem_of_getElem? (i := 8) rfl
theorem sj_J5_isLatin1_aae02 : Cond.selects RJ4 yJ5_isLatin1_aae02 yJ5_isLatin1_aae02 ∈ q_gw := List.mem_filter.mpr ⟨List.mem_of_getElem? (i := 777) (by decide +kernel), by decide +kernel⟩
theorem sm_J5_setLength_d00df : Cond.sameMethod RJ5 RJ5 "setLength" "(I)V" ∈ q_gw := List.mem_filter.mpr ⟨List.mem_of_getElem? (i := 1267) (by decide +kernel), by decide +kernel⟩
theorem sm_J5_append_3fe6f : Cond.sameMethod RJ5 RJ5 "append" "(C)Ljava/lang/AbstractStringBuilder;" ∈ q_gw := List.mem_filter.mpr ⟨List.mem_of_getElem? (i := 1270) (by decide +kernel), by decide +kernel⟩
theorem sm_J5_append_c97b9 : Cond.sameMethod RJ5 RJ5 "append" "(I)Ljava/lang/AbstractStringBuilder;" ∈ q_gw := List.mem_filter.mpr ⟨List.mem_of_getElem? (i := 1272) (by decide +kernel), by decide +kernel⟩
theorem sm_J5_length_8abf5 : Cond.sameMethod RJ5 RJ5 "length" "()I" ∈ q_gw := List.mem_filter.mpr ⟨List.mem_of_getElem? (i := 1273) (by decide +kernel), by decide +kernel⟩
theorem sm_J5_charAt_5068e : Cond.sameMethod RJ5 RJ5 "charAt" "(I)C" ∈ q_gw := List.mem_filter.mpr ⟨List.mem_of_getElem? (i := 1274) (by decide +kernel), by decide +kernel⟩
theorem gs_J5_18 : Cond.fieldLink RJ5 18 "java/lang/String" "COMPACT_STRINGS" "Z" ∈ q_gw := List.mem_filter.mpr ⟨List.mem_of_getElem? (i := 87) (by decide +kernel), by decide +kernel⟩
theorem gs_J0_1053 : Cond.fieldLink RJ0 1053 "jdk/internal/util/Preconditions" "SIOOBE_FORMATTER" "Ljava/util/function/BiFunction;" ∈ q_gw := List.mem_filter.mpr ⟨List.mem_of_getElem? (i := 821) (by decide +kernel), by decide +kernel⟩
theorem gs_J6_83 : Cond.fieldLink RJ6 83 "java/lang/Integer" "DigitOnes" "[B" ∈ q_gw := List.mem_filter.mpr ⟨List.mem_of_getElem? (i := 860) (by decide +kernel), by decide +kernel⟩
theorem gs_J6_87 : Cond.fieldLink RJ6 87 "java/lang/Integer" "DigitTens" "[B" ∈ q_gw := List.mem_filter.mpr ⟨List.mem_of_getElem? (i := 862) (by decide +kernel), by decide +kernel⟩
section y_rows
variable {T : q_T} {M M' : q_M} {fr lo pc fr' lo' mc ms n idx : Nat} {ls : List (Option Value)} {st rest : List Value} {G : q_G} {sz bc bs : Nat} {E : q_E} {As : List Value}
theorem q_gets {C nm d : String} {v : Value} (hd : decode M.2.2.1 pc = .ok (.getstatic idx, 3)) (hl : Cond.fieldLink M.1 idx C nm d ∈ q_gw) (hZ : ∀ s : State, q_K T s → va_Z C nm d v (q_own T) s s.heap) (h : q_R T M fr lo (pc + 3) ls (v :: st) G sz bc bs E) : q_R T M fr lo pc ls st G sz bc bs E :=
  h.go fun p e R s m args below meth c Q H locs cells slots lsA hB hH hL kk => by
    obtain ⟨b1, b2, b3, b4, b5, b6, b7, b8, b9⟩ := hB
    exact va_gets b1 b2 (hZ s b8) hH.2.2 b5 (b6 _ hl) (fun x hx => hx) hd kk
theorem q_getsC (hd : decode M.2.2.1 pc = .ok (.getstatic idx, 3)) (hl : Cond.fieldLink M.1 idx "java/lang/String" "COMPACT_STRINGS" "Z" ∈ q_gw) (h : q_R T M fr lo (pc + 3) ls (.int (nI 1) :: st) G sz bc bs E) : q_R T M fr lo pc ls st G sz bc bs E := q_gets hd hl (fun s hs => hs.2.2.2.1.1) h
theorem q_getsO (hd : decode M.2.2.1 pc = .ok (.getstatic idx, 3)) (hl : Cond.fieldLink M.1 idx "java/lang/Integer" "DigitOnes" "[B" ∈ q_gw) (h : q_R T M fr lo (pc + 3) ls (.ref T.2.2.2.2.2.1 :: st) G sz bc bs E) : q_R T M fr lo pc ls st G sz bc bs E := q_gets hd hl (fun s hs => hs.2.2.2.1.2.1) h
theorem q_getsT (hd : decode M.2.2.1 pc = .ok (.getstatic idx, 3)) (hl : Cond.fieldLink M.1 idx "java/lang/Integer" "DigitTens" "[B" ∈ q_gw) (h : q_R T M fr lo (pc + 3) ls (.ref T.2.2.2.2.2.2 :: st) G sz bc bs E) : q_R T M fr lo pc ls st G sz bc bs E := q_gets hd hl (fun s hs => hs.2.2.2.1.2.2.1) h
theorem q_getsQ (hd : decode M.2.2.1 pc = .ok (.getstatic idx, 3)) (hl : Cond.fieldLink M.1 idx "jdk/internal/util/Preconditions" "SIOOBE_FORMATTER" "Ljava/util/function/BiFunction;" ∈ q_gw) (h : ∀ r : Option Nat, q_R T M fr lo (pc + 3) ls (va_rf r :: st) G sz bc bs E) : q_R T M fr lo pc ls st G sz bc bs E := by
  intro p e R s m args below meth c Q H locs cells slots lsA hB hF hH hL k1 k2
  have hB' := hB
  obtain ⟨b1, b2, b3, b4, b5, b6, b7, b8, b9⟩ := hB'
  rcases b8.2.2.2.2.1 with hz | ⟨t, hz⟩
  · exact va_gets b1 b2 hz hH.2.2 b5 (b6 _ hl) (fun x hx => hx) hd (h none p e R s m args below meth c Q H locs cells slots lsA hB hF hH hL k1 k2)
  · exact va_gets b1 b2 hz hH.2.2 b5 (b6 _ hl) (fun x hx => hx) hd (h (some t) p e R s m args below meth c Q H locs cells slots lsA hB hF hH hL k1 k2)
/-- a table ahead of ours -/
theorem q_fbaload {a N k : Nat} {f : Nat → Int32} {i v : Int32} (hd : decode M.2.2.1 pc = .ok (.baload, 1)) (hX : T.2.2.2.2.1 a = some (.byte, N, f)) (hi : i = nI k) (hk : k < N) (hn : N < 2 ^ 31) (hv : f k = v) (h : q_R T M fr lo (pc + 1) ls (.int v :: st) G sz bc bs E) : q_R T M fr lo pc ls (.int i :: .ref a :: st) G sz bc bs E := by
  subst hi; subst hv
  exact h.go fun p e R s m args below meth c Q H locs cells slots lsA hB hH hL kk => by
    have hc : (nI k).toNatClampNeg = k := nI_clamp (by omega)
    have hK := hB.2.2.2.2.2.2.2.1
    exact va_tb hB.1 hB.2.1 (hK.2.2.2.1.2.2.2 a _ hX) hH.2.2 (vp_in_nI hk hn) (show Value.int (f (nI k).toNatClampNeg) = .int (f k) by rw [hc]) hd kk
theorem q_fiaload {a N k : Nat} {f : Nat → Int32} {i v : Int32} (hd : decode M.2.2.1 pc = .ok (.iaload, 1)) (hX : T.2.2.2.2.1 a = some (.int, N, f)) (hi : i = nI k) (hk : k < N) (hn : N < 2 ^ 31) (hv : f k = v) (h : q_R T M fr lo (pc + 1) ls (.int v :: st) G sz bc bs E) : q_R T M fr lo pc ls (.int i :: .ref a :: st) G sz bc bs E := by
  subst hi; subst hv
  exact h.go fun p e R s m args below meth c Q H locs cells slots lsA hB hH hL kk => by
    have hc : (nI k).toNatClampNeg = k := nI_clamp (by omega)
    have hK := hB.2.2.2.2.2.2.2.1
    exact va_ti hB.1 hB.2.1 (hK.2.2.2.1.2.2.2 a _ hX) hH.2.2 (vp_in_nI hk hn) (show Value.int (f (nI k).toNatClampNeg) = .int (f k) by rw [hc]) hd kk
theorem q_falen {a N : Nat} {ty : FieldType} {f : Nat → Int32} {v : Int32} (hd : decode M.2.2.1 pc = .ok (.arraylength, 1)) (hX : T.2.2.2.2.1 a = some (ty, N, f)) (hv : nI N = v) (h : q_R T M fr lo (pc + 1) ls (.int v :: st) G sz bc bs E) : q_R T M fr lo pc ls (.ref a :: st) G sz bc bs E :=
  h.go fun p e R s m args below meth c Q H locs cells slots lsA hB hH hL kk => va_tlen hB.1 hB.2.1 (hB.2.2.2.2.2.2.2.1.2.2.2.1.2.2.2 a _ hX) hH.2.2 hv hd kk
theorem w_newB {n : Int32} {N : Nat} (hd : decode M.2.2.1 pc = .ok (.newarray .byte, 2)) (hn : n = nI N) (hN : N ≤ 100000) (h1 : 1 ≤ bc) (h2 : N ≤ bs) (h : ∀ G1 : q_G, G1 sz = some (q_ba T N (fun _ => 0)) → (∀ b, b ≠ sz → G1 b = G b) → q_R T M fr lo (pc + 2) ls (.ref sz :: st) G1 (sz + 1) (bc - 1) (bs - N) E) : q_R T M fr lo pc ls (.int n :: st) G sz bc bs E :=
  q_newB hd hn hN h1 h2 ac_byte (h _ q_up_s (fun b hb => q_up_n hb))
/-- a method of the super, called by name of the super -/
theorem q_isu {b ci : Nat} {C : String} {Tt : u_T} {N : Nat} {fs : List Value} (hd : decode M.2.2.1 pc = .ok (.invokespecial idx, 3)) (hl : Cond.methodLink M.1 idx M'.2.1 ∈ q_gw) (hm : q_MT M' n) (hi : Cond.instanceMethod M'.2.1 ∈ q_gw) (hsm : Cond.sameMethod M'.2.1.cls M'.2.1.cls M'.2.1.name M'.2.1.desc ∈ q_gw) (hsu : Cond.superclass M.1 M'.2.1.cls ∈ q_gw) (hno : M'.2.1.name ≠ "<init>") (hb : G b = some (q_ob ci fs)) (hc : vwCl[ci]? = some (C, Tt, N)) (hn : As.length = n) (hfr : fr' + 1 ≤ fr) (hlo : lo' + M'.2.2.2.1 + 19 ≤ lo) (hmc : mc ≤ bc) (hms : ms ≤ bs) (hst : (rest.map fun v => v.category).sum ≤ 8)
    (h : q_C T M' fr' lo' mc ms (.ref b :: As) G sz (fun v G' sz' => q_R T M fr lo (pc + 3) ls (v.toList ++ rest) G' sz' (bc - mc) (bs - ms) E)) : q_R T M fr lo pc ls (As.reverse ++ .ref b :: rest) G sz bc bs E := by
  intro p e R s m args below meth c Q H locs cells slots lsA hB hF hH hL k1 k2
  have hts := hB.2.2.2.2.2.1
  have hK := hB.2.2.2.2.2.2.2.1
  have hfr2 := hB.2.2.2.2.2.2.2.2.1
  have hlo2 := hB.2.2.2.2.2.2.2.2.2
  have hp := q_prS (As := .ref b :: As) hK hH
  have hg : GoodIn q_gw (va_wsSU M.1 idx M'.2.1 (q_ws M')) := fun w hw => by
    have hw2 : w ∈ q_gw := by
      simp only [va_wsSU, List.mem_append, List.mem_cons, List.not_mem_nil, or_false] at hw
      rcases hw with (rfl | rfl | rfl | rfl | rfl) | hw
      · exact hl
      · exact hsm
      · exact hsu
      · exact hi
      · exact hm.2.1
      · exact (q_goodIn hm w hw).1
    exact ⟨hw2, good_of_word (q_gw_good hw2)⟩
  exact q_after hB hF hH hL k1 k2 hmc hms (va_runSU (hK.1.1 ci _ hc).2 ⟨hB.1, hB.2.1, hB.2.2.1, hB.2.2.2.2.1, hts⟩ h (va_cwSU n hts hg rfl rfl rfl ⟨hno, hm.2.2.2.2⟩ ⟨by show fr' + 1 ≤ _; omega, by show 8 + (_ + 11) + lo' ≤ _; omega⟩) ⟨hp.1, va_recv hK.1 (hH.2.1.one hb) hc (q0 := 0) rfl, hp.2⟩ rfl hn hL.1 rfl (by simpa [JFrame.monitorRoom] using hst) hd ⟨by omega, by omega⟩)
/-- a private method of the super on an object of the class -/
theorem q_ivp {b : Nat} {fs : List Value} (hd : decode M.2.2.1 pc = .ok (.invokevirtual idx, 3)) (hl : Cond.methodLink M.1 idx M'.2.1 ∈ q_gw) (hm : q_MT M' n) (hi : Cond.instanceMethod M'.2.1 ∈ q_gw) (hpr : Cond.selects RJ4 M'.2.1 M'.2.1 ∈ q_nw) (hb : G b = some (q_ob 0 fs)) (hn : As.length = n) (hfr : fr' + 1 ≤ fr) (hlo : lo' + M'.2.2.2.1 + 19 ≤ lo) (hmc : mc ≤ bc) (hms : ms ≤ bs) (hst : (rest.map fun v => v.category).sum ≤ 8)
    (h : q_C T M' fr' lo' mc ms (.ref b :: As) G sz (fun v G' sz' => q_R T M fr lo (pc + 3) ls (v.toList ++ rest) G' sz' (bc - mc) (bs - ms) E)) : q_R T M fr lo pc ls (As.reverse ++ .ref b :: rest) G sz bc bs E := by
  intro p e R s m args below meth c Q H locs cells slots lsA hB hF hH hL k1 k2
  have hts := hB.2.2.2.2.2.1
  have hK := hB.2.2.2.2.2.2.2.1
  have hfr2 := hB.2.2.2.2.2.2.2.2.1
  have hlo2 := hB.2.2.2.2.2.2.2.2.2
  have hp := q_prS (As := .ref b :: As) hK hH
  have hsel : (Cond.selects RJ4 M'.2.1 M'.2.1).before args s = true := va_tabs rfl rfl (hK.2.1 _ hpr)
  exact q_after hB hF hH hL k1 k2 hmc hms (va_runV (C := RJ4) ⟨hB.1, hB.2.1, hB.2.2.1, hB.2.2.2.2.1, hts⟩ h ⟨callB_of n hts (q_goodIn hm) rfl rfl rfl (hts _ hm.2.1) (hts _ hl) hm.2.2 ⟨by show fr' + 1 ≤ _; omega, by show 8 + (_ + 11) + lo' ≤ _; omega⟩, hts _ hi, hsel⟩ ⟨hp.1, va_recv hK.1 (hH.2.1.one hb) (show vwCl[0]? = some (RJ4, TJ4, 4) from rfl) (q0 := 0) rfl, hp.2⟩ rfl hn hL.1 rfl (by simpa [JFrame.monitorRoom] using hst) hd ⟨by omega, by omega⟩)
theorem y_max {x y : Nat} (hx : x < 2 ^ 31) (hy : y < 2 ^ 31) : (if nI x < nI y then nI y else nI x) = nI (max x y) := by
  have hi : nI x < nI y ↔ x < y := by rw [Int32.lt_iff_toInt_lt, nI_toInt hx, nI_toInt hy]; omega
  by_cases h : x < y
  · rw [if_pos (hi.mpr h), Nat.max_eq_right (by omega)]
  · rw [if_neg (fun g => h (hi.mp g)), Nat.max_eq_left (by omega)]
theorem y_min {x y : Nat} (hx : x < 2 ^ 31) (hy : y < 2 ^ 31) : (if nI y < nI x then nI y else nI x) = nI (min x y) := by
  have hi : nI y < nI x ↔ y < x := by rw [Int32.lt_iff_toInt_lt, nI_toInt hx, nI_toInt hy]; omega
  by_cases h : y < x
  · rw [if_pos (hi.mpr h), Nat.min_eq_right (by omega)]
  · rw [if_neg (fun g => h (hi.mp g)), Nat.min_eq_left (by omega)]
theorem q_mmax {x y : Nat} (hd : decode M.2.2.1 pc = .ok (.invokestatic idx, 3)) (hl : Cond.methodLink M.1 idx yJ9_max_7cf53 ∈ q_gw) (hx : x < 2 ^ 31) (hy : y < 2 ^ 31) (hfr : 1 ≤ fr) (hlo : 21 ≤ lo) (hst : (rest.map fun v => v.category).sum ≤ 8) (h : ∀ r : Nat, r = max x y → q_R T M fr lo (pc + 3) ls (.int (nI r) :: rest) G sz bc bs E) : q_R T M fr lo pc ls (.int (nI y) :: .int (nI x) :: rest) G sz bc bs E := by
  intro p e R s m args below meth c Q H locs cells slots lsA hB hF hH hL k1 k2
  have hts := hB.2.2.2.2.2.1
  have hfr2 := hB.2.2.2.2.2.2.2.2.1
  have hlo2 := hB.2.2.2.2.2.2.2.2.2
  have hc1 : Cond.code Lib.Math.max.name Lib.Math.max.code 2 (some .int) ∈ q_gw := mt_J9_max_7cf53.1
  exact va_mmax hB.1 hB.2.1 (hB.2.2.1.trans hL.1.symm) hB.2.2.2.2.1 (hts _ hl) (hts _ ms_J9_max_7cf53) (hts _ mt_J9_max_7cf53.2.1) (hts _ hc1) (by omega) (by omega) (by omega) (by omega) hd (by rw [y_max hx hy]; exact h _ rfl p e R s m args below meth c Q H locs cells slots lsA hB hF hH hL k1 k2)
theorem q_mmin {x y : Nat} (hd : decode M.2.2.1 pc = .ok (.invokestatic idx, 3)) (hl : Cond.methodLink M.1 idx yJ9_min_7cf53 ∈ q_gw) (hx : x < 2 ^ 31) (hy : y < 2 ^ 31) (hfr : 1 ≤ fr) (hlo : 21 ≤ lo) (hst : (rest.map fun v => v.category).sum ≤ 8) (h : ∀ r : Nat, r = min x y → q_R T M fr lo (pc + 3) ls (.int (nI r) :: rest) G sz bc bs E) : q_R T M fr lo pc ls (.int (nI y) :: .int (nI x) :: rest) G sz bc bs E := by
  intro p e R s m args below meth c Q H locs cells slots lsA hB hF hH hL k1 k2
  have hts := hB.2.2.2.2.2.1
  have hfr2 := hB.2.2.2.2.2.2.2.2.1
  have hlo2 := hB.2.2.2.2.2.2.2.2.2
  have hc1 : Cond.code Lib.Math.min.name Lib.Math.min.code 2 (some .int) ∈ q_gw := mt_J9_min_7cf53.1
  exact va_mmin hB.1 hB.2.1 (hB.2.2.1.trans hL.1.symm) hB.2.2.2.2.1 (hts _ hl) (hts _ ms_J9_min_7cf53) (hts _ mt_J9_min_7cf53.2.1) (hts _ hc1) (by omega) (by omega) (by omega) (by omega) hd (by rw [y_min hx hy]; exact h _ rfl p e R s m args below meth c Q H locs cells slots lsA hB hF hH hL k1 k2)
end y_rows
