/-! rows of calls -/
/-- what the tables say of a method that is called: its code; its class can be used; n parameters -/
def q_MT (M : q_M) (n : Nat) : Prop := Cond.code M.2.1 M.2.2.1 M.2.2.2.1 M.2.2.2.2 ∈ q_gw ∧ Cond.initialized M.2.1.cls ∈ q_gw ∧ M.2.1.cls ≠ "java/lang/invoke/MethodHandle" ∧ M.2.1.cls ≠ "java/lang/invoke/VarHandle" ∧ (parseMethodDescriptor M.2.1.desc).map (fun d => d.parameters.length) = some n
theorem q_gw_good {w : Cond} (h : w ∈ q_gw) : goodWord w = true := (List.mem_filter.mp h).2
theorem q_goodIn {M : q_M} {n : Nat} (h : q_MT M n) : GoodIn q_gw (q_ws M) := fun w hw => by
  rcases List.mem_cons.mp hw with rfl | hw
  · exact ⟨h.1, good_of_word (q_gw_good h.1)⟩
  · exact ⟨hw, good_of_word (q_gw_good hw)⟩
section q_calls
variable {T : q_T} {M M' : q_M} {fr lo pc fr' lo' mc ms n idx : Nat} {ls : List (Option Value)} {rest : List Value} {G : q_G} {sz bc bs : Nat} {E : q_E} {As : List Value}
/-- behind a call -/
theorem q_after {p : Program} {e : Env} {R : Room} {s : State} {m : MethodId} {args : Array Value} {below : List Frame} {meth : Method} {c : Code} {Q : State → Prop} {H : Heap} {locs : List Loc} {cells slots : Nat} {lsA : Array Slot} {a : Array Value} {st0 : List Value}
    (hB : q_B T M fr lo p R s m args meth c) (hF : q_F T M E p e R s m args below meth c Q) (hH : q_H T s G sz H locs) (hL : q_L M.2.2.2.1 ls lsA) (k1 : cells + bc ≤ R.cells) (k2 : slots + bs ≤ R.slots) (hmc : mc ≤ bc) (hms : ms ≤ bs)
    (hr : va_Run p T.1 e R s m args below meth c H locs cells slots mc ms (F0 m pc lsA st0) rest (q_post T (fun v G' sz' => q_R T M fr lo (pc + 3) ls (v.toList ++ rest) G' sz' (bc - mc) (bs - ms) E) a) (q_own T)) : W p T.1 e R s m args below meth c H locs cells slots Q (F0 m pc lsA st0) := by
  intro T0 hT X
  obtain ⟨v, st₀, t, T', L, h0, X', hLc, e1, e2, ⟨v', G', sz', q1, q2, q3, q4, q5⟩, st⟩ := hr T0 hT X
  cases q1
  have hS : va_S (q_own T) s.heap T'.heap (locs ++ L) := by
    obtain ⟨f1, f2⟩ := q5
    rw [h0] at f1 f2
    refine ⟨Nat.le_trans hH.2.2.1 (by rw [e1]; exact f1), fun q g1 g2 => ?_, fun q hq => ?_⟩
    · rw [e1, f2 q (Nat.lt_of_lt_of_le g1 hH.2.2.1) g2]; exact hH.2.2.2.1 q g1 g2
    · rcases List.mem_append.mp hq with h | h
      · exact hH.2.2.2.2 q h
      · exact hLc q h
  obtain ⟨t2, a1, b1⟩ := q2 p e R s m args below meth c Q T'.heap (locs ++ L) (cells + mc) (slots + ms) lsA hB hF ⟨by rw [e1]; exact q3, by rw [e1]; exact q4, hS⟩ hL (by omega) (by omega) T' rfl X'
  exact ⟨t2, st t2 a1, b1⟩
theorem q_prS {s : State} {H : Heap} {locs : List Loc} (hK : q_K T s) (hH : q_H T s G sz H locs) : PreS s H (va_Pc As (q_pre T G sz)) As :=
  ⟨q_pre_blind T As G sz, fun U hU hW => ⟨rfl, by rw [hU]; exact hH.1, by rw [hU]; exact hH.2.1, hK.call hH.2.2 hU hW⟩⟩
theorem q_iv {b ci : Nat} {C : String} {Tt : u_T} {N : Nat} {fs : List Value} (hd : decode M.2.2.1 pc = .ok (.invokevirtual idx, 3)) (hl : Cond.methodLink M.1 idx M'.2.1 ∈ q_gw) (hm : q_MT M' n) (hi : Cond.instanceMethod M'.2.1 ∈ q_gw) (hs : Cond.selects C M'.2.1 M'.2.1 ∈ q_gw) (hb : G b = some (q_ob ci fs)) (hc : vwCl[ci]? = some (C, Tt, N)) (hn : As.length = n) (hfr : fr' + 1 ≤ fr) (hlo : lo' + M'.2.2.2.1 + 19 ≤ lo) (hmc : mc ≤ bc) (hms : ms ≤ bs) (hst : (rest.map fun v => v.category).sum ≤ 8)
    (h : q_C T M' fr' lo' mc ms (.ref b :: As) G sz (fun v G' sz' => q_R T M fr lo (pc + 3) ls (v.toList ++ rest) G' sz' (bc - mc) (bs - ms) E)) : q_R T M fr lo pc ls (As.reverse ++ .ref b :: rest) G sz bc bs E := by
  intro p e R s m args below meth c Q H locs cells slots lsA hB hF hH hL k1 k2
  have hts := hB.2.2.2.2.2.1
  have hK := hB.2.2.2.2.2.2.2.1
  have hfr2 := hB.2.2.2.2.2.2.2.2.1
  have hlo2 := hB.2.2.2.2.2.2.2.2.2
  have hp := q_prS (As := .ref b :: As) hK hH
  exact q_after hB hF hH hL k1 k2 hmc hms (va_runV ⟨hB.1, hB.2.1, hB.2.2.1, hB.2.2.2.2.1, hts⟩ h ⟨callB_of n hts (q_goodIn hm) rfl rfl rfl (hts _ hm.2.1) (hts _ hl) hm.2.2 ⟨by show fr' + 1 ≤ _; omega, by show 8 + (_ + 11) + lo' ≤ _; omega⟩, hts _ hi, hts _ hs⟩ ⟨hp.1, va_recv hK.1 (hH.2.1.one hb) hc (q0 := 0) rfl, hp.2⟩ rfl hn hL.1 rfl (by simpa [JFrame.monitorRoom] using hst) hd ⟨by omega, by omega⟩)
theorem q_is (hd : decode M.2.2.1 pc = .ok (.invokestatic idx, 3)) (hl : Cond.methodLink M.1 idx M'.2.1 ∈ q_gw) (hm : q_MT M' n) (hi : Cond.static M'.2.1 ∈ q_gw) (hn : As.length = n) (hfr : fr' + 1 ≤ fr) (hlo : lo' + M'.2.2.2.1 + 19 ≤ lo) (hmc : mc ≤ bc) (hms : ms ≤ bs) (hst : (rest.map fun v => v.category).sum ≤ 8)
    (h : q_C T M' fr' lo' mc ms As G sz (fun v G' sz' => q_R T M fr lo (pc + 3) ls (v.toList ++ rest) G' sz' (bc - mc) (bs - ms) E)) : q_R T M fr lo pc ls (As.reverse ++ rest) G sz bc bs E := by
  intro p e R s m args below meth c Q H locs cells slots lsA hB hF hH hL k1 k2
  have hts := hB.2.2.2.2.2.1
  have hK := hB.2.2.2.2.2.2.2.1
  have hfr2 := hB.2.2.2.2.2.2.2.2.1
  have hlo2 := hB.2.2.2.2.2.2.2.2.2
  exact q_after hB hF hH hL k1 k2 hmc hms (va_runS ⟨hB.1, hB.2.1, hB.2.2.1, hB.2.2.2.2.1, hts⟩ h ⟨callB_of n hts (q_goodIn hm) rfl rfl rfl (hts _ hm.2.1) (hts _ hl) hm.2.2 ⟨by show fr' + 1 ≤ _; omega, by show 8 + (_ + 11) + lo' ≤ _; omega⟩, hts _ hi⟩ (q_prS hK hH) rfl hn hL.1 rfl (by simpa [JFrame.monitorRoom] using hst) hd ⟨by omega, by omega⟩)
theorem q_isN {host : String} (hd : decode M.2.2.1 pc = .ok (.invokestatic idx, 3)) (hl : Cond.methodLinkNest M.1 idx M'.2.1 host ∈ q_nw) (hm : q_MT M' n) (hi : Cond.static M'.2.1 ∈ q_gw) (hn : As.length = n) (hfr : fr' + 1 ≤ fr) (hlo : lo' + M'.2.2.2.1 + 19 ≤ lo) (hmc : mc ≤ bc) (hms : ms ≤ bs) (hst : (rest.map fun v => v.category).sum ≤ 8)
    (h : q_C T M' fr' lo' mc ms As G sz (fun v G' sz' => q_R T M fr lo (pc + 3) ls (v.toList ++ rest) G' sz' (bc - mc) (bs - ms) E)) : q_R T M fr lo pc ls (As.reverse ++ rest) G sz bc bs E := by
  intro p e R s m args below meth c Q H locs cells slots lsA hB hF hH hL k1 k2
  have hts := hB.2.2.2.2.2.1
  have hK := hB.2.2.2.2.2.2.2.1
  have hfr2 := hB.2.2.2.2.2.2.2.2.1
  have hlo2 := hB.2.2.2.2.2.2.2.2.2
  exact q_after hB hF hH hL k1 k2 hmc hms (va_runSN ⟨hB.1, hB.2.1, hB.2.2.1, hB.2.2.2.2.1, hts⟩ h ⟨va_cnB n hts (q_goodIn hm) rfl rfl rfl (hK.2.1 _ hl) (hts _ hm.2.1) hm.2.2 ⟨by show fr' + 1 ≤ _; omega, by show 8 + (_ + 11) + lo' ≤ _; omega⟩, hts _ hi, trivial⟩ (q_prS hK hH) rfl hn hL.1 rfl (by simpa [JFrame.monitorRoom] using hst) hd ⟨by omega, by omega⟩)
theorem q_ii {b : Nat} (hd : decode M.2.2.1 pc = .ok (.invokespecial idx, 3)) (hl : Cond.methodLink M.1 idx M'.2.1 ∈ q_gw) (hm : q_MT M' n) (hret : M'.2.2.2.2 = none) (hi : Cond.instanceMethod M'.2.1 ∈ q_gw) (hnm : M'.2.1.name = "<init>") (hn : As.length = n) (hfr : fr' + 1 ≤ fr) (hlo : lo' + M'.2.2.2.1 + 19 ≤ lo) (hmc : mc ≤ bc) (hms : ms ≤ bs) (hst : (rest.map fun v => v.category).sum ≤ 8)
    (h : q_C T M' fr' lo' mc ms (.ref b :: As) G sz (fun v G' sz' => q_R T M fr lo (pc + 3) ls (v.toList ++ rest) G' sz' (bc - mc) (bs - ms) E)) : q_R T M fr lo pc ls (As.reverse ++ .ref b :: rest) G sz bc bs E := by
  obtain ⟨C', y', cc', mL', ret'⟩ := M'
  dsimp only at hret
  subst hret
  intro p e R s m args below meth c Q H locs cells slots lsA hB hF hH hL k1 k2
  have hts := hB.2.2.2.2.2.1
  have hK := hB.2.2.2.2.2.2.2.1
  have hfr2 := hB.2.2.2.2.2.2.2.2.1
  have hlo2 := hB.2.2.2.2.2.2.2.2.2
  exact q_after hB hF hH hL k1 k2 hmc hms (va_runI ⟨hB.1, hB.2.1, hB.2.2.1, hB.2.2.2.2.1, hts⟩ h ⟨callB_of n hts (q_goodIn hm) rfl rfl rfl (hts _ hm.2.1) (hts _ hl) hm.2.2 ⟨by show fr' + 1 ≤ _; omega, by show 8 + (mL' + 11) + lo' ≤ _; dsimp only at hlo; omega⟩, hnm, hts _ hi⟩ (q_prS hK hH) rfl hn hL.1 rfl (by simpa [JFrame.monitorRoom] using hst) hd ⟨by omega, by omega⟩)
theorem q_oi {b : Nat} (hd : decode M.2.2.1 pc = .ok (.invokespecial idx, 3)) (hl : Cond.methodLink M.1 idx objectInit ∈ q_gw) (hi : Cond.instanceMethod objectInit ∈ q_gw) (hc : Cond.code objectInit ⟨#[0xb1]⟩ 1 none ∈ q_gw) (hfr : 1 ≤ fr) (hlo : 20 ≤ lo) (hst : (rest.map fun v => v.category).sum ≤ 8) (h : q_R T M fr lo (pc + 3) ls rest G sz bc bs E) : q_R T M fr lo pc ls (.ref b :: rest) G sz bc bs E :=
  h.go fun p e R s m args below meth c Q H locs cells slots lsA hB hH hL kk => by
    have hts := hB.2.2.2.2.2.1
    have hfr2 := hB.2.2.2.2.2.2.2.2.1
    have hlo2 := hB.2.2.2.2.2.2.2.2.2
    have hz : 2 * (F0 m pc lsA (.ref b :: rest)).monitorRoom + (rest.map fun v => v.category).sum + 12 ≤ R.locals := by
      have : (F0 m pc lsA (.ref b :: rest)).monitorRoom = 0 := by simp [JFrame.monitorRoom]
      rw [this]; omega
    exact W.objInit hB.1 hB.2.1 hB.2.2.2.2.1 (hts _ hl) (hts _ hi) (hts _ hc) rfl (hL.1.trans hB.2.2.1.symm) rfl hd (by omega) hz kk
end q_calls
