theorem q_sl1 : ∀ (As : List Value), (∀ v ∈ As, v.category = 1) → lg_sl As = As.map Slot.val := by
  intro As
  induction As with
  | nil => intro _; rfl
  | cons a l ih =>
    intro h
    have h1 := h a List.mem_cons_self
    have h2 := ih (fun v hv => h v (List.mem_cons_of_mem _ hv))
    cases a <;> simp_all [lg_sl, Value.category]
/-- a call out of a walk of the body from its entry -/
theorem q_C.of {T : q_T} {M : q_M} {fr lo mc ms : Nat} {As : List Value} {G : q_G} {sz : Nat} {E : q_E} (hy : plainName M.2.1.cls = true) (hown : M.1 = M.2.1.cls) (hcat : ∀ v ∈ As, v.category = 1) (hn : As.length ≤ M.2.2.2.1)
    (h : q_R T M fr lo 0 (As.map some ++ List.replicate (M.2.2.2.1 - As.length) none) [] G sz mc ms E) : q_C T M fr lo mc ms As G sz E := by
  refine Met.ofW (cc := M.2.2.1) (maxL := M.2.2.2.1) (ret := M.2.2.2.2) hy rfl ?_
  intro p e s m args below meth c s₁ B hml hv
  obtain ⟨rfl, hsz, hP, hK⟩ := hv
  have hts := atoms_spec (ws := q_ws M) B.pre
  have ho : s.vm.findClass M.1 = some m.cls := by rw [hown]; exact findClass_of_methodNamed B.named
  have hsl := q_sl1 As hcat
  have hl := lv_entry As (n := M.2.2.2.1) (by rw [hsl, List.length_map]; exact hn)
  rw [lg_entry_eq]
  refine h p e _ s m As.toArray below meth c _ s.heap [] 0 0 _ ⟨B.exec, B.bytes, hml, B.returns, ho, fun w hw => hts w (List.mem_cons_of_mem _ hw), fun hi => (name_of_methodNamed B.named B.method).1.trans hi, hK, rfl, rfl⟩ ?_ ⟨hsz, hP, va_S.rf⟩ ⟨hl.1, hl.2.1, ?_, ?_⟩ (by simp [headSpec]) (by simp [headSpec])
  · intro pc ls v G' sz' H locs cells slots hr hE hH k1 k2
    have hlk := B.notSynchronized
    have hF : ∀ t : State, t.heap = H → q_post T E As.toArray s (.returned v) t := fun t ht => ⟨v, G', sz', rfl, hE, by rw [ht]; exact hH.1, by rw [ht]; exact hH.2.1, hH.2.2.F ht⟩
    refine W.widen (k := mc) (n := ms) k1 k2 ?_
    rcases hr with ⟨x, ty, h1, h2, rfl, h4⟩ | ⟨h1, rfl, h4⟩ | ⟨v, rt, h1, h2, h3, rfl, h4⟩
    · exact W.zret (v := x) B.exec B.bytes (B.returns.trans h1) h2 (fun t ht _ => hF t ht) hH.2.2.2.2 h4 hlk
    · exact W.vret B.exec B.bytes (B.returns.trans h1) (fun t ht _ => hF t ht) hH.2.2.2.2 h4 hlk
    · exact W.aret B.exec B.bytes (B.returns.trans h1) h2 (q_isr_or h3) (fun t ht _ => hF t ht) hH.2.2.2.2 h4 hlk
  · simp; omega
  · intro i v hi
    by_cases hlt : i < As.length
    · rw [List.getElem?_append_left (by simpa using hlt), List.getElem?_map, List.getElem?_eq_getElem hlt] at hi
      simp only [Option.map_some, Option.some.injEq] at hi
      subst hi
      refine ⟨?_, hcat _ (List.getElem_mem hlt)⟩
      rw [hsl]
      rw [List.getElem?_toArray, List.getElem?_append_left (by simpa using hlt)]
      simp [hlt]
    · rw [List.getElem?_append_right (by simpa using hlt)] at hi
      rw [List.getElem?_replicate] at hi
      split at hi <;> simp at hi
section q_rows
variable {T : q_T} {M : q_M} {fr lo pc : Nat} {ls : List (Option Value)} {st : List Value} {G : q_G} {sz bc bs : Nat} {E : q_E}
/-- what a row of the kit that leaves the heap alone needs -/
theorem q_R.go {pc2 : Nat} {st2 : List Value} (h : q_R T M fr lo pc2 ls st2 G sz bc bs E)
    (hk : ∀ (p : Program) (e : Env) (R : Room) (s : State) (m : MethodId) (args : Array Value) (below : List Frame) (meth : Method) (c : Code) (Q : State → Prop) (H : Heap) (locs : List Loc) (cells slots : Nat) (lsA : Array Slot), q_B T M fr lo p R s m args meth c → q_H T s G sz H locs → q_L M.2.2.2.1 ls lsA →
      W p T.1 e R s m args below meth c H locs cells slots Q (F0 m pc2 lsA st2) → W p T.1 e R s m args below meth c H locs cells slots Q (F0 m pc lsA st)) : q_R T M fr lo pc ls st G sz bc bs E :=
  fun p e R s m args below meth c Q H locs cells slots lsA hB hF hH hL k1 k2 => hk p e R s m args below meth c Q H locs cells slots lsA hB hH hL (h p e R s m args below meth c Q H locs cells slots lsA hB hF hH hL k1 k2)
theorem q_iconst {n : Int} {v : Int32} (hd : decode M.2.2.1 pc = .ok (.iconst n, 1)) (hv : Int32.ofInt n = v) (h : q_R T M fr lo (pc + 1) ls (.int v :: st) G sz bc bs E) : q_R T M fr lo pc ls st G sz bc bs E :=
  h.go fun p e R s m args below meth c Q H locs cells slots lsA hB hH hL k => lv_iconst hB.1 hB.2.1 hd hv k
theorem q_bipush {n : Int} {v : Int32} (hd : decode M.2.2.1 pc = .ok (.bipush n, 2)) (hv : (Int8.ofInt n).toInt32 = v) (h : q_R T M fr lo (pc + 2) ls (.int v :: st) G sz bc bs E) : q_R T M fr lo pc ls st G sz bc bs E :=
  h.go fun p e R s m args below meth c Q H locs cells slots lsA hB hH hL k => lv_bipush hB.1 hB.2.1 hd hv k
theorem q_sipush {n : Int} {v : Int32} (hd : decode M.2.2.1 pc = .ok (.sipush n, 3)) (hv : (Int16.ofInt n).toInt32 = v) (h : q_R T M fr lo (pc + 3) ls (.int v :: st) G sz bc bs E) : q_R T M fr lo pc ls st G sz bc bs E :=
  h.go fun p e R s m args below meth c Q H locs cells slots lsA hB hH hL k => lv_sipush hB.1 hB.2.1 hd hv k
theorem q_ldc {idx : Nat} {v : Int32} (hd : decode M.2.2.1 pc = .ok (.ldc idx, 2)) (hw : Cond.constant M.1 idx v ∈ q_gw) (h : q_R T M fr lo (pc + 2) ls (.int v :: st) G sz bc bs E) : q_R T M fr lo pc ls st G sz bc bs E :=
  h.go fun p e R s m args below meth c Q H locs cells slots lsA hB hH hL k => W.ldc hB.1 hB.2.1 hB.2.2.2.2.1 (hB.2.2.2.2.2.1 _ hw) rfl hd k
theorem q_iload_n {k : Fin 4} {x : Int32} (hd : decode M.2.2.1 pc = .ok (.iload_n k, 1)) (hx : ls[(k : Nat)]? = some (some (.int x))) (h : q_R T M fr lo (pc + 1) ls (.int x :: st) G sz bc bs E) : q_R T M fr lo pc ls st G sz bc bs E :=
  h.go fun p e R s m args below meth c Q H locs cells slots lsA hB hH hL k => lv_iload_n hB.1 hB.2.1 hd rfl (hL.2.2.2 _ _ hx).1 k
theorem q_iload {i : Nat} {x : Int32} (hd : decode M.2.2.1 pc = .ok (.iload i, 2)) (hx : ls[i]? = some (some (.int x))) (h : q_R T M fr lo (pc + 2) ls (.int x :: st) G sz bc bs E) : q_R T M fr lo pc ls st G sz bc bs E :=
  h.go fun p e R s m args below meth c Q H locs cells slots lsA hB hH hL k => lv_iload hB.1 hB.2.1 hd (hL.2.2.2 _ _ hx).1 k
theorem q_aload_n {k : Fin 4} {v : Value} (hd : decode M.2.2.1 pc = .ok (.aload_n k, 1)) (hx : ls[(k : Nat)]? = some (some v)) (hv : q_isr v = true) (h : q_R T M fr lo (pc + 1) ls (v :: st) G sz bc bs E) : q_R T M fr lo pc ls st G sz bc bs E :=
  h.go fun p e R s m args below meth c Q H locs cells slots lsA hB hH hL k => by
    cases v with
    | null => exact lv_aload_nN hB.1 hB.2.1 hd rfl (hL.2.2.2 _ _ hx).1 k
    | ref a => exact lv_aload_n hB.1 hB.2.1 hd rfl (hL.2.2.2 _ _ hx).1 k
    | _ => cases hv
theorem q_aload {i : Nat} {v : Value} (hd : decode M.2.2.1 pc = .ok (.aload i, 2)) (hx : ls[i]? = some (some v)) (hv : q_isr v = true) (h : q_R T M fr lo (pc + 2) ls (v :: st) G sz bc bs E) : q_R T M fr lo pc ls st G sz bc bs E :=
  h.go fun p e R s m args below meth c Q H locs cells slots lsA hB hH hL k => by
    cases v with
    | null => exact lv_aloadN hB.1 hB.2.1 hd (hL.2.2.2 _ _ hx).1 k
    | ref a => exact lv_aload hB.1 hB.2.1 hd (hL.2.2.2 _ _ hx).1 k
    | _ => cases hv
/-- storing -/
theorem q_L.set {n i : Nat} {ls : List (Option Value)} {lsA : Array Slot} {v : Value} (hL : q_L n ls lsA) (hi : i < n) (hc : v.category = 1) : ∃ ls', storeLocals lsA i v = some ls' ∧ lv_has ls' n [] ∧ q_L n (ls.set i (some v)) ls' := by
  obtain ⟨h1, h2, h3, h4⟩ := hL
  have hall : lv_has lsA n ((List.range n).filterMap (fun j => match ls[j]? with | some (some w) => some (j, w) | _ => none)) := by
    refine ⟨h1, h2, fun q hq => ?_⟩
    obtain ⟨j, -, hj⟩ := List.mem_filterMap.mp hq
    split at hj
    · rename_i w hw
      cases hj
      exact (h4 _ _ hw).1
    · cases hj
  obtain ⟨ls', e1, e2⟩ := lv_store1 (v := v) hall hi hc
  refine ⟨ls', e1, ⟨e2.1, e2.2.1, fun q h => by cases h⟩, e2.1, e2.2.1, by rw [List.length_set]; exact h3, fun j w hj => ?_⟩
  by_cases hji : j = i
  · subst hji
    rw [List.getElem?_set_self (by omega)] at hj
    cases hj
    exact ⟨e2.2.2 (j, v) List.mem_cons_self, hc⟩
  · rw [List.getElem?_set_ne (fun h => hji h.symm)] at hj
    refine ⟨e2.2.2 (j, w) (List.mem_cons_of_mem _ (List.mem_filter.mpr ⟨List.mem_filterMap.mpr ⟨j, List.mem_range.mpr ?_, by rw [hj]⟩, ?_⟩)), (h4 _ _ hj).2⟩
    · rw [← h3]; exact (List.getElem?_eq_some_iff.mp hj).1
    · have := (h4 _ _ hj).2
      simp [hji, this]
theorem q_R.store {pc2 i : Nat} {v : Value} (hi : i < M.2.2.2.1) (hc : v.category = 1) (h : q_R T M fr lo pc2 (ls.set i (some v)) st G sz bc bs E)
    (hk : ∀ (p : Program) (e : Env) (R : Room) (s : State) (m : MethodId) (args : Array Value) (below : List Frame) (meth : Method) (c : Code) (Q : State → Prop) (H : Heap) (locs : List Loc) (cells slots : Nat) (lsA : Array Slot), q_B T M fr lo p R s m args meth c → lv_has lsA M.2.2.2.1 [] → ∀ ls' : Array Slot, storeLocals lsA i v = some ls' →
      W p T.1 e R s m args below meth c H locs cells slots Q (F0 m pc2 ls' st) → W p T.1 e R s m args below meth c H locs cells slots Q (F0 m pc lsA (v :: st))) : q_R T M fr lo pc ls (v :: st) G sz bc bs E := by
  intro p e R s m args below meth c Q H locs cells slots lsA hB hF hH hL k1 k2
  obtain ⟨ls', e1, -, e3⟩ := hL.set hi hc
  exact hk p e R s m args below meth c Q H locs cells slots lsA hB ⟨hL.1, hL.2.1, fun q h => by cases h⟩ ls' e1 (h p e R s m args below meth c Q H locs cells slots ls' hB hF hH e3 k1 k2)
theorem q_istore_n {k : Fin 4} {x : Int32} (hd : decode M.2.2.1 pc = .ok (.istore_n k, 1)) (hi : (k : Nat) < M.2.2.2.1) (h : q_R T M fr lo (pc + 1) (ls.set k (some (.int x))) st G sz bc bs E) : q_R T M fr lo pc ls (.int x :: st) G sz bc bs E :=
  h.store hi rfl fun p e R s m args below meth c Q H locs cells slots lsA hB hl ls' e' k T' hT X => by
    obtain ⟨t, a, b⟩ := k T' hT X
    refine ⟨t, ?_, b⟩
    have hexec := hB.1
    have hb := hB.2.1
    jvm_step X.here [X.here.top, ↓top_set X.here.top, hexec, hb, hd, e']
    exact a
theorem q_istore {i : Nat} {x : Int32} (hd : decode M.2.2.1 pc = .ok (.istore i, 2)) (hi : i < M.2.2.2.1) (h : q_R T M fr lo (pc + 2) (ls.set i (some (.int x))) st G sz bc bs E) : q_R T M fr lo pc ls (.int x :: st) G sz bc bs E :=
  h.store hi rfl fun p e R s m args below meth c Q H locs cells slots lsA hB hl ls' e' k T' hT X => by
    obtain ⟨t, a, b⟩ := k T' hT X
    refine ⟨t, ?_, b⟩
    have hexec := hB.1
    have hb := hB.2.1
    jvm_step X.here [X.here.top, ↓top_set X.here.top, hexec, hb, hd, e']
    exact a
theorem q_astore_n {k : Fin 4} {v : Value} (hd : decode M.2.2.1 pc = .ok (.astore_n k, 1)) (hi : (k : Nat) < M.2.2.2.1) (hv : q_isr v = true) (h : q_R T M fr lo (pc + 1) (ls.set k (some v)) st G sz bc bs E) : q_R T M fr lo pc ls (v :: st) G sz bc bs E :=
  h.store hi (q_isr_cat hv) fun p e R s m args below meth c Q H locs cells slots lsA hB hl ls' e' k T' hT X => by
    obtain ⟨t, a, b⟩ := k T' hT X
    refine ⟨t, ?_, b⟩
    have hexec := hB.1
    have hb := hB.2.1
    cases v with
    | null => jvm_step X.here [X.here.top, ↓top_set X.here.top, hexec, hb, hd, e', Value.isRef]; exact a
    | ref x => jvm_step X.here [X.here.top, ↓top_set X.here.top, hexec, hb, hd, e', Value.isRef]; exact a
    | _ => cases hv
theorem q_astore {i : Nat} {v : Value} (hd : decode M.2.2.1 pc = .ok (.astore i, 2)) (hi : i < M.2.2.2.1) (hv : q_isr v = true) (h : q_R T M fr lo (pc + 2) (ls.set i (some v)) st G sz bc bs E) : q_R T M fr lo pc ls (v :: st) G sz bc bs E :=
  h.store hi (q_isr_cat hv) fun p e R s m args below meth c Q H locs cells slots lsA hB hl ls' e' k T' hT X => by
    obtain ⟨t, a, b⟩ := k T' hT X
    refine ⟨t, ?_, b⟩
    have hexec := hB.1
    have hb := hB.2.1
    cases v with
    | null => jvm_step X.here [X.here.top, ↓top_set X.here.top, hexec, hb, hd, e', Value.isRef]; exact a
    | ref x => jvm_step X.here [X.here.top, ↓top_set X.here.top, hexec, hb, hd, e', Value.isRef]; exact a
    | _ => cases hv
theorem q_iinc {i : Nat} {n : Int} {x v : Int32} (hd : decode M.2.2.1 pc = .ok (.iinc i n, 3)) (hx : ls[i]? = some (some (.int x))) (hv : x + Int32.ofInt n = v) (hi : i < M.2.2.2.1) (h : q_R T M fr lo (pc + 3) (ls.set i (some (.int v))) st G sz bc bs E) : q_R T M fr lo pc ls st G sz bc bs E := by
  subst hv
  intro p e R s m args below meth c Q H locs cells slots lsA hB hF hH hL k1 k2
  obtain ⟨ls', e', -, e3⟩ := hL.set (v := .int (x + Int32.ofInt n)) hi rfl
  intro T' hT X
  obtain ⟨t, a, b⟩ := h p e R s m args below meth c Q H locs cells slots ls' hB hF hH e3 k1 k2 T' hT X
  refine ⟨t, ?_, b⟩
  have hexec := hB.1
  have hb := hB.2.1
  have hg := (hL.2.2.2 _ _ hx).1
  jvm_step X.here [X.here.top, ↓top_set X.here.top, hexec, hb, hd, hg, e']
  exact a
theorem q_iadd {x y z : Int32} (hd : decode M.2.2.1 pc = .ok (.iadd, 1)) (hz : x + y = z) (h : q_R T M fr lo (pc + 1) ls (.int z :: st) G sz bc bs E) : q_R T M fr lo pc ls (.int y :: .int x :: st) G sz bc bs E := by
  subst hz
  exact h.go fun p e R s m args below meth c Q H locs cells slots lsA hB hH hL k => lv_iadd hB.1 hB.2.1 hd k
theorem q_isub {x y z : Int32} (hd : decode M.2.2.1 pc = .ok (.isub, 1)) (hz : x - y = z) (h : q_R T M fr lo (pc + 1) ls (.int z :: st) G sz bc bs E) : q_R T M fr lo pc ls (.int y :: .int x :: st) G sz bc bs E := by
  subst hz
  exact h.go fun p e R s m args below meth c Q H locs cells slots lsA hB hH hL k => lv_isub hB.1 hB.2.1 hd k
theorem q_imul {x y z : Int32} (hd : decode M.2.2.1 pc = .ok (.imul, 1)) (hz : x * y = z) (h : q_R T M fr lo (pc + 1) ls (.int z :: st) G sz bc bs E) : q_R T M fr lo pc ls (.int y :: .int x :: st) G sz bc bs E := by
  subst hz
  exact h.go fun p e R s m args below meth c Q H locs cells slots lsA hB hH hL k => lv_imul hB.1 hB.2.1 hd k
theorem q_iand {x y z : Int32} (hd : decode M.2.2.1 pc = .ok (.iand, 1)) (hz : x &&& y = z) (h : q_R T M fr lo (pc + 1) ls (.int z :: st) G sz bc bs E) : q_R T M fr lo pc ls (.int y :: .int x :: st) G sz bc bs E := by
  subst hz
  exact h.go fun p e R s m args below meth c Q H locs cells slots lsA hB hH hL k => lv_iand hB.1 hB.2.1 hd k
theorem q_ior {x y z : Int32} (hd : decode M.2.2.1 pc = .ok (.ior, 1)) (hz : x ||| y = z) (h : q_R T M fr lo (pc + 1) ls (.int z :: st) G sz bc bs E) : q_R T M fr lo pc ls (.int y :: .int x :: st) G sz bc bs E := by
  subst hz
  exact h.go fun p e R s m args below meth c Q H locs cells slots lsA hB hH hL k => lv_ior hB.1 hB.2.1 hd k
theorem q_ixor {x y z : Int32} (hd : decode M.2.2.1 pc = .ok (.ixor, 1)) (hz : x ^^^ y = z) (h : q_R T M fr lo (pc + 1) ls (.int z :: st) G sz bc bs E) : q_R T M fr lo pc ls (.int y :: .int x :: st) G sz bc bs E := by
  subst hz
  exact h.go fun p e R s m args below meth c Q H locs cells slots lsA hB hH hL k => lv_ixor hB.1 hB.2.1 hd k
theorem q_ishl {x y z : Int32} (hd : decode M.2.2.1 pc = .ok (.ishl, 1)) (hz : x <<< (y &&& 31) = z) (h : q_R T M fr lo (pc + 1) ls (.int z :: st) G sz bc bs E) : q_R T M fr lo pc ls (.int y :: .int x :: st) G sz bc bs E := by
  subst hz
  exact h.go fun p e R s m args below meth c Q H locs cells slots lsA hB hH hL k => lv_ishl hB.1 hB.2.1 hd k
theorem q_ishr {x y z : Int32} (hd : decode M.2.2.1 pc = .ok (.ishr, 1)) (hz : x >>> (y &&& 31) = z) (h : q_R T M fr lo (pc + 1) ls (.int z :: st) G sz bc bs E) : q_R T M fr lo pc ls (.int y :: .int x :: st) G sz bc bs E := by
  subst hz
  exact h.go fun p e R s m args below meth c Q H locs cells slots lsA hB hH hL k => lv_ishr hB.1 hB.2.1 hd k
theorem q_idiv {x y z : Int32} (hd : decode M.2.2.1 pc = .ok (.idiv, 1)) (hne : ¬ y = 0) (hz : x / y = z) (h : q_R T M fr lo (pc + 1) ls (.int z :: st) G sz bc bs E) : q_R T M fr lo pc ls (.int y :: .int x :: st) G sz bc bs E := by
  subst hz
  exact h.go fun p e R s m args below meth c Q H locs cells slots lsA hB hH hL k => lv_idiv hB.1 hB.2.1 hd hne k
theorem q_irem {x y z : Int32} (hd : decode M.2.2.1 pc = .ok (.irem, 1)) (hne : ¬ y = 0) (hz : x - x / y * y = z) (h : q_R T M fr lo (pc + 1) ls (.int z :: st) G sz bc bs E) : q_R T M fr lo pc ls (.int y :: .int x :: st) G sz bc bs E := by
  subst hz
  exact h.go fun p e R s m args below meth c Q H locs cells slots lsA hB hH hL k => lv_irem hB.1 hB.2.1 hd hne k
theorem q_iushr {x y z : Int32} (hd : decode M.2.2.1 pc = .ok (.iushr, 1)) (hz : (x.toUInt32 >>> (y.toUInt32 &&& Int32.toUInt32 31)).toInt32 = z) (h : q_R T M fr lo (pc + 1) ls (.int z :: st) G sz bc bs E) : q_R T M fr lo pc ls (.int y :: .int x :: st) G sz bc bs E :=
  h.go fun p e R s m args below meth c Q H locs cells slots lsA hB hH hL k => lv_iushr hB.1 hB.2.1 hd hz k
theorem q_ineg {x z : Int32} (hd : decode M.2.2.1 pc = .ok (.ineg, 1)) (hz : -x = z) (h : q_R T M fr lo (pc + 1) ls (.int z :: st) G sz bc bs E) : q_R T M fr lo pc ls (.int x :: st) G sz bc bs E := by
  subst hz
  exact h.go fun p e R s m args below meth c Q H locs cells slots lsA hB hH hL k => lv_ineg hB.1 hB.2.1 hd k
theorem q_i2b {x z : Int32} (hd : decode M.2.2.1 pc = .ok (.i2b, 1)) (hz : x.toInt8.toInt32 = z) (h : q_R T M fr lo (pc + 1) ls (.int z :: st) G sz bc bs E) : q_R T M fr lo pc ls (.int x :: st) G sz bc bs E :=
  h.go fun p e R s m args below meth c Q H locs cells slots lsA hB hH hL k => lv_i2b hB.1 hB.2.1 hd hz k
theorem q_i2c {x z : Int32} (hd : decode M.2.2.1 pc = .ok (.i2c, 1)) (hz : (x.toUInt32 % 65536).toInt32 = z) (h : q_R T M fr lo (pc + 1) ls (.int z :: st) G sz bc bs E) : q_R T M fr lo pc ls (.int x :: st) G sz bc bs E :=
  h.go fun p e R s m args below meth c Q H locs cells slots lsA hB hH hL k => lv_i2c hB.1 hB.2.1 hd hz k
theorem q_dup {va : Value} (hd : decode M.2.2.1 pc = .ok (.dup, 1)) (hva : va.category = 1) (h : q_R T M fr lo (pc + 1) ls (va :: va :: st) G sz bc bs E) : q_R T M fr lo pc ls (va :: st) G sz bc bs E :=
  h.go fun p e R s m args below meth c Q H locs cells slots lsA hB hH hL k => lv_dup hB.1 hB.2.1 hd hva k
theorem q_dup_x1 {va vb : Value} (hd : decode M.2.2.1 pc = .ok (.dup_x1, 1)) (hva : va.category = 1) (hvb : vb.category = 1) (h : q_R T M fr lo (pc + 1) ls (va :: vb :: va :: st) G sz bc bs E) : q_R T M fr lo pc ls (va :: vb :: st) G sz bc bs E :=
  h.go fun p e R s m args below meth c Q H locs cells slots lsA hB hH hL k => lv_dup_x1 hB.1 hB.2.1 hd hva hvb k
theorem q_dup2 {va vb : Value} (hd : decode M.2.2.1 pc = .ok (.dup2, 1)) (hva : va.category = 1) (hvb : vb.category = 1) (h : q_R T M fr lo (pc + 1) ls (va :: vb :: va :: vb :: st) G sz bc bs E) : q_R T M fr lo pc ls (va :: vb :: st) G sz bc bs E :=
  h.go fun p e R s m args below meth c Q H locs cells slots lsA hB hH hL k => lv_dup2_11 hB.1 hB.2.1 hd hva hvb k
theorem q_pop {va : Value} (hd : decode M.2.2.1 pc = .ok (.pop, 1)) (hva : va.category = 1) (h : q_R T M fr lo (pc + 1) ls st G sz bc bs E) : q_R T M fr lo pc ls (va :: st) G sz bc bs E :=
  h.go fun p e R s m args below meth c Q H locs cells slots lsA hB hH hL k => lv_pop hB.1 hB.2.1 hd hva k
theorem q_null (hd : decode M.2.2.1 pc = .ok (.aconst_null, 1)) (h : q_R T M fr lo (pc + 1) ls (.null :: st) G sz bc bs E) : q_R T M fr lo pc ls st G sz bc bs E :=
  h.go fun p e R s m args below meth c Q H locs cells slots lsA hB hH hL k => lv_null hB.1 hB.2.1 hd k
theorem q_goto {off : Int} {tgt : Nat} (hd : decode M.2.2.1 pc = .ok (.goto off, 3)) (ht : (pc : Int) + off = (tgt : Int)) (h : q_R T M fr lo tgt ls st G sz bc bs E) : q_R T M fr lo pc ls st G sz bc bs E :=
  h.go fun p e R s m args below meth c Q H locs cells slots lsA hB hH hL k => lv_goto hB.1 hB.2.1 hd ht k
theorem q_if_eq {x : Int32} {off : Int} {tgt : Nat} (hd : decode M.2.2.1 pc = .ok (.ifCond .eq off, 3)) (ht : (pc : Int) + off = (tgt : Int)) (kt : x = 0 → q_R T M fr lo tgt ls st G sz bc bs E) (kf : ¬ (x = 0) → q_R T M fr lo (pc + 3) ls st G sz bc bs E) : q_R T M fr lo pc ls (.int x :: st) G sz bc bs E :=
  fun p e R s m args below meth c Q H locs cells slots lsA hB hF hH hL k1 k2 => lv_if_eq hB.1 hB.2.1 hd ht (fun hc => kt hc p e R s m args below meth c Q H locs cells slots lsA hB hF hH hL k1 k2) (fun hc => kf hc p e R s m args below meth c Q H locs cells slots lsA hB hF hH hL k1 k2)
theorem q_icmp_eq {x y : Int32} {off : Int} {tgt : Nat} (hd : decode M.2.2.1 pc = .ok (.if_icmp .eq off, 3)) (ht : (pc : Int) + off = (tgt : Int)) (kt : x = y → q_R T M fr lo tgt ls st G sz bc bs E) (kf : ¬ (x = y) → q_R T M fr lo (pc + 3) ls st G sz bc bs E) : q_R T M fr lo pc ls (.int y :: .int x :: st) G sz bc bs E :=
  fun p e R s m args below meth c Q H locs cells slots lsA hB hF hH hL k1 k2 => lv_icmp_eq hB.1 hB.2.1 hd ht (fun hc => kt hc p e R s m args below meth c Q H locs cells slots lsA hB hF hH hL k1 k2) (fun hc => kf hc p e R s m args below meth c Q H locs cells slots lsA hB hF hH hL k1 k2)
theorem q_if_ne {x : Int32} {off : Int} {tgt : Nat} (hd : decode M.2.2.1 pc = .ok (.ifCond .ne off, 3)) (ht : (pc : Int) + off = (tgt : Int)) (kt : ¬ x = 0 → q_R T M fr lo tgt ls st G sz bc bs E) (kf : x = 0 → q_R T M fr lo (pc + 3) ls st G sz bc bs E) : q_R T M fr lo pc ls (.int x :: st) G sz bc bs E :=
  fun p e R s m args below meth c Q H locs cells slots lsA hB hF hH hL k1 k2 => lv_if_ne hB.1 hB.2.1 hd ht (fun hc => kt hc p e R s m args below meth c Q H locs cells slots lsA hB hF hH hL k1 k2) (fun hc => kf hc p e R s m args below meth c Q H locs cells slots lsA hB hF hH hL k1 k2)
theorem q_icmp_ne {x y : Int32} {off : Int} {tgt : Nat} (hd : decode M.2.2.1 pc = .ok (.if_icmp .ne off, 3)) (ht : (pc : Int) + off = (tgt : Int)) (kt : ¬ x = y → q_R T M fr lo tgt ls st G sz bc bs E) (kf : x = y → q_R T M fr lo (pc + 3) ls st G sz bc bs E) : q_R T M fr lo pc ls (.int y :: .int x :: st) G sz bc bs E :=
  fun p e R s m args below meth c Q H locs cells slots lsA hB hF hH hL k1 k2 => lv_icmp_ne hB.1 hB.2.1 hd ht (fun hc => kt hc p e R s m args below meth c Q H locs cells slots lsA hB hF hH hL k1 k2) (fun hc => kf hc p e R s m args below meth c Q H locs cells slots lsA hB hF hH hL k1 k2)
theorem q_if_lt {x : Int32} {off : Int} {tgt : Nat} (hd : decode M.2.2.1 pc = .ok (.ifCond .lt off, 3)) (ht : (pc : Int) + off = (tgt : Int)) (kt : x < 0 → q_R T M fr lo tgt ls st G sz bc bs E) (kf : ¬ (x < 0) → q_R T M fr lo (pc + 3) ls st G sz bc bs E) : q_R T M fr lo pc ls (.int x :: st) G sz bc bs E :=
  fun p e R s m args below meth c Q H locs cells slots lsA hB hF hH hL k1 k2 => lv_if_lt hB.1 hB.2.1 hd ht (fun hc => kt hc p e R s m args below meth c Q H locs cells slots lsA hB hF hH hL k1 k2) (fun hc => kf hc p e R s m args below meth c Q H locs cells slots lsA hB hF hH hL k1 k2)
theorem q_icmp_lt {x y : Int32} {off : Int} {tgt : Nat} (hd : decode M.2.2.1 pc = .ok (.if_icmp .lt off, 3)) (ht : (pc : Int) + off = (tgt : Int)) (kt : x < y → q_R T M fr lo tgt ls st G sz bc bs E) (kf : ¬ (x < y) → q_R T M fr lo (pc + 3) ls st G sz bc bs E) : q_R T M fr lo pc ls (.int y :: .int x :: st) G sz bc bs E :=
  fun p e R s m args below meth c Q H locs cells slots lsA hB hF hH hL k1 k2 => lv_icmp_lt hB.1 hB.2.1 hd ht (fun hc => kt hc p e R s m args below meth c Q H locs cells slots lsA hB hF hH hL k1 k2) (fun hc => kf hc p e R s m args below meth c Q H locs cells slots lsA hB hF hH hL k1 k2)
theorem q_if_ge {x : Int32} {off : Int} {tgt : Nat} (hd : decode M.2.2.1 pc = .ok (.ifCond .ge off, 3)) (ht : (pc : Int) + off = (tgt : Int)) (kt : 0 ≤ x → q_R T M fr lo tgt ls st G sz bc bs E) (kf : ¬ (0 ≤ x) → q_R T M fr lo (pc + 3) ls st G sz bc bs E) : q_R T M fr lo pc ls (.int x :: st) G sz bc bs E :=
  fun p e R s m args below meth c Q H locs cells slots lsA hB hF hH hL k1 k2 => lv_if_ge hB.1 hB.2.1 hd ht (fun hc => kt hc p e R s m args below meth c Q H locs cells slots lsA hB hF hH hL k1 k2) (fun hc => kf hc p e R s m args below meth c Q H locs cells slots lsA hB hF hH hL k1 k2)
theorem q_icmp_ge {x y : Int32} {off : Int} {tgt : Nat} (hd : decode M.2.2.1 pc = .ok (.if_icmp .ge off, 3)) (ht : (pc : Int) + off = (tgt : Int)) (kt : y ≤ x → q_R T M fr lo tgt ls st G sz bc bs E) (kf : ¬ (y ≤ x) → q_R T M fr lo (pc + 3) ls st G sz bc bs E) : q_R T M fr lo pc ls (.int y :: .int x :: st) G sz bc bs E :=
  fun p e R s m args below meth c Q H locs cells slots lsA hB hF hH hL k1 k2 => lv_icmp_ge hB.1 hB.2.1 hd ht (fun hc => kt hc p e R s m args below meth c Q H locs cells slots lsA hB hF hH hL k1 k2) (fun hc => kf hc p e R s m args below meth c Q H locs cells slots lsA hB hF hH hL k1 k2)
theorem q_if_gt {x : Int32} {off : Int} {tgt : Nat} (hd : decode M.2.2.1 pc = .ok (.ifCond .gt off, 3)) (ht : (pc : Int) + off = (tgt : Int)) (kt : 0 < x → q_R T M fr lo tgt ls st G sz bc bs E) (kf : ¬ (0 < x) → q_R T M fr lo (pc + 3) ls st G sz bc bs E) : q_R T M fr lo pc ls (.int x :: st) G sz bc bs E :=
  fun p e R s m args below meth c Q H locs cells slots lsA hB hF hH hL k1 k2 => lv_if_gt hB.1 hB.2.1 hd ht (fun hc => kt hc p e R s m args below meth c Q H locs cells slots lsA hB hF hH hL k1 k2) (fun hc => kf hc p e R s m args below meth c Q H locs cells slots lsA hB hF hH hL k1 k2)
theorem q_icmp_gt {x y : Int32} {off : Int} {tgt : Nat} (hd : decode M.2.2.1 pc = .ok (.if_icmp .gt off, 3)) (ht : (pc : Int) + off = (tgt : Int)) (kt : y < x → q_R T M fr lo tgt ls st G sz bc bs E) (kf : ¬ (y < x) → q_R T M fr lo (pc + 3) ls st G sz bc bs E) : q_R T M fr lo pc ls (.int y :: .int x :: st) G sz bc bs E :=
  fun p e R s m args below meth c Q H locs cells slots lsA hB hF hH hL k1 k2 => lv_icmp_gt hB.1 hB.2.1 hd ht (fun hc => kt hc p e R s m args below meth c Q H locs cells slots lsA hB hF hH hL k1 k2) (fun hc => kf hc p e R s m args below meth c Q H locs cells slots lsA hB hF hH hL k1 k2)
theorem q_if_le {x : Int32} {off : Int} {tgt : Nat} (hd : decode M.2.2.1 pc = .ok (.ifCond .le off, 3)) (ht : (pc : Int) + off = (tgt : Int)) (kt : x ≤ 0 → q_R T M fr lo tgt ls st G sz bc bs E) (kf : ¬ (x ≤ 0) → q_R T M fr lo (pc + 3) ls st G sz bc bs E) : q_R T M fr lo pc ls (.int x :: st) G sz bc bs E :=
  fun p e R s m args below meth c Q H locs cells slots lsA hB hF hH hL k1 k2 => lv_if_le hB.1 hB.2.1 hd ht (fun hc => kt hc p e R s m args below meth c Q H locs cells slots lsA hB hF hH hL k1 k2) (fun hc => kf hc p e R s m args below meth c Q H locs cells slots lsA hB hF hH hL k1 k2)
theorem q_icmp_le {x y : Int32} {off : Int} {tgt : Nat} (hd : decode M.2.2.1 pc = .ok (.if_icmp .le off, 3)) (ht : (pc : Int) + off = (tgt : Int)) (kt : x ≤ y → q_R T M fr lo tgt ls st G sz bc bs E) (kf : ¬ (x ≤ y) → q_R T M fr lo (pc + 3) ls st G sz bc bs E) : q_R T M fr lo pc ls (.int y :: .int x :: st) G sz bc bs E :=
  fun p e R s m args below meth c Q H locs cells slots lsA hB hF hH hL k1 k2 => lv_icmp_le hB.1 hB.2.1 hd ht (fun hc => kt hc p e R s m args below meth c Q H locs cells slots lsA hB hF hH hL k1 k2) (fun hc => kf hc p e R s m args below meth c Q H locs cells slots lsA hB hF hH hL k1 k2)
theorem q_ifnull {v : Value} {off : Int} {tgt : Nat} (hd : decode M.2.2.1 pc = .ok (.ifnull off, 3)) (ht : (pc : Int) + off = (tgt : Int)) (hv : q_isr v = true) (kt : v = .null → q_R T M fr lo tgt ls st G sz bc bs E) (kf : ¬ v = .null → q_R T M fr lo (pc + 3) ls st G sz bc bs E) : q_R T M fr lo pc ls (v :: st) G sz bc bs E := by
  intro p e R s m args below meth c Q H locs cells slots lsA hB hF hH hL k1 k2
  cases v with
    | null => exact lv_ifnullN hB.1 hB.2.1 hd ht (kt rfl p e R s m args below meth c Q H locs cells slots lsA hB hF hH hL k1 k2)
    | ref a => exact lv_ifnull hB.1 hB.2.1 hd (kf (fun h => by cases h) p e R s m args below meth c Q H locs cells slots lsA hB hF hH hL k1 k2)
    | _ => cases hv
theorem q_ifnonnull {v : Value} {off : Int} {tgt : Nat} (hd : decode M.2.2.1 pc = .ok (.ifnonnull off, 3)) (ht : (pc : Int) + off = (tgt : Int)) (hv : q_isr v = true) (kt : ¬ v = .null → q_R T M fr lo tgt ls st G sz bc bs E) (kf : v = .null → q_R T M fr lo (pc + 3) ls st G sz bc bs E) : q_R T M fr lo pc ls (v :: st) G sz bc bs E := by
  intro p e R s m args below meth c Q H locs cells slots lsA hB hF hH hL k1 k2
  cases v with
    | null => exact lv_ifnonnullN hB.1 hB.2.1 hd (kf rfl p e R s m args below meth c Q H locs cells slots lsA hB hF hH hL k1 k2)
    | ref a => exact lv_ifnonnull hB.1 hB.2.1 hd ht (kt (fun h => by cases h) p e R s m args below meth c Q H locs cells slots lsA hB hF hH hL k1 k2)
    | _ => cases hv
theorem q_tableOut {dflt l0 h0 : Int} {offs : Array Int} {len : Nat} {x : Int32} {tgt : Nat} (hd : decode M.2.2.1 pc = .ok (.tableswitch dflt l0 h0 offs, len)) (hx : x.toInt < l0 ∨ h0 < x.toInt) (ht : (pc : Int) + dflt = (tgt : Int)) (h : q_R T M fr lo tgt ls st G sz bc bs E) : q_R T M fr lo pc ls (.int x :: st) G sz bc bs E :=
  h.go fun p e R s m args below meth c Q H locs cells slots lsA hB hH hL k => lv_tableOut hB.1 hB.2.1 hd hx ht k
theorem q_tableIn {dflt l0 h0 : Int} {offs : Array Int} {len : Nat} {x : Int32} {off : Int} {tgt : Nat} (hd : decode M.2.2.1 pc = .ok (.tableswitch dflt l0 h0 offs, len)) (h1 : ¬ x.toInt < l0) (h2 : ¬ h0 < x.toInt) (ho : offs[(x.toInt - l0).toNat]? = some off) (ht : (pc : Int) + off = (tgt : Int)) (h : q_R T M fr lo tgt ls st G sz bc bs E) : q_R T M fr lo pc ls (.int x :: st) G sz bc bs E :=
  h.go fun p e R s m args below meth c Q H locs cells slots lsA hB hH hL k => lv_tableIn hB.1 hB.2.1 hd h1 h2 ho ht k
theorem q_ireturn {x : Int32} {ty : FieldType} (hd : decode M.2.2.1 pc = .ok (.ireturn, 1)) (hr : M.2.2.2.2 = some ty) (hn : narrow ty (.int x) = .int x) (h : E (some (.int x)) G sz) : q_R T M fr lo pc ls [.int x] G sz bc bs E :=
  fun p e R s m args below meth c Q H locs cells slots lsA hB hF hH hL k1 k2 => hF pc lsA (some (.int x)) G sz H locs cells slots (Or.inl ⟨x, ty, hr, hn, rfl, hd⟩) h hH (by omega) (by omega)
theorem q_return (hd : decode M.2.2.1 pc = .ok (.return_, 1)) (hr : M.2.2.2.2 = none) (h : E none G sz) : q_R T M fr lo pc ls [] G sz bc bs E :=
  fun p e R s m args below meth c Q H locs cells slots lsA hB hF hH hL k1 k2 => hF pc lsA none G sz H locs cells slots (Or.inr (Or.inl ⟨hr, rfl, hd⟩)) h hH (by omega) (by omega)
theorem q_areturn {v : Value} {rt : FieldType} (hd : decode M.2.2.1 pc = .ok (.areturn, 1)) (hr : M.2.2.2.2 = some rt) (hrt : (∃ n, rt = .object n) ∨ ∃ t, rt = .array t) (hv : q_isr v = true) (h : E (some v) G sz) : q_R T M fr lo pc ls [v] G sz bc bs E :=
  fun p e R s m args below meth c Q H locs cells slots lsA hB hF hH hL k1 k2 => hF pc lsA (some v) G sz H locs cells slots (Or.inr (Or.inr ⟨v, rt, hr, hrt, hv, rfl, hd⟩)) h hH (by omega) (by omega)
end q_rows
