/-! THE LAYER: a ghost heap G (address to cell), runs of a method's body (q_R) and calls (q_C) over it; a row an instruction -/
abbrev q_G : Type := Nat → Option va_E
/-- launch, class numbers, array classes, the first address that is ours; cells ahead of it that we read; where DigitOnes and DigitTens lie -/
abbrev q_T : Type := Launch × va_G × (Nat → ClassId) × Nat × (Nat → Option (FieldType × Nat × (Nat → Int32))) × Nat × Nat
/-- a method: class, name, code, locals, answer -/
abbrev q_M : Type := String × MethodName × ByteArray × Nat × Option FieldType
def q_gw : List Cond := lw_tbl.filter goodWord
def q_nw : List Cond := [.methodLinkNest RX3 67 yX8_holds RX8, .methodLinkNest RX4 65 yX8_isOne RX8, .methodLinkNest RX4 58 yX8_holds RX8, .methodLinkNest RX6 92 yX8_firstOf RX8, .methodLinkNest RX2 28 yX8_holds RX8, .methodLinkNest RX1 62 yX8_holds RX8, .methodLinkNest RX1 66 yX8_isOne RX8, .selects RJ4 yJ5_ensureCapacityInternal_d00df yJ5_ensureCapacityInternal_d00df, .selects RJ4 yJ5_newCapacity_0f7a4 yJ5_newCapacity_0f7a4]
def q_tys (dA : Nat → ClassId) : List (ClassId × FieldType) := [(dA 0, .int), (dA 1, .byte), (dA 2, .boolean), (dA 3, .object RX4), (dA 4, .object RX0), (dA 5, .object RX2), (dA 6, .object RX3)]
def q_own (T : q_T) : Nat → Prop := fun q => T.2.2.2.1 ≤ q
def q_z4 (T : q_T) (U : State) : Prop := va_Z "java/lang/String" "COMPACT_STRINGS" "Z" (.int 1) (q_own T) U U.heap ∧ va_Z "java/lang/Integer" "DigitOnes" "[B" (.ref T.2.2.2.2.2.1) (q_own T) U U.heap ∧ va_Z "java/lang/Integer" "DigitTens" "[B" (.ref T.2.2.2.2.2.2) (q_own T) U U.heap ∧ ∀ (a : Nat) (e : FieldType × Nat × (Nat → Int32)), T.2.2.2.2.1 a = some e → va_T e.1 a e.2.1 (fun j => .int (e.2.2 j)) (q_own T) U U.heap
/-- what holds of the tables in every state -/
def q_K (T : q_T) (U : State) : Prop := va_K T.2.1 vwCl (q_tys T.2.2.1) U ∧ (∀ w ∈ q_nw, va_Nw w U) ∧ (∀ C ∈ [RX4, RX0, RX2, RX3], va_AO C U) ∧ q_z4 T U ∧ va_Zq "jdk/internal/util/Preconditions" "SIOOBE_FORMATTER" "Ljava/util/function/BiFunction;" (q_own T) U U.heap ∧ T.2.2.2.1 ≤ U.heap.size
def q_gP (T : q_T) (G : q_G) (H : Heap) : Prop := ∀ (a : Nat) (e : va_E), G a = some e → va_at T.2.1 vwCl (a, e) H ∧ T.2.2.2.1 ≤ a
def q_H (T : q_T) (s : State) (G : q_G) (sz : Nat) (H : Heap) (locs : List Loc) : Prop := H.size = sz ∧ q_gP T G H ∧ va_S (q_own T) s.heap H locs
def q_B (T : q_T) (M : q_M) (fr lo : Nat) (p : Program) (R : Room) (s : State) (m : MethodId) (args : Array Value) (meth : Method) (c : Code) : Prop :=
  p.tables.exec = Jvm.exec ∧ c.code = M.2.2.1 ∧ c.maxLocals = M.2.2.2.1 ∧ meth.sig.returnType = M.2.2.2.2 ∧ s.vm.findClass M.1 = some m.cls ∧ (∀ w ∈ q_gw, w.before args s = true) ∧ (M.2.1.name = "<init>" → meth.name = "<init>") ∧ q_K T s ∧ R.frames = fr ∧ R.locals = lo
def q_isr (v : Value) : Bool := match v with
  | .null => true
  | .ref _ => true
  | _ => false
theorem q_isr_rf (r : Option Nat) : q_isr (va_rf r) = true := by cases r <;> rfl
theorem q_isr_cat {v : Value} (h : q_isr v = true) : v.category = 1 := by cases v <;> first | rfl | cases h
theorem q_isr_or {v : Value} (h : q_isr v = true) : v = .null ∨ ∃ a, v = .ref a := by
  cases v with
  | null => exact Or.inl rfl
  | ref a => exact Or.inr ⟨a, rfl⟩
  | _ => cases h
def q_ret (cc : ByteArray) (ret : Option FieldType) (pc : Nat) (v : Option Value) : Prop :=
  (∃ (x : Int32) (ty : FieldType), ret = some ty ∧ narrow ty (.int x) = .int x ∧ v = some (.int x) ∧ decode cc pc = .ok (.ireturn, 1)) ∨ (ret = none ∧ v = none ∧ decode cc pc = .ok (.return_, 1)) ∨ (∃ (w : Value) (rt : FieldType), ret = some rt ∧ ((∃ n, rt = .object n) ∨ ∃ t, rt = .array t) ∧ q_isr w = true ∧ v = some w ∧ decode cc pc = .ok (.areturn, 1))
abbrev q_E : Type := Option Value → q_G → Nat → Prop
def q_F (T : q_T) (M : q_M) (E : q_E) (p : Program) (e : Env) (R : Room) (s : State) (m : MethodId) (args : Array Value) (below : List Frame) (meth : Method) (c : Code) (Q : State → Prop) : Prop :=
  ∀ (pc : Nat) (ls : Array Slot) (v : Option Value) (G : q_G) (sz : Nat) (H : Heap) (locs : List Loc) (cells slots : Nat), q_ret M.2.2.1 M.2.2.2.2 pc v → E v G sz → q_H T s G sz H locs → cells ≤ R.cells → slots ≤ R.slots → W p T.1 e R s m args below meth c H locs cells slots Q (F0 m pc ls v.toList)
def q_L (n : Nat) (ls : List (Option Value)) (lsA : Array Slot) : Prop := lsA.size = n ∧ lv_wf lsA ∧ ls.length = n ∧ ∀ (i : Nat) (v : Value), ls[i]? = some (some v) → lsA[i]? = some (.val v) ∧ v.category = 1
/-- the body of method M at pc, locals ls, stack st, ghost heap G of size sz, bc cells and bs slots left: it comes to an answer and a ghost heap with E -/
def q_R (T : q_T) (M : q_M) (fr lo pc : Nat) (ls : List (Option Value)) (st : List Value) (G : q_G) (sz bc bs : Nat) (E : q_E) : Prop :=
  ∀ (p : Program) (e : Env) (R : Room) (s : State) (m : MethodId) (args : Array Value) (below : List Frame) (meth : Method) (c : Code) (Q : State → Prop) (H : Heap) (locs : List Loc) (cells slots : Nat) (lsA : Array Slot),
    q_B T M fr lo p R s m args meth c → q_F T M E p e R s m args below meth c Q → q_H T s G sz H locs → q_L M.2.2.2.1 ls lsA → cells + bc ≤ R.cells → slots + bs ≤ R.slots →
    W p T.1 e R s m args below meth c H locs cells slots Q (F0 m pc lsA st)
def q_pre (T : q_T) (G : q_G) (sz : Nat) (U : State) : Prop := U.heap.size = sz ∧ q_gP T G U.heap ∧ q_K T U
def q_post (T : q_T) (E : q_E) : Array Value → State → Outcome → State → Prop := fun _ st oc t => ∃ (v : Option Value) (G : q_G) (sz : Nat), oc = .returned v ∧ E v G sz ∧ t.heap.size = sz ∧ q_gP T G t.heap ∧ va_F (q_own T) st t
def q_ws (M : q_M) : List Cond := Cond.code M.2.1 M.2.2.1 M.2.2.2.1 M.2.2.2.2 :: q_gw
/-- a call of M with the arguments As -/
def q_C (T : q_T) (M : q_M) (fr lo mc ms : Nat) (As : List Value) (G : q_G) (sz : Nat) (E : q_E) : Prop :=
  Met T.1 M.2.1 (q_ws M) { frames := fr, cells := mc, slots := ms, locals := lo } (va_Pc As (q_pre T G sz)) (q_post T E) mc ms (q_own T)
theorem q_K.same {T : q_T} {u U : State} (hh : U.heap = u.heap) (hv : U.vm = u.vm) (h : q_K T u) : q_K T U := by
  obtain ⟨h1, h2, h3, h4, h5, h6⟩ := h
  have ha : u.vm.Alike U.vm := by rw [hv]; exact Vm.Alike.refl _
  refine ⟨h1.moved ha, fun w hw => ?_, fun C hC => (h3 C hC).moved ha, ?_, ?_, by rw [hh]; exact h6⟩
  · have hw' : w.onTables = true := by
      simp only [q_nw, List.mem_cons, List.not_mem_nil, or_false] at hw
      rcases hw with rfl | rfl | rfl | rfl | rfl | rfl | rfl | rfl | rfl <;> rfl
    exact (h2 w hw).same hw' hv.symm
  · exact ⟨by rw [hh]; exact h4.1.moved ha, by rw [hh]; exact h4.2.1.moved ha, by rw [hh]; exact h4.2.2.1.moved ha, fun a e he => by rw [hh]; exact (h4.2.2.2 a e he).moved ha⟩
  · rw [hh]
    rcases h5 with h | ⟨t, h⟩
    · exact Or.inl (h.moved ha)
    · exact Or.inr ⟨t, h.moved ha⟩
theorem q_K.call {T : q_T} {s U : State} {H : Heap} {locs : List Loc} (h : q_K T s) (hS : va_S (q_own T) s.heap H locs) (hH : U.heap = H) (hW : s.WarmedH U.vm) : q_K T U := by
  obtain ⟨h1, h2, h3, h4, h5, h6⟩ := h
  refine ⟨h1.moved hW.alike, fun w hw => ?_, fun C hC => (h3 C hC).moved hW.alike, ?_, ?_, by rw [hH]; exact Nat.le_trans h6 hS.1⟩
  · have hz := h2 w hw
    simp only [q_nw, List.mem_cons, List.not_mem_nil, or_false] at hw
    rcases hw with rfl | rfl | rfl | rfl | rfl | rfl | rfl | rfl | rfl <;> first | exact hz.warmM hW | exact word_at hW (Or.inl (by first | rfl | simp [Cond.onTables, Cond.keeps, Cond.steady])) hz
  · exact ⟨by rw [hH]; exact (h4.1.kept (fun a h7 h8 => hS.2.1 a h7 h8)).moved hW.alike, by rw [hH]; exact (h4.2.1.kept (fun a h7 h8 => hS.2.1 a h7 h8)).moved hW.alike, by rw [hH]; exact (h4.2.2.1.kept (fun a h7 h8 => hS.2.1 a h7 h8)).moved hW.alike, fun a e he => by
      rw [hH]
      exact ((h4.2.2.2 a e he).kept (fun a h7 h8 => hS.2.1 a h7 h8)).moved hW.alike⟩
  · rw [hH]
    rcases h5 with h | ⟨t, h⟩
    · exact Or.inl ((h.kept (fun a h7 h8 => hS.2.1 a h7 h8)).moved hW.alike)
    · exact Or.inr ⟨t, (h.kept (fun a h7 h8 => hS.2.1 a h7 h8)).moved hW.alike⟩
theorem q_pre_blind (T : q_T) (As : List Value) (G : q_G) (sz : Nat) : FrameBlind (va_Pc As (q_pre T G sz)) := fun a U g mk q => ⟨q.1, q.2.1, q.2.2.1, q_K.same (u := U) (U := U.calling g mk a) rfl rfl q.2.2.2⟩
theorem q_R.mono {T : q_T} {M : q_M} {fr lo pc : Nat} {ls : List (Option Value)} {st : List Value} {G : q_G} {sz bc bs : Nat} {E E' : q_E} (h : q_R T M fr lo pc ls st G sz bc bs E) (hE : ∀ v G sz, E v G sz → E' v G sz) : q_R T M fr lo pc ls st G sz bc bs E' :=
  fun p e R s m args below meth c Q H locs cells slots lsA hB hF => h p e R s m args below meth c Q H locs cells slots lsA hB (fun pc ls v G sz H locs cells slots h1 h2 => hF pc ls v G sz H locs cells slots h1 (hE v G sz h2))
theorem q_R.less {T : q_T} {M : q_M} {fr lo pc : Nat} {ls : List (Option Value)} {st : List Value} {G : q_G} {sz bc bs bc' bs' : Nat} {E : q_E} (h : q_R T M fr lo pc ls st G sz bc bs E) (h1 : bc ≤ bc') (h2 : bs ≤ bs') : q_R T M fr lo pc ls st G sz bc' bs' E :=
  fun p e R s m args below meth c Q H locs cells slots lsA hB hF hH hL k1 k2 => h p e R s m args below meth c Q H locs cells slots lsA hB hF hH hL (by omega) (by omega)
theorem q_C.mono {T : q_T} {M : q_M} {fr lo mc ms : Nat} {As : List Value} {G : q_G} {sz : Nat} {E E' : q_E} (h : q_C T M fr lo mc ms As G sz E) (hE : ∀ v G sz, E v G sz → E' v G sz) : q_C T M fr lo mc ms As G sz E' := by
  intro p e ha hc hk s m args below hf happ hP hK
  obtain ⟨k, o, h1, h2, h3, ⟨v, G', sz', q1, q2, q3⟩, h4⟩ := h p e ha hc hk s m args below hf happ hP hK
  exact ⟨k, o, h1, h2, h3, ⟨v, G', sz', q1, hE _ _ _ q2, q3⟩, h4⟩
