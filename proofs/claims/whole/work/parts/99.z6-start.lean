/-! THE CLAIM OUT OF ONE WALK OF THE LAW'S BODY. Your part is whole_start (and what it stands on); all else here is the same for every law, but numbers. -/
def R_law : String := "RunPicturesLaw"
def lw_P (b : Addr) (xs : List Int32) (args : Array Value) (s : State) : Prop := args = #[.ref b] ∧ s.IntsAt b xs ∧ xs.length ≤ 2560 ∧ (Jvm.Cond.and given_1 narrow_1).before args s = true
def lw_Q (_ : Array Value) (s : State) (o : Outcome) (t : State) : Prop := o = .returned (some (.int 1)) ∧ Framed s o t [] 600000 7302250
def lw_Z (below : List Frame) (a : Array Value) (s : State) : State → Prop := fun t => ∃ o, t.status = .running ∧ Ended t below o ∧ lw_Q a s o t
/-- the law's own end, with 1 on the stack, nothing written that was there before, its room as the claim has it -/
theorem lw_ret {p : Program} {l : Launch} {e : Env} {s : State} {m : MethodId} {below : List Frame} {meth : Method} {c : Code} {b : Nat} (hx : p.tables.exec = Jvm.exec) (hb : c.code = code) (hr : meth.sig.returnType = ret) (hlocks : meth.locks = false) {pc : Nat} {H : Heap} {ls : Array Slot} (hdg : decode code pc = .ok (.ireturn, 1)) : W p l e room_1 s m #[Value.ref b] below meth c H [] 600000 7302250 (lw_Z below #[Value.ref b] s) (F0 m pc ls [.int 1]) := by
  intro T hT X
  obtain ⟨fs, hret, hrun, hended, hW, hframe⟩ := X.leave (v := some (.int 1)) (hlocks := hlocks) (fun h => by rw [hr] at h; cases h)
  have hmeth' : T.vm.method? m = some meth := X.method'
  refine ⟨T.setFrames fs, ?_, .returned (some (.int 1)), hrun, hended, rfl, ⟨_, rfl⟩, hW, hframe⟩
  jvm_step X.here [X.here.top, hx, hb, hdg, hmeth', hr, ret, narrow_b1]
  (try refine ⟨rfl, ?_⟩); (try refine ⟨rfl, ?_⟩)
  first | (intro acts; rw [hret _ acts rfl rfl rfl]) | rw [hret _ _ rfl rfl rfl]
  exact Steps.refl _
/-- what holds at the law's entry: the machine, the code, the tables' words (any of lw_tbl by 'hts w (by decide +kernel)'), the script of L ints xs at the cell b, what the Statement gives of the start (any of its parts by flat_of_before) -/
def lw_At (p : Program) (s : State) (m : MethodId) (meth : Method) (c : Code) (b L : Nat) (xs : Nat → Int32) : Prop :=
  p.tables.exec = Jvm.exec ∧ c.code = code ∧ meth.sig.returnType = ret ∧ c.maxLocals = 4 ∧ s.vm.findClass R_law = some m.cls ∧ (∀ w ∈ lw_tbl, w.before #[Value.ref b] s = true) ∧ va_X b L xs s s.heap ∧ b < s.heap.size ∧ meth.locks = false ∧ (Jvm.Cond.and given_1 narrow_1).before #[Value.ref b] s = true

theorem lw_none {cA : ClassId} {n : Nat} {z : Nat → Value} : ∀ q, (arrV cA n z).vm ≠ .statics q := fun q e => by
  have e : VmData.none = VmData.statics q := e
  cases e
theorem lw_ac {args : Array Value} {s : State} {ty : FieldType} (hty : ∀ (U : State) (cA : ClassId), va_RA U cA ty = (U.vm.findClass ("[" ++ ty.toString) = some cA)) (h : (Cond.arrayClass ty).before args s = true) : ∃ cA : ClassId, ArrOfT s cA ty ∧ va_RA s cA ty := by
  obtain ⟨c, k, comp, h1, h2, h3⟩ := Cond.arrayClass_spec h
  exact ⟨c, fun n z => ⟨lw_none, k, h2, comp, h3⟩, by rw [hty]; exact h1⟩
theorem lw_ao {args : Array Value} {s : State} {C : String} (h : (Cond.arrayOver (.object C)).before args s = true) : ∃ cA : ClassId, ArrOfT s cA (.object C) ∧ va_RA s cA (.object C) := by
  obtain ⟨comp, c, k, h1, h2, h3, h4, h5⟩ := Cond.arrayOver_spec h
  exact ⟨c, fun n z => ⟨lw_none, k, h3, comp, h4⟩, k, comp, h3, h4, h1, h5⟩
/-- a private method of the super is what a call on the class finds -/
theorem lw_sel {args : Array Value} {s : State} {C : String} {y y0 : MethodName} {n : Nat} (hy : y.cls ≠ "java/lang/invoke/MethodHandle" ∧ y.cls ≠ "java/lang/invoke/VarHandle") (hins : (Cond.instantiable C n).before args s = true) (hpriv : (Cond.privateMethod y).before args s = true) (hinst : (Cond.instanceMethod y).before args s = true) (hsl : (Cond.selects C y0 y0).before args s = true) (hcl : y0.cls = y.cls) : (Cond.selects C y y).before args s = true := by
  obtain ⟨c, k, hc, -⟩ := Cond.instantiable_spec hins
  obtain ⟨mk, methM, hnamed, hmethM, -, -⟩ := Cond.instanceMethod_spec hinst
  have hfound : s.methodFound? y.cls y.name y.desc = some mk := State.methodFound?_of_named hnamed hy
  have hsel : selectMethod {} s.vm c mk = .method mk := selectMethod_private hmethM (Cond.privateMethod_at hpriv mk methM hnamed hmethM)
  obtain ⟨c0, r0, m0, q1, q2, q3, q4, mk0, q5, q6⟩ := Cond.selects_spec hsl
  have hcls2 : m0.cls = mk.cls := Option.some.inj ((findClass_of_methodNamed q3).symm.trans (by rw [hcl]; exact findClass_of_methodNamed hnamed))
  rw [hcls2] at q5
  simp only [Cond.before, Cond.holds, Cond.value, hc, hfound, hnamed, hsel, q5]
  simp; exact q6

theorem lw_nw {s : State} {b : Nat} (hts : ∀ w ∈ lw_tbl, w.before #[Value.ref b] s = true) : ∀ w ∈ q_nw, va_Nw w s := by
  intro w hw
  simp only [q_nw, List.mem_cons, List.not_mem_nil, or_false] at hw
  rcases hw with rfl | rfl | rfl | rfl | rfl | rfl | rfl | rfl | rfl
  · exact va_Nw.of rfl (hts _ (List.mem_of_getElem? (i := 255) (by decide +kernel)))
  · exact va_Nw.of rfl (hts _ (List.mem_of_getElem? (i := 389) (by decide +kernel)))
  · exact va_Nw.of rfl (hts _ (List.mem_of_getElem? (i := 418) (by decide +kernel)))
  · exact va_Nw.of rfl (hts _ (List.mem_of_getElem? (i := 521) (by decide +kernel)))
  · exact va_Nw.of rfl (hts _ (List.mem_of_getElem? (i := 535) (by decide +kernel)))
  · exact va_Nw.of rfl (hts _ (List.mem_of_getElem? (i := 566) (by decide +kernel)))
  · exact va_Nw.of rfl (hts _ (List.mem_of_getElem? (i := 567) (by decide +kernel)))
  · exact va_Nw.of rfl (lw_sel (n := 4) (y0 := yJ5_isLatin1_aae02) (by decide) (hts _ (List.mem_of_getElem? (i := 79) (by decide +kernel))) (hts _ (List.mem_of_getElem? (i := 742) (by decide +kernel))) (hts _ (List.mem_of_getElem? (i := 743) (by decide +kernel))) (hts _ (List.mem_filter.mp sj_J5_isLatin1_aae02).1) rfl)
  · exact va_Nw.of rfl (lw_sel (n := 4) (y0 := yJ5_isLatin1_aae02) (by decide) (hts _ (List.mem_of_getElem? (i := 79) (by decide +kernel))) (hts _ (List.mem_of_getElem? (i := 746) (by decide +kernel))) (hts _ (List.mem_of_getElem? (i := 747) (by decide +kernel))) (hts _ (List.mem_filter.mp sj_J5_isLatin1_aae02).1) rfl)

theorem lw_d1 : ∀ j, j < 100 → (flatC (Cond.and given_1 narrow_1))[12 + j]? = some (Cond.eq (.elem (.static "java/lang/Integer" "DigitOnes" "[B") (.int (Int32.ofNat j))) (.int (nI (48 + j % 10)))) := by decide +kernel
theorem lw_d2 : ∀ j, j < 100 → (flatC (Cond.and given_1 narrow_1))[115 + j]? = some (Cond.eq (.elem (.static "java/lang/Integer" "DigitTens" "[B") (.int (Int32.ofNat j))) (.int (nI (48 + j / 10)))) := by decide +kernel

set_option maxHeartbeats 4000000 in
set_option maxRecDepth 100000 in
/-- what the tables, the statics and the script are at the start -/
theorem lw_T {s : State} (l : Launch) {b L : Nat} {xs : Nat → Int32} (hL : L ≤ 2560) (hts : ∀ w ∈ lw_tbl, w.before #[Value.ref b] s = true) (hX : va_X b L xs s s.heap) (hbl : b < s.heap.size) (hgv : (Jvm.Cond.and given_1 narrow_1).before #[Value.ref b] s = true) : ∃ T : q_T, T.1 = l ∧ T.2.2.2.1 = s.heap.size ∧ q_K T s ∧ Dig T ∧ T.2.2.2.2.1 b = some (.int, L, xs) := by
  have hgw : ∀ w ∈ q_gw, w.before #[Value.ref b] s = true := fun w hw => hts w (List.mem_filter.mp hw).1
  obtain ⟨c0, i0, k0⟩ := u_known (C := RJ4) (T := TJ4) (N := 4) (n := 4) hgw ing_J4 (hts _ (List.mem_of_getElem? (i := 79) (by decide +kernel)))
  obtain ⟨c1, i1, k1⟩ := u_known (C := RX0) (T := TX0) (N := 9) (n := 9) hgw ing_X0 (hts _ (List.mem_of_getElem? (i := 630) (by decide +kernel)))
  obtain ⟨c2, i2, k2⟩ := u_known (C := RX1) (T := TX1) (N := 4) (n := 4) hgw ing_X1 (hts _ (List.mem_of_getElem? (i := 174) (by decide +kernel)))
  obtain ⟨c3, i3, k3⟩ := u_known (C := RX2) (T := TX2) (N := 3) (n := 3) hgw ing_X2 (hts _ (List.mem_of_getElem? (i := 492) (by decide +kernel)))
  obtain ⟨c4, i4, k4⟩ := u_known (C := RX3) (T := TX3) (N := 13) (n := 13) hgw ing_X3 (hts _ (List.mem_of_getElem? (i := 242) (by decide +kernel)))
  obtain ⟨c5, i5, k5⟩ := u_known (C := RX4) (T := TX4) (N := 7) (n := 7) hgw ing_X4 (hts _ (List.mem_of_getElem? (i := 235) (by decide +kernel)))
  obtain ⟨c6, i6, k6⟩ := u_known (C := RX5) (T := TX5) (N := 3) (n := 3) hgw ing_X5 (hts _ (List.mem_of_getElem? (i := 112) (by decide +kernel)))
  obtain ⟨c7, i7, k7⟩ := u_known (C := RX6) (T := TX6) (N := 6) (n := 6) hgw ing_X6 (hts _ (List.mem_of_getElem? (i := 143) (by decide +kernel)))
  obtain ⟨c8, i8, k8⟩ := u_known (C := RX7) (T := TX7) (N := 2) (n := 2) hgw ing_X7 (hts _ (List.mem_of_getElem? (i := 130) (by decide +kernel)))
  obtain ⟨c9, i9, k9⟩ := u_known (C := RX8) (T := TX8) (N := 11) (n := 11) hgw ing_X8 (hts _ (List.mem_of_getElem? (i := 67) (by decide +kernel)))
  obtain ⟨c10, i10, k10⟩ := u_known (C := RX9) (T := TX9) (N := 36) (n := 36) hgw ing_X9 (hts _ (List.mem_of_getElem? (i := 909) (by decide +kernel)))
  obtain ⟨dC, dI, hKc⟩ : ∃ (dC : Nat → ClassId) (dI : Nat → Nat → Nat), ∀ (k : Nat) (q : vw_C), vwCl[k]? = some q → u_Kn s q.1 q.2.1 q.2.2 (dC k) (dI k) := by
    refine ⟨fun k => [c0, c1, c2, c3, c4, c5, c6, c7, c8, c9, c10].getD k c0, fun k => [i0, i1, i2, i3, i4, i5, i6, i7, i8, i9, i10].getD k i0, ?_⟩
    intro k q hq
    match k, hq with
    | 0, hq => cases hq; exact k0
    | 1, hq => cases hq; exact k1
    | 2, hq => cases hq; exact k2
    | 3, hq => cases hq; exact k3
    | 4, hq => cases hq; exact k4
    | 5, hq => cases hq; exact k5
    | 6, hq => cases hq; exact k6
    | 7, hq => cases hq; exact k7
    | 8, hq => cases hq; exact k8
    | 9, hq => cases hq; exact k9
    | 10, hq => cases hq; exact k10
    | k + 11, hq => simp [vwCl] at hq
  obtain ⟨a0, r0⟩ := lw_ac (ty := .int) (fun _ _ => rfl) (hts _ (List.mem_filter.mp ac_int).1)
  obtain ⟨a1, r1⟩ := lw_ac (ty := .byte) (fun _ _ => rfl) (hts _ (List.mem_filter.mp ac_byte).1)
  obtain ⟨a2, r2⟩ := lw_ac (ty := .boolean) (fun _ _ => rfl) (hts _ (List.mem_filter.mp ac_boolean).1)
  have w0 : (Cond.arrayOver (.object RX4)).before #[Value.ref b] s = true := hts _ (List.mem_of_getElem? (i := 75) (by decide +kernel))
  obtain ⟨a3, r3⟩ := lw_ao w0
  have w1 : (Cond.arrayOver (.object RX0)).before #[Value.ref b] s = true := hts _ (List.mem_of_getElem? (i := 77) (by decide +kernel))
  obtain ⟨a4, r4⟩ := lw_ao w1
  have w2 : (Cond.arrayOver (.object RX2)).before #[Value.ref b] s = true := hts _ (List.mem_of_getElem? (i := 149) (by decide +kernel))
  obtain ⟨a5, r5⟩ := lw_ao w2
  have w3 : (Cond.arrayOver (.object RX3)).before #[Value.ref b] s = true := hts _ (List.mem_of_getElem? (i := 241) (by decide +kernel))
  obtain ⟨a6, r6⟩ := lw_ao w3
  obtain ⟨dA, hA⟩ : ∃ dA : Nat → ClassId, ∀ (k : Nat) (q : ClassId × FieldType), (q_tys dA)[k]? = some q → ArrOfT s q.1 q.2 ∧ va_RA s q.1 q.2 := by
    refine ⟨fun k => [a0, a1, a2, a3, a4, a5, a6].getD k a0, ?_⟩
    intro k q hq
    match k, hq with
    | 0, hq => cases hq; exact r0
    | 1, hq => cases hq; exact r1
    | 2, hq => cases hq; exact r2
    | 3, hq => cases hq; exact r3
    | 4, hq => cases hq; exact r4
    | 5, hq => cases hq; exact r5
    | 6, hq => cases hq; exact r6
    | k + 7, hq => simp [q_tys] at hq
  have hs := flat_of_before _ hgv
  have hn : ∀ a : Nat, a < s.heap.size → ¬ (fun q : Nat => s.heap.size ≤ q) a := fun a h1 h2 => absurd h1 (Nat.not_lt.mpr h2)
  obtain ⟨aO, eO, hO⟩ := va_Tof (tm := .static "java/lang/Integer" "DigitOnes" "[B") (ty := .byte) (N := 100) (f := fun j => .int (nI (48 + j % 10))) (A := fun q => s.heap.size ≤ q) (by decide) (hs _ (List.mem_of_getElem? (i := 10) (by decide +kernel))) (va_eqt (z := Int32.ofNat 100) (hs _ (List.mem_of_getElem? (i := 11) (by decide +kernel)))) (fun j hj => va_eqt (hs _ (List.mem_of_getElem? (lw_d1 j hj)))) hn
  have zO := va_Zof (A := fun q => s.heap.size ≤ q) (hts _ (List.mem_of_getElem? (i := 861) (by decide +kernel))) (hts _ (List.mem_of_getElem? (i := 58) (by decide +kernel))) eO hn
  obtain ⟨aU, eU, hU⟩ := va_Tof (tm := .static "java/lang/Integer" "DigitTens" "[B") (ty := .byte) (N := 100) (f := fun j => .int (nI (48 + j / 10))) (A := fun q => s.heap.size ≤ q) (by decide) (hs _ (List.mem_of_getElem? (i := 113) (by decide +kernel))) (va_eqt (z := Int32.ofNat 100) (hs _ (List.mem_of_getElem? (i := 114) (by decide +kernel)))) (fun j hj => va_eqt (hs _ (List.mem_of_getElem? (lw_d2 j hj)))) hn
  have zU := va_Zof (A := fun q => s.heap.size ≤ q) (hts _ (List.mem_of_getElem? (i := 863) (by decide +kernel))) (hts _ (List.mem_of_getElem? (i := 58) (by decide +kernel))) eU hn
  have zC := va_Zof (A := fun q => s.heap.size ≤ q) (v := .int 1) (hts _ (List.mem_of_getElem? (i := 88) (by decide +kernel))) (hts _ (List.mem_of_getElem? (i := 48) (by decide +kernel))) (va_eqi (C := "java/lang/String") (n := "COMPACT_STRINGS") (d := "Z") (z := 1) (hs _ (List.mem_of_getElem? (i := 4) (by decide +kernel)))) hn
  have zQ := va_Zqof (C := "jdk/internal/util/Preconditions") (n := "SIOOBE_FORMATTER") (d := "Ljava/util/function/BiFunction;") (A := fun q => s.heap.size ≤ q) (hts _ (List.mem_of_getElem? (i := 822) (by decide +kernel))) (hts _ (List.mem_of_getElem? (i := 65) (by decide +kernel))) (hs _ (List.mem_of_getElem? (i := 5) (by decide +kernel))) hn
  have hS : va_T .int b L (fun j => .int (xs j)) (fun q => s.heap.size ≤ q) s s.heap := by
    obtain ⟨scr, h1, h2, h3, h4, h5⟩ := hX
    exact ⟨scr, h1, h2, h3, by rw [h4]; exact Nat.le_refl _, by rw [h4], h5, hn b hbl⟩
  have nO : ∀ a : Nat, ∀ f : Nat → Value, va_T .byte a 100 f (fun q => s.heap.size ≤ q) s s.heap → a ≠ b := fun a f ha eab => by
    subst eab
    obtain ⟨q1, g1, ⟨-, u1, g2, v1, g3⟩, -⟩ := ha
    obtain ⟨q2, j1, ⟨-, u2, j2, v2, j3⟩, -⟩ := hS
    cases g1.symm.trans j1
    cases g2.symm.trans j2
    cases g3.symm.trans j3
  have nU : aU ≠ aO := fun eab => by
    subst eab
    obtain ⟨q1, g1, -, -, -, -, g2, -⟩ := hO
    obtain ⟨q2, j1, -, -, -, -, j2, -⟩ := hU
    cases g1.symm.trans j1
    have := (g2 1 (by decide)).symm.trans (j2 1 (by decide))
    revert this
    decide
  have nOb := nO aO _ hO
  have nUb := nO aU _ hU
  refine ⟨(l, (dC, dI), dA, s.heap.size, fun a => if a = b then some (.int, L, xs) else if a = aO then some (.byte, 100, fun j => nI (48 + j % 10)) else if a = aU then some (.byte, 100, fun j => nI (48 + j / 10)) else none, aO, aU), rfl, rfl, ⟨⟨hKc, hA⟩, lw_nw hts, ?_, ⟨zC, zO, zU, ?_⟩, zQ, Nat.le_refl _⟩, ⟨100, _, _, ?_, ?_, ⟨by decide, by decide⟩, fun k _ => ⟨rfl, rfl⟩⟩, if_pos rfl⟩
  · intro C hC
    simp only [List.mem_cons, List.not_mem_nil, or_false] at hC
    rcases hC with rfl | rfl | rfl | rfl
    · exact va_AO.of w0
    · exact va_AO.of w1
    · exact va_AO.of w2
    · exact va_AO.of w3
  · intro a e he
    have he : (fun a => if a = b then some (.int, L, xs) else if a = aO then some (.byte, 100, fun j => nI (48 + j % 10)) else if a = aU then some (.byte, 100, fun j => nI (48 + j / 10)) else none) a = some e := he
    dsimp only at he
    split at he
    · next ea => cases he; rw [ea]; exact hS
    · split at he
      · next ea => cases he; rw [ea]; exact hO
      · split at he
        · next ea => cases he; rw [ea]; exact hU
        · cases he
  · exact (if_neg nOb).trans (if_pos rfl)
  · exact (if_neg nUb).trans ((if_neg nU).trans (if_pos rfl))

set_option maxHeartbeats 4000000 in
set_option maxRecDepth 100000 in
theorem whole_start {p : Program} {e : Env} {s : State} {m : MethodId} {below : List Frame} {meth : Method} {c : Code} (l : Launch) {b L : Nat} {xs : Nat → Int32} (hL : L ≤ 2560) (C0 : lw_At p s m meth c b L xs) : W p l e room_1 s m #[Value.ref b] below meth c s.heap [] 0 0 (lw_Z below #[Value.ref b] s) (entryFrame m ([Value.ref b] : List Value).toArray 4) := by
  obtain ⟨hx, hb, hr, hml, hown, hts, hX, hbl, hlocks, hgv⟩ := id C0
  obtain ⟨T, hT1, hT2, hK, hD, hXs⟩ := lw_T l hL hts hX hbl hgv
  subst hT1
  have hl := lv_entry ([.ref b]) (n := 4) (Nat.le_of_ble_eq_true rfl)
  rw [lg_entry_eq]
  refine lw_begin (T := T) (G := fun _ => none) (sz := s.heap.size) (bc := 600000) (bs := 7302250) (E := fun v _ _ => v = some (.int (nI 1))) hD hXs hL (fun _ _ => rfl) (by decide) (by decide) p e room_1 s m #[Value.ref b] below meth c _ s.heap [] 0 0 _ ⟨hx, hb, hml, hr, hown, fun w hw => hts w (List.mem_filter.mp hw).1, fun h => absurd h (by decide), hK, rfl, rfl⟩ ?_ ⟨rfl, (fun a x h => by cases h), va_S.rf⟩ ⟨hl.1, hl.2.1, rfl, ?_⟩ (by decide) (by decide)
  · intro pc ls v G2 sz2 H locs cells slots hret hE hH k1 k2
    have hE : v = some (.int (nI 1)) := hE
    subst hE
    refine va_forget (fun q hq => ?_) (W.widen (k := 600000) (n := 7302250) k1 k2 ?_)
    · have := hH.2.2.2.2 q hq
      unfold q_own at this
      rw [hT2] at this
      exact this
    · rcases hret with ⟨x, ty, h1, h2, h3, h4⟩ | ⟨h1, h2, h4⟩ | ⟨w, rt, h1, h2, h3, h4, h5⟩
      · exact lw_ret hx hb hr hlocks h4
      · cases h1
      · cases h4; cases h3
  · intro i v hi
    match i, hi with
    | 0, hi =>
      cases hi
      exact ⟨rfl, rfl⟩
    | 1, hi => cases hi
    | 2, hi => cases hi
    | 3, hi => cases hi
    | i + 4, hi => cases hi
