/-! rows of the heap -/
def q_up (G : q_G) (a : Nat) (e : va_E) : q_G := fun b => if b = a then some e else G b
theorem q_up_s {G : q_G} {a : Nat} {e : va_E} : q_up G a e a = some e := if_pos rfl
theorem q_up_n {G : q_G} {a b : Nat} {e : va_E} (h : b ≠ a) : q_up G a e b = G b := if_neg h
def q_ia (T : q_T) (n : Nat) (f : Nat → Int32) : va_E := .inl (T.2.2.1 0, n, .inl f)
def q_ba (T : q_T) (n : Nat) (f : Nat → Int32) : va_E := .inl (T.2.2.1 1, n, .inl f)
def q_za (T : q_T) (n : Nat) (f : Nat → Int32) : va_E := .inl (T.2.2.1 2, n, .inl f)
def q_ra (T : q_T) (t n : Nat) (f : Nat → Option Nat) : va_E := .inl (T.2.2.1 t, n, .inr (.inr (.inr (.inr f))))
def q_ob (ci : Nat) (fs : List Value) : va_E := .inr (ci, fs)
theorem q_gP.one {T : q_T} {G : q_G} {H : Heap} {a : Nat} {e : va_E} (h : q_gP T G H) (hG : G a = some e) : va_P T.2.1 vwCl [(a, e)] H := fun k q hk => by
  have hz : k < 1 := (List.getElem?_eq_some_iff.mp hk).1
  rw [show k = 0 by omega] at hk
  cases hk
  exact (h a e hG).1
theorem q_gP.put {T : q_T} {G : q_G} {H H' : Heap} {a : Nat} {e e' : va_E} (h : q_gP T G H) (hG : G a = some e) (he : va_at T.2.1 vwCl (a, e') H') (oq : ∀ q : Nat, q ≠ a → H'[q]? = H[q]?) : q_gP T (q_up G a e') H' := by
  intro b x hb
  by_cases hba : b = a
  · subst hba
    rw [q_up_s] at hb
    cases hb
    exact ⟨he, (h b e hG).2⟩
  · rw [q_up_n hba] at hb
    obtain ⟨h1, h2⟩ := h b x hb
    exact ⟨h1.kept (oq b hba), h2⟩
theorem q_gP.push {T : q_T} {G : q_G} {H H' : Heap} {e' : va_E} (h : q_gP T G H) (hb : T.2.2.2.1 ≤ H.size) (he : va_at T.2.1 vwCl (H.size, e') H') (oq : ∀ q : Nat, q < H.size → H'[q]? = H[q]?) : q_gP T (q_up G H.size e') H' := by
  intro b x hx
  by_cases hba : b = H.size
  · subst hba
    rw [q_up_s] at hx
    cases hx
    exact ⟨he, hb⟩
  · rw [q_up_n hba] at hx
    obtain ⟨h1, h2⟩ := h b x hx
    exact ⟨h1.kept (oq b h1.lt), h2⟩
/-- a field of class number ci: own's pool entry idx is its k-th -/
def q_FL (own : String) (idx ci k : Nat) : Prop := ∃ (C ref : String) (Tt : u_T) (N : Nat) (ty : Nat → FieldType), vwCl[ci]? = some (C, Tt, N) ∧ k < N ∧ (∀ w ∈ u_ws C Tt N, w ∈ q_gw) ∧ Cond.fieldLink own idx ref (Tt k).2.1 (Tt k).2.2.1 ∈ q_gw ∧ ((Tt k).1 = ref ∨ Cond.sameField ref (Tt k).1 (Tt k).2.1 (Tt k).2.2.1 ∈ q_gw) ∧ (∀ j, j < N → parseFieldDescriptor (Tt j).2.2.1 = some (ty j)) ∧ (∀ a, a < N → ∀ b, b < N → a ≠ b → (Tt a).2.1 ≠ (Tt b).2.1)
/-- and may be put: its type; not final, or in a constructor of own -/
def q_FP (own : String) (ci k : Nat) (ty0 : FieldType) (nm : String) : Prop := ∃ (C : String) (Tt : u_T) (N : Nat), vwCl[ci]? = some (C, Tt, N) ∧ parseFieldDescriptor (Tt k).2.2.1 = some ty0 ∧ ((Tt k).2.2.2 = false ∨ ((Tt k).2.2.2 = true ∧ nm = "<init>" ∧ (Tt k).1 = own))
section q_heap
variable {T : q_T} {M : q_M} {fr lo pc : Nat} {ls : List (Option Value)} {st : List Value} {G : q_G} {sz bc bs : Nat} {E : q_E}
theorem q_get {idx a ci k : Nat} {fs : List Value} {v : Value} (hd : decode M.2.2.1 pc = .ok (.getfield idx, 3)) (hf : q_FL M.1 idx ci k) (hG : G a = some (q_ob ci fs)) (hv : fs[k]? = some v) (h : q_R T M fr lo (pc + 3) ls (v :: st) G sz bc bs E) : q_R T M fr lo pc ls (.ref a :: st) G sz bc bs E :=
  h.go fun p e R s m args below meth c Q H locs cells slots lsA hB hH hL kk => by
    obtain ⟨C, ref, Tt, N, ty, h1, h2, h3, h4, h5, h6, h7⟩ := hf
    obtain ⟨b1, b2, b3, b4, b5, b6, b7, b8, b9⟩ := hB
    exact va_get (D := T.2.1) (cl := vwCl) (tys := q_tys T.2.2.1) (ref := ref) (Ts := q_gw) b1 b2 b6 h3 b5 b8.1 (hH.2.1.one hG) 0 rfl h1 k h2 (b6 _ h4) (fun x hx => by
      rcases h5 with h5 | h5
      · rw [h5] at hx; exact hx
      · exact u_same (b6 _ h5) x hx) hv hd kk
theorem q_put {idx a ci k : Nat} {fs : List Value} {v : Value} {ty : FieldType} (hd : decode M.2.2.1 pc = .ok (.putfield idx, 3)) (hf : q_FL M.1 idx ci k) (hp : q_FP M.1 ci k ty M.2.1.name) (hG : G a = some (q_ob ci fs)) (hl : k < fs.length) (hn : narrow ty v = v) (hfit : fits ty v = true) (h : q_R T M fr lo (pc + 3) ls st (q_up G a (q_ob ci (fs.set k v))) sz bc bs E) : q_R T M fr lo pc ls (v :: .ref a :: st) G sz bc bs E := by
  intro p e R s m args below meth c Q H locs cells slots lsA hB hF hH hL k1 k2
  have hB' := hB
  obtain ⟨C, ref, Tt, N, ty0, h1, h2, h3, h4, h5, h6, h7⟩ := hf
  obtain ⟨C', Tt', N', g1, g2, g3⟩ := hp
  obtain ⟨rfl, rfl, rfl⟩ : C = C' ∧ Tt = Tt' ∧ N = N' := by
    have := h1.symm.trans g1
    simp only [Option.some.injEq, Prod.mk.injEq] at this
    exact this
  obtain ⟨b1, b2, b3, b4, b5, b6, b7, b8, b9⟩ := hB'
  have hsame : ∀ x, s.fieldFound? (Tt k).1 (Tt k).2.1 (Tt k).2.2.1 = some x → s.fieldFound? ref (Tt k).2.1 (Tt k).2.2.1 = some x := fun x hx => by
    rcases h5 with h5 | h5
    · rw [h5] at hx; exact hx
    · exact u_same (b6 _ h5) x hx
  have hap := va_apart (own := M.1) b6 h3 ty0 h6 h7 b8.1 h1
  obtain ⟨r, hr1, cell, q1, q2, q3, q4⟩ := (hH.2.1 a _ hG).1
  have hr : r = (C, Tt, N) := Option.some.inj (hr1.symm.trans h1)
  subst hr
  obtain ⟨hSl, hfc, kC, hkC, hkind⟩ := b8.1.1 ci _ h1
  obtain ⟨cf, kf, fi, f, hi, hsl⟩ := hSl k h2
  have hst := (u_facts hfc hkC (u_lays b6 h3 h2) hi).1
  have hlay := b6 _ (h3 _ (u_in_lay h2))
  have fin : ∀ H' : Heap, H'[a]? = some (cell.setSlot f.slot v) → H'.size = H.size → (∀ q, q ≠ a → H'[q]? = H[q]?) → W p T.1 e R s m args below meth c H' (locs ++ [⟨a, f.slot⟩]) cells slots Q (F0 m (pc + 3) lsA st) := by
    intro H' e1 e2 e3
    rw [hsl] at e1
    refine h p e R s m args below meth c Q H' _ cells slots lsA hB hF ⟨e2.trans hH.1, hH.2.1.put hG ?_ e3, hH.2.2.put e2 e3 (hH.2.1 a _ hG).2⟩ hL k1 k2
    exact ⟨_, h1, t_OB.to (V := updV (vp_V fs) k v) ⟨_, e1, q2, q3, t_set q4 hap h2 v⟩ (fun j _ => vp_updV_set hl v j)⟩
  rcases g3 with g3 | ⟨g3, g4, g5⟩
  · unfold u_lay at hlay
    rw [if_neg (by rw [g3]; decide)] at hlay
    have h9 := u_store hfc hkC hkind hlay hi g2 hn hfit
    exact W.putK b1 b2 (f := f) ⟨b5, b6 _ h4, ⟨_, _, _, hsame _ hi⟩, hst⟩ (by rw [q2]; exact h9) q1 q3 (by rw [hsl]; exact k2_hasslot (q4 k h2)) rfl rfl hd fin
  · unfold u_lay at hlay
    rw [if_pos g3] at hlay
    have hcf : m.cls = cf := by
      obtain ⟨_, _, c', _, _, _, -, -, hf', -, -, -, hown2, -⟩ := Cond.laysFinal_spec hlay
      have e1 : c' = cf := by have := hi.symm.trans hf'; simp at this; exact this.1.symm
      rw [g5] at hown2
      rw [← e1]; exact Option.some.inj (b5.symm.trans hown2)
    have h9 := u_fits hfc hkC hkind (Or.inr hlay) hi g2 hn hfit
    exact W.putFinK b1 b2 b5 (b6 _ h4) (hsame _ hi) hst hcf (b7 g4) (by rw [q2]; exact h9) q1 q3 (by rw [hsl]; exact k2_hasslot (q4 k h2)) rfl rfl hd fin
theorem q_iaload {a n k : Nat} {f : Nat → Int32} {i v : Int32} (hd : decode M.2.2.1 pc = .ok (.iaload, 1)) (hG : G a = some (q_ia T n f)) (hi : i = nI k) (hk : k < n) (hn : n < 2 ^ 31) (hv : f k = v) (h : q_R T M fr lo (pc + 1) ls (.int v :: st) G sz bc bs E) : q_R T M fr lo pc ls (.int i :: .ref a :: st) G sz bc bs E := by
  subst hi; subst hv
  exact h.go fun p e R s m args below meth c Q H locs cells slots lsA hB hH hL kk => by
    have hc : (nI k).toNatClampNeg = k := nI_clamp (by omega)
    exact va_iald hB.1 hB.2.1 hB.2.2.2.2.2.2.2.1.1 (hH.2.1.one hG) 0 0 rfl rfl (vp_in_nI hk hn) hd (by rw [hc]; exact kk)
theorem q_zaload {a n k : Nat} {f : Nat → Int32} {i v : Int32} (hd : decode M.2.2.1 pc = .ok (.baload, 1)) (hG : G a = some (q_za T n f)) (hi : i = nI k) (hk : k < n) (hn : n < 2 ^ 31) (hv : f k = v) (h : q_R T M fr lo (pc + 1) ls (.int v :: st) G sz bc bs E) : q_R T M fr lo pc ls (.int i :: .ref a :: st) G sz bc bs E := by
  subst hi; subst hv
  exact h.go fun p e R s m args below meth c Q H locs cells slots lsA hB hH hL kk => by
    have hc : (nI k).toNatClampNeg = k := nI_clamp (by omega)
    exact va_zald hB.1 hB.2.1 hB.2.2.2.2.2.2.2.1.1 (hH.2.1.one hG) 0 2 rfl rfl (vp_in_nI hk hn) hd (by rw [hc]; exact kk)
theorem q_baload {a n k : Nat} {f : Nat → Int32} {i v : Int32} (hd : decode M.2.2.1 pc = .ok (.baload, 1)) (hG : G a = some (q_ba T n f)) (hi : i = nI k) (hk : k < n) (hn : n < 2 ^ 31) (hv : f k = v) (h : q_R T M fr lo (pc + 1) ls (.int v :: st) G sz bc bs E) : q_R T M fr lo pc ls (.int i :: .ref a :: st) G sz bc bs E := by
  subst hi; subst hv
  exact h.go fun p e R s m args below meth c Q H locs cells slots lsA hB hH hL kk => by
    have hc : (nI k).toNatClampNeg = k := nI_clamp (by omega)
    exact va_bald hB.1 hB.2.1 hB.2.2.2.2.2.2.2.1.1 (hH.2.1.one hG) 0 1 rfl rfl (vp_in_nI hk hn) hd (by rw [hc]; exact kk)
theorem q_aaload {a n k t : Nat} {C : String} {f : Nat → Option Nat} {i : Int32} {v : Value} (hd : decode M.2.2.1 pc = .ok (.aaload, 1)) (hG : G a = some (q_ra T t n f)) (ht : (q_tys T.2.2.1)[t]? = some (T.2.2.1 t, .object C)) (hi : i = nI k) (hk : k < n) (hn : n < 2 ^ 31) (hv : va_rf (f k) = v) (h : q_R T M fr lo (pc + 1) ls (v :: st) G sz bc bs E) : q_R T M fr lo pc ls (.int i :: .ref a :: st) G sz bc bs E := by
  subst hi; subst hv
  exact h.go fun p e R s m args below meth c Q H locs cells slots lsA hB hH hL kk => by
    have hc : (nI k).toNatClampNeg = k := nI_clamp (by omega)
    exact va_aldq hB.1 hB.2.1 hB.2.2.2.2.2.2.2.1.1 (hH.2.1.one hG) 0 t rfl ht (vp_in_nI hk hn) hd (by rw [hc]; exact kk)
theorem q_alen {a t : Nat} {ty : FieldType} {x : vp_A} {v : Int32} (hd : decode M.2.2.1 pc = .ok (.arraylength, 1)) (hG : G a = some (.inl (T.2.2.1 t, x))) (ht : (q_tys T.2.2.1)[t]? = some (T.2.2.1 t, ty)) (hv : nI x.1 = v) (h : q_R T M fr lo (pc + 1) ls (.int v :: st) G sz bc bs E) : q_R T M fr lo pc ls (.ref a :: st) G sz bc bs E :=
  h.go fun p e R s m args below meth c Q H locs cells slots lsA hB hH hL kk => va_alen hB.1 hB.2.1 hB.2.2.2.2.2.2.2.1.1 (hH.2.1.one hG) 0 t rfl ht hv hd kk
theorem q_iastore {a n k : Nat} {f : Nat → Int32} {i x : Int32} (hd : decode M.2.2.1 pc = .ok (.iastore, 1)) (hG : G a = some (q_ia T n f)) (hi : i = nI k) (hk : k < n) (hn : n < 2 ^ 31) (h : q_R T M fr lo (pc + 1) ls st (q_up G a (q_ia T n (upd f k x))) sz bc bs E) : q_R T M fr lo pc ls (.int x :: .int i :: .ref a :: st) G sz bc bs E := by
  subst hi
  intro p e R s m args below meth c Q H locs cells slots lsA hB hF hH hL k1 k2
  have hc : (nI k).toNatClampNeg = k := nI_clamp (by omega)
  refine W.iast hB.1 hB.2.1 (hH.2.1 a _ hG).1 ((hB.2.2.2.2.2.2.2.1.1.2 0 _ rfl).1 n (fun j => .int (f j))) (fun q => by cases q) (by show ¬ (_ ∨ (arrV _ _ _).slots.size ≤ _); rw [arrV_size]; exact vp_in_nI hk hn) rfl rfl hd fun H' e1 e2 e3 => ?_
  refine h p e R s m args below meth c Q H' _ cells slots lsA hB hF ⟨e2.trans hH.1, hH.2.1.put hG ?_ e3, hH.2.2.put e2 e3 (hH.2.1 a _ hG).2⟩ hL k1 k2
  show H'[a]? = some (vp_cell _ _)
  rw [e1, hc, vp_cell_i, vp_cell_i, arrV_store]
  congr 2
  funext q
  by_cases hq : q = k
  · subst hq; simp [updV, upd]
  · simp [updV, upd, hq]
theorem q_bastore {a n k : Nat} {f : Nat → Int32} {i x : Int32} (hd : decode M.2.2.1 pc = .ok (.bastore, 1)) (hG : G a = some (q_ba T n f)) (hi : i = nI k) (hk : k < n) (hn : n < 2 ^ 31) (hx : narrow .byte (.int x) = .int x) (h : q_R T M fr lo (pc + 1) ls st (q_up G a (q_ba T n (upd f k x))) sz bc bs E) : q_R T M fr lo pc ls (.int x :: .int i :: .ref a :: st) G sz bc bs E := by
  subst hi
  intro p e R s m args below meth c Q H locs cells slots lsA hB hF hH hL k1 k2
  have hc : (nI k).toNatClampNeg = k := nI_clamp (by omega)
  refine W.bast hB.1 hB.2.1 (hH.2.1 a _ hG).1 ((hB.2.2.2.2.2.2.2.1.1.2 1 _ rfl).1 n (fun j => .int (f j))) (fun q => by cases q) (by show ¬ (_ ∨ (arrV _ _ _).slots.size ≤ _); rw [arrV_size]; exact vp_in_nI hk hn) rfl rfl hd fun H' e1 e2 e3 => ?_
  refine h p e R s m args below meth c Q H' _ cells slots lsA hB hF ⟨e2.trans hH.1, hH.2.1.put hG ?_ e3, hH.2.2.put e2 e3 (hH.2.1 a _ hG).2⟩ hL k1 k2
  show H'[a]? = some (vp_cell _ _)
  rw [e1, hc, hx, vp_cell_i, vp_cell_i, arrV_store]
  congr 2
  funext q
  by_cases hq : q = k
  · subst hq; simp [updV, upd]
  · simp [updV, upd, hq]
theorem q_zastore {a n k : Nat} {f : Nat → Int32} {i x : Int32} (hd : decode M.2.2.1 pc = .ok (.bastore, 1)) (hG : G a = some (q_za T n f)) (hi : i = nI k) (hk : k < n) (hn : n < 2 ^ 31) (hx : narrow .boolean (.int x) = .int x) (h : q_R T M fr lo (pc + 1) ls st (q_up G a (q_za T n (upd f k x))) sz bc bs E) : q_R T M fr lo pc ls (.int x :: .int i :: .ref a :: st) G sz bc bs E := by
  subst hi
  intro p e R s m args below meth c Q H locs cells slots lsA hB hF hH hL k1 k2
  have hc : (nI k).toNatClampNeg = k := nI_clamp (by omega)
  refine W.zast hB.1 hB.2.1 (hH.2.1 a _ hG).1 ((hB.2.2.2.2.2.2.2.1.1.2 2 _ rfl).1 n (fun j => .int (f j))) (fun q => by cases q) (by show ¬ (_ ∨ (arrV _ _ _).slots.size ≤ _); rw [arrV_size]; exact vp_in_nI hk hn) rfl rfl hd fun H' e1 e2 e3 => ?_
  refine h p e R s m args below meth c Q H' _ cells slots lsA hB hF ⟨e2.trans hH.1, hH.2.1.put hG ?_ e3, hH.2.2.put e2 e3 (hH.2.1 a _ hG).2⟩ hL k1 k2
  show H'[a]? = some (vp_cell _ _)
  rw [e1, hc, hx, vp_cell_i, vp_cell_i, arrV_store]
  congr 2
  funext q
  by_cases hq : q = k
  · subst hq; simp [updV, upd]
  · simp [updV, upd, hq]
theorem q_aastore {a n k t v ci : Nat} {r : vw_C} {vs : List Value} {f : Nat → Option Nat} {i : Int32} (hd : decode M.2.2.1 pc = .ok (.aastore, 1)) (hG : G a = some (q_ra T t n f)) (ht : (q_tys T.2.2.1)[t]? = some (T.2.2.1 t, .object r.1)) (hV : G v = some (q_ob ci vs)) (hc0 : vwCl[ci]? = some r) (hi : i = nI k) (hk : k < n) (hn : n < 2 ^ 31) (h : q_R T M fr lo (pc + 1) ls st (q_up G a (q_ra T t n (va_up f k (some v)))) sz bc bs E) : q_R T M fr lo pc ls (.ref v :: .int i :: .ref a :: st) G sz bc bs E := by
  subst hi
  intro p e R s m args below meth c Q H locs cells slots lsA hB hF hH hL k1 k2
  have hc : (nI k).toNatClampNeg = k := nI_clamp (by omega)
  have hK := hB.2.2.2.2.2.2.2.1.1
  obtain ⟨r', hr', cellV, g1, g2, g3, -⟩ := (hH.2.1 v _ hV).1
  have hcls := (hK.1 ci r hc0).2
  obtain ⟨kA, comp, e4, e5, e6, -⟩ := (hK.2 t _ ht).2
  have hcomp : comp = T.2.1.1 ci := Option.some.inj (e6.symm.trans hcls.1)
  subst hcomp
  obtain ⟨kC, hkC, -⟩ := hcls.2
  have hin := vp_in_nI hk hn
  refine W.aast hB.1 hB.2.1 (hH.2.1 a _ hG).1 (fun q h => by cases h) (fun h => by cases h) e4 e5 rfl hkC ⟨fun q => hin (Or.inl q), by show _ < (arrV _ _ _).slots.size; rw [arrV_size, hc]; exact hk⟩ g1 (fun q h => by rw [g3] at h; cases h) (by rw [g2]; exact hkC) (by rw [g2]; exact va_assign hcls) rfl rfl hd fun H' e1 e2 e3 => ?_
  refine h p e R s m args below meth c Q H' _ cells slots lsA hB hF ⟨e2.trans hH.1, hH.2.1.put hG ?_ e3, hH.2.2.put e2 e3 (hH.2.1 a _ hG).2⟩ hL k1 k2
  show H'[a]? = some (vp_cell _ _)
  rw [e1, hc, vp_cell_q, vp_cell_q, arrV_store]
  congr 2
  funext q
  by_cases hq : q = k
  · subst hq; simp [updV, va_up, va_rf]
  · simp [updV, va_up, hq]
theorem q_newI {n : Int32} {N : Nat} (hd : decode M.2.2.1 pc = .ok (.newarray .int, 2)) (hn : n = nI N) (hN : N ≤ 100000) (h1 : 1 ≤ bc) (h2 : N ≤ bs) (hw : Cond.arrayClass .int ∈ q_gw) (h : q_R T M fr lo (pc + 2) ls (.ref sz :: st) (q_up G sz (q_ia T N (fun _ => 0))) (sz + 1) (bc - 1) (bs - N) E) : q_R T M fr lo pc ls (.int n :: st) G sz bc bs E := by
  subst hn
  intro p e R s m args below meth c Q H locs cells slots lsA hB hF hH hL k1 k2
  have hK := hB.2.2.2.2.2.2.2.1
  refine va_newaK (atype := .int) hB.1 hB.2.1 (hB.2.2.2.2.2.1 _ hw) rfl hd rfl (nI_pos (by omega)) (nI_clamp (by omega)) (by show N * 4 ≤ _; omega) (by omega) (by omega) rfl fun H' cA e1 e2 e3 hA hF2 => ?_
  have hcA : cA = T.2.2.1 0 := Option.some.inj (hF2.symm.trans (hK.1.2 0 _ rfl).2)
  subst hcA
  have hz := hH.1
  subst hz
  refine h p e R s m args below meth c Q H' locs (cells + 1) (slots + N) lsA hB hF ⟨e2, hH.2.1.push (Nat.le_trans hK.2.2.2.2.2 hH.2.2.1) ?_ e3, ?_⟩ hL (by omega) (by omega)
  · exact e1
  · exact ⟨Nat.le_trans hH.2.2.1 (by omega), fun q g1 g2 => (e3 q (Nat.lt_of_lt_of_le g1 hH.2.2.1)).trans (hH.2.2.2.1 q g1 g2), hH.2.2.2.2⟩
theorem q_newB {n : Int32} {N : Nat} (hd : decode M.2.2.1 pc = .ok (.newarray .byte, 2)) (hn : n = nI N) (hN : N ≤ 100000) (h1 : 1 ≤ bc) (h2 : N ≤ bs) (hw : Cond.arrayClass .byte ∈ q_gw) (h : q_R T M fr lo (pc + 2) ls (.ref sz :: st) (q_up G sz (q_ba T N (fun _ => 0))) (sz + 1) (bc - 1) (bs - N) E) : q_R T M fr lo pc ls (.int n :: st) G sz bc bs E := by
  subst hn
  intro p e R s m args below meth c Q H locs cells slots lsA hB hF hH hL k1 k2
  have hK := hB.2.2.2.2.2.2.2.1
  refine va_newaK (atype := .byte) hB.1 hB.2.1 (hB.2.2.2.2.2.1 _ hw) rfl hd rfl (nI_pos (by omega)) (nI_clamp (by omega)) (by show N * 1 ≤ _; omega) (by omega) (by omega) rfl fun H' cA e1 e2 e3 hA hF2 => ?_
  have hcA : cA = T.2.2.1 1 := Option.some.inj (hF2.symm.trans (hK.1.2 1 _ rfl).2)
  subst hcA
  have hz := hH.1
  subst hz
  refine h p e R s m args below meth c Q H' locs (cells + 1) (slots + N) lsA hB hF ⟨e2, hH.2.1.push (Nat.le_trans hK.2.2.2.2.2 hH.2.2.1) ?_ e3, ?_⟩ hL (by omega) (by omega)
  · exact e1
  · exact ⟨Nat.le_trans hH.2.2.1 (by omega), fun q g1 g2 => (e3 q (Nat.lt_of_lt_of_le g1 hH.2.2.1)).trans (hH.2.2.2.1 q g1 g2), hH.2.2.2.2⟩
theorem q_newZ {n : Int32} {N : Nat} (hd : decode M.2.2.1 pc = .ok (.newarray .boolean, 2)) (hn : n = nI N) (hN : N ≤ 100000) (h1 : 1 ≤ bc) (h2 : N ≤ bs) (hw : Cond.arrayClass .boolean ∈ q_gw) (h : q_R T M fr lo (pc + 2) ls (.ref sz :: st) (q_up G sz (q_za T N (fun _ => 0))) (sz + 1) (bc - 1) (bs - N) E) : q_R T M fr lo pc ls (.int n :: st) G sz bc bs E := by
  subst hn
  intro p e R s m args below meth c Q H locs cells slots lsA hB hF hH hL k1 k2
  have hK := hB.2.2.2.2.2.2.2.1
  refine va_newaK (atype := .boolean) hB.1 hB.2.1 (hB.2.2.2.2.2.1 _ hw) rfl hd rfl (nI_pos (by omega)) (nI_clamp (by omega)) (by show N * 1 ≤ _; omega) (by omega) (by omega) rfl fun H' cA e1 e2 e3 hA hF2 => ?_
  have hcA : cA = T.2.2.1 2 := Option.some.inj (hF2.symm.trans (hK.1.2 2 _ rfl).2)
  subst hcA
  have hz := hH.1
  subst hz
  refine h p e R s m args below meth c Q H' locs (cells + 1) (slots + N) lsA hB hF ⟨e2, hH.2.1.push (Nat.le_trans hK.2.2.2.2.2 hH.2.2.1) ?_ e3, ?_⟩ hL (by omega) (by omega)
  · exact e1
  · exact ⟨Nat.le_trans hH.2.2.1 (by omega), fun q g1 g2 => (e3 q (Nat.lt_of_lt_of_le g1 hH.2.2.1)).trans (hH.2.2.2.1 q g1 g2), hH.2.2.2.2⟩
theorem q_newR {n : Int32} {N t idx : Nat} {C : String} (hd : decode M.2.2.1 pc = .ok (.anewarray idx, 3)) (hn : n = nI N) (hN : N ≤ 100000) (h1 : 1 ≤ bc) (h2 : N ≤ bs) (hw : Cond.classLink M.1 idx C ∈ q_gw) (hC : C ∈ [RX4, RX0, RX2, RX3]) (ht : (q_tys T.2.2.1)[t]? = some (T.2.2.1 t, .object C)) (h : q_R T M fr lo (pc + 3) ls (.ref sz :: st) (q_up G sz (q_ra T t N (fun _ => none))) (sz + 1) (bc - 1) (bs - N) E) : q_R T M fr lo pc ls (.int n :: st) G sz bc bs E := by
  subst hn
  intro p e R s m args below meth c Q H locs cells slots lsA hB hF hH hL k1 k2
  have hK := hB.2.2.2.2.2.2.2.1
  have hcl : (nI N).toNatClampNeg = N := nI_clamp (by omega)
  refine W.anew hB.1 hB.2.1 hB.2.2.2.2.1 (hB.2.2.2.2.2.1 _ hw) (va_AO.use (hK.2.2.1 C hC)) rfl hd rfl (nI_pos (by omega)) (by rw [hcl]; omega) (by omega) (by rw [hcl]; omega) fun cA kA comp f1 f2 f3 f4 => ?_
  obtain ⟨kA', comp', -, -, -, g4⟩ := (hK.1.2 t _ ht).2
  have hcA : cA = T.2.2.1 t := Option.some.inj (f1.symm.trans g4)
  subst hcA
  rw [hcl]
  generalize hH1 : H.push ({ cls := T.2.2.1 t, slots := Array.replicate N .null, vm := .none } : Cell) = H1
  have z1 : H1.size = H.size + 1 := by rw [← hH1, Array.size_push]
  have e1 : H1[H.size]? = some (arrV (T.2.2.1 t) N (fun _ => .null)) := by rw [← hH1, Array.getElem?_push_size, ← arrV_new]
  have o1 : ∀ q : Nat, q < H.size → H1[q]? = H[q]? := fun q hq => by rw [← hH1, Array.getElem?_push, if_neg (Nat.ne_of_lt hq)]
  have hz := hH.1
  subst hz
  refine h p e R s m args below meth c Q H1 locs (cells + 1) (slots + N) lsA hB hF ⟨z1, hH.2.1.push (Nat.le_trans hK.2.2.2.2.2 hH.2.2.1) ?_ o1, ?_⟩ hL (by omega) (by omega)
  · exact e1
  · exact ⟨Nat.le_trans hH.2.2.1 (by omega), fun q g1 g2 => (o1 q (Nat.lt_of_lt_of_le g1 hH.2.2.1)).trans (hH.2.2.2.1 q g1 g2), hH.2.2.2.2⟩
/-- a class that can be made: own's pool entry idx is class number ci, of N fields, that are fs at first -/
def q_NW (own : String) (idx ci N : Nat) (fs : List Value) : Prop := ∃ (C : String) (Tt : u_T) (ty : Nat → FieldType), vwCl[ci]? = some (C, Tt, N) ∧ (∀ w ∈ u_ws C Tt N, w ∈ q_gw) ∧ Cond.classLink own idx C ∈ q_gw ∧ Cond.instantiable C N ∈ q_gw ∧ Cond.initialized C ∈ q_gw ∧ (∀ j, j < N → parseFieldDescriptor (Tt j).2.2.1 = some (ty j)) ∧ (∀ j, j < N → defaultValue (ty j) = vp_V fs j)
theorem q_new {idx ci N : Nat} {fs : List Value} (hd : decode M.2.2.1 pc = .ok (.new idx, 3)) (hw : q_NW M.1 idx ci N fs) (h1 : 1 ≤ bc) (h2 : N ≤ bs) (h : q_R T M fr lo (pc + 3) ls (.ref sz :: st) (q_up G sz (q_ob ci fs)) (sz + 1) (bc - 1) (bs - N) E) : q_R T M fr lo pc ls st G sz bc bs E := by
  obtain ⟨C, Tt, ty, w1, w2, w3, w4, w5, w6, w7⟩ := hw
  intro p e R s m args below meth c Q H locs cells slots lsA hB hF hH hL k1 k2
  have hK := hB.2.2.2.2.2.2.2.1
  have hts := hB.2.2.2.2.2.1
  have hKn := hK.1.1 ci _ w1
  refine W.newcK hB.1 hB.2.1 hB.2.2.2.2.1 (hts _ w3) (hts _ w4) (hts _ w5) rfl hd (by omega) (by omega) hKn.2.1 rfl fun H' kC hkC e1 e2 e3 => ?_
  have hz := hH.1
  subst hz
  refine h p e R s m args below meth c Q H' locs (cells + 1) (slots + N) lsA hB hF ⟨e2, hH.2.1.push (Nat.le_trans hK.2.2.2.2.2 hH.2.2.1) ?_ e3, ?_⟩ hL (by omega) (by omega)
  · exact ⟨_, w1, (u_born ty hts w2 hKn hkC e1 w6).to w7⟩
  · exact ⟨Nat.le_trans hH.2.2.1 (by omega), fun q g1 g2 => (e3 q (Nat.lt_of_lt_of_le g1 hH.2.2.1)).trans (hH.2.2.2.1 q g1 g2), hH.2.2.2.2⟩
end q_heap
