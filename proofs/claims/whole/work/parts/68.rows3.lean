/-! ROWS OF THE CLASS'S WALKS: heaps by name; numbers in arrays as Nat -/
theorem w_upI {F : Nat → Nat} {k v : Nat} : upd (fun i => nI (F i)) k (nI v) = fun i => nI (va_up F k v i) := by
  funext j
  unfold upd va_up
  split <;> rfl
theorem w_upE {F : Nat → Nat} {k v : Nat} : upd (fun i => nI (F i) - 1) k (nI v - 1) = fun i => nI (va_up F k v i) - 1 := by
  funext j
  unfold upd va_up
  split <;> rfl
theorem nc_i : Cond.initialized "java/lang/System" ∈ q_gw := List.mem_filter.mpr ⟨List.mem_of_getElem? (i := 59) (by decide +kernel), by decide +kernel⟩
theorem nc_s : Cond.static arraycopyName ∈ q_gw := List.mem_filter.mpr ⟨List.mem_of_getElem? (i := 468) (by decide +kernel), by decide +kernel⟩
theorem nc_n : Cond.native arraycopyName ∈ q_gw := List.mem_filter.mpr ⟨List.mem_of_getElem? (i := 469) (by decide +kernel), by decide +kernel⟩
theorem cn_J6_265 : Cond.constant RJ6 265 1431655765 ∈ q_gw := List.mem_filter.mpr ⟨List.mem_of_getElem? (i := 395) (by decide +kernel), by decide +kernel⟩
theorem cn_J6_266 : Cond.constant RJ6 266 858993459 ∈ q_gw := List.mem_filter.mpr ⟨List.mem_of_getElem? (i := 396) (by decide +kernel), by decide +kernel⟩
theorem cn_J6_267 : Cond.constant RJ6 267 252645135 ∈ q_gw := List.mem_filter.mpr ⟨List.mem_of_getElem? (i := 397) (by decide +kernel), by decide +kernel⟩
section w_rows
variable {T : q_T} {M : q_M} {fr lo pc : Nat} {ls : List (Option Value)} {st : List Value} {G : q_G} {sz bc bs : Nat} {E : q_E}
theorem w_ld {a n k v : Nat} {F : Nat → Nat} {i : Int32} (hd : decode M.2.2.1 pc = .ok (.iaload, 1)) (hG : G a = some (q_ia T n (fun i => nI (F i)))) (hi : i = nI k) (hk : k < n) (hn : n < 2 ^ 31) (hv : F k = v) (h : q_R T M fr lo (pc + 1) ls (.int (nI v) :: st) G sz bc bs E) : q_R T M fr lo pc ls (.int i :: .ref a :: st) G sz bc bs E := q_iaload hd hG hi hk hn (congrArg nI hv) h
theorem w_ldE {a n k v : Nat} {F : Nat → Nat} {i : Int32} (hd : decode M.2.2.1 pc = .ok (.iaload, 1)) (hG : G a = some (q_ia T n (fun i => nI (F i) - 1))) (hi : i = nI k) (hk : k < n) (hn : n < 2 ^ 31) (hv : F k = v) (h : q_R T M fr lo (pc + 1) ls (.int (nI v - 1) :: st) G sz bc bs E) : q_R T M fr lo pc ls (.int i :: .ref a :: st) G sz bc bs E := q_iaload hd hG hi hk hn (congrArg (fun x => nI x - 1) hv) h
theorem w_st {a n k v : Nat} {F : Nat → Nat} {i x : Int32} (hd : decode M.2.2.1 pc = .ok (.iastore, 1)) (hG : G a = some (q_ia T n (fun i => nI (F i)))) (hi : i = nI k) (hk : k < n) (hn : n < 2 ^ 31) (hx : x = nI v) (h : ∀ G1 : q_G, G1 a = some (q_ia T n (fun i => nI (va_up F k v i))) → (∀ b, b ≠ a → G1 b = G b) → q_R T M fr lo (pc + 1) ls st G1 sz bc bs E) : q_R T M fr lo pc ls (.int x :: .int i :: .ref a :: st) G sz bc bs E := by
  subst hx
  exact q_iastore hd hG hi hk hn (h _ (q_up_s.trans (by rw [w_upI])) (fun b hb => q_up_n hb))
theorem w_stE {a n k v : Nat} {F : Nat → Nat} {i x : Int32} (hd : decode M.2.2.1 pc = .ok (.iastore, 1)) (hG : G a = some (q_ia T n (fun i => nI (F i) - 1))) (hi : i = nI k) (hk : k < n) (hn : n < 2 ^ 31) (hx : x = nI v - 1) (h : ∀ G1 : q_G, G1 a = some (q_ia T n (fun i => nI (va_up F k v i) - 1)) → (∀ b, b ≠ a → G1 b = G b) → q_R T M fr lo (pc + 1) ls st G1 sz bc bs E) : q_R T M fr lo pc ls (.int x :: .int i :: .ref a :: st) G sz bc bs E := by
  subst hx
  exact q_iastore hd hG hi hk hn (h _ (q_up_s.trans (by rw [w_upE])) (fun b hb => q_up_n hb))
theorem w_put {idx a ci k : Nat} {fs fs2 : List Value} {v : Value} {ty : FieldType} (hd : decode M.2.2.1 pc = .ok (.putfield idx, 3)) (hf : q_FL M.1 idx ci k) (hp : q_FP M.1 ci k ty M.2.1.name) (hG : G a = some (q_ob ci fs)) (hl : k < fs.length) (hn : narrow ty v = v) (hfit : fits ty v = true) (hs : fs.set k v = fs2) (h : ∀ G1 : q_G, G1 a = some (q_ob ci fs2) → (∀ b, b ≠ a → G1 b = G b) → q_R T M fr lo (pc + 3) ls st G1 sz bc bs E) : q_R T M fr lo pc ls (v :: .ref a :: st) G sz bc bs E := by
  subst hs
  exact q_put hd hf hp hG hl hn hfit (h _ q_up_s (fun b hb => q_up_n hb))
theorem w_bas {a n k : Nat} {f : Nat → Int32} {i x : Int32} (hd : decode M.2.2.1 pc = .ok (.bastore, 1)) (hG : G a = some (q_ba T n f)) (hi : i = nI k) (hk : k < n) (hn : n < 2 ^ 31) (hx : narrow .byte (.int x) = .int x) (h : ∀ G1 : q_G, G1 a = some (q_ba T n (upd f k x)) → (∀ b, b ≠ a → G1 b = G b) → q_R T M fr lo (pc + 1) ls st G1 sz bc bs E) : q_R T M fr lo pc ls (.int x :: .int i :: .ref a :: st) G sz bc bs E :=
  q_bastore hd hG hi hk hn hx (h _ q_up_s (fun b hb => q_up_n hb))
theorem w_aas {a n k t v ci : Nat} {r : vw_C} {vs : List Value} {f : Nat → Option Nat} {i : Int32} (hd : decode M.2.2.1 pc = .ok (.aastore, 1)) (hG : G a = some (q_ra T t n f)) (ht : (q_tys T.2.2.1)[t]? = some (T.2.2.1 t, .object r.1)) (hV : G v = some (q_ob ci vs)) (hc0 : vwCl[ci]? = some r) (hi : i = nI k) (hk : k < n) (hn : n < 2 ^ 31) (h : ∀ G1 : q_G, G1 a = some (q_ra T t n (va_up f k (some v))) → (∀ b, b ≠ a → G1 b = G b) → q_R T M fr lo (pc + 1) ls st G1 sz bc bs E) : q_R T M fr lo pc ls (.ref v :: .int i :: .ref a :: st) G sz bc bs E :=
  q_aastore hd hG ht hV hc0 hi hk hn (h _ q_up_s (fun b hb => q_up_n hb))
theorem w_newI {n : Int32} {N : Nat} (hd : decode M.2.2.1 pc = .ok (.newarray .int, 2)) (hn : n = nI N) (hN : N ≤ 100000) (h1 : 1 ≤ bc) (h2 : N ≤ bs) (h : ∀ G1 : q_G, G1 sz = some (q_ia T N (fun i => nI ((fun _ => 0) i))) → (∀ b, b ≠ sz → G1 b = G b) → q_R T M fr lo (pc + 2) ls (.ref sz :: st) G1 (sz + 1) (bc - 1) (bs - N) E) : q_R T M fr lo pc ls (.int n :: st) G sz bc bs E :=
  q_newI hd hn hN h1 h2 ac_int (h _ (q_up_s.trans (by rw [show (fun i : Nat => nI ((fun _ => 0) i)) = fun _ => (0 : Int32) from funext fun _ => nI_0])) (fun b hb => q_up_n hb))
theorem w_newR {n : Int32} {N t idx : Nat} {C : String} (hd : decode M.2.2.1 pc = .ok (.anewarray idx, 3)) (hn : n = nI N) (hN : N ≤ 100000) (h1 : 1 ≤ bc) (h2 : N ≤ bs) (hw : Cond.classLink M.1 idx C ∈ q_gw) (hC : C ∈ [RX4, RX0, RX2, RX3]) (ht : (q_tys T.2.2.1)[t]? = some (T.2.2.1 t, .object C)) (h : ∀ G1 : q_G, G1 sz = some (q_ra T t N (fun _ => none)) → (∀ b, b ≠ sz → G1 b = G b) → q_R T M fr lo (pc + 3) ls (.ref sz :: st) G1 (sz + 1) (bc - 1) (bs - N) E) : q_R T M fr lo pc ls (.int n :: st) G sz bc bs E :=
  q_newR hd hn hN h1 h2 hw hC ht (h _ q_up_s (fun b hb => q_up_n hb))
theorem w_new {idx ci N : Nat} {fs : List Value} (hd : decode M.2.2.1 pc = .ok (.new idx, 3)) (hw : q_NW M.1 idx ci N fs) (h1 : 1 ≤ bc) (h2 : N ≤ bs) (h : ∀ G1 : q_G, G1 sz = some (q_ob ci fs) → (∀ b, b ≠ sz → G1 b = G b) → q_R T M fr lo (pc + 3) ls (.ref sz :: st) G1 (sz + 1) (bc - 1) (bs - N) E) : q_R T M fr lo pc ls st G sz bc bs E :=
  q_new hd hw h1 h2 (h _ q_up_s (fun b hb => q_up_n hb))
theorem q_ldcw {idx : Nat} {v : Int32} (hd : decode M.2.2.1 pc = .ok (.ldc_w idx, 3)) (hw : Cond.constant M.1 idx v ∈ q_gw) (h : q_R T M fr lo (pc + 3) ls (.int v :: st) G sz bc bs E) : q_R T M fr lo pc ls st G sz bc bs E :=
  h.go fun p e R s m args below meth c Q H locs cells slots lsA hB hH hL k => lv_ldcw hB.1 hB.2.1 hB.2.2.2.2.1 (hB.2.2.2.2.2.1 _ hw) hd k
set_option maxHeartbeats 1000000 in
/-- n numbers of one array to another -/
theorem q_acopy {idx a0 a1 n0 n1 sp dp n t : Nat} {f g : Nat → Int32} {ty : FieldType} {rest : List Value} (hd : decode M.2.2.1 pc = .ok (.invokestatic idx, 3)) (hl : Cond.methodLink M.1 idx arraycopyName ∈ q_gw) (h0 : G a0 = some (.inl (T.2.2.1 t, n0, .inl f))) (h1 : G a1 = some (.inl (T.2.2.1 t, n1, .inl g))) (ht : (q_tys T.2.2.1)[t]? = some (T.2.2.1 t, ty)) (hp : refKind ty = false) (hs0 : sp + n ≤ n0) (hs1 : dp + n ≤ n1) (hn0 : n0 < 2 ^ 31) (hn1 : n1 < 2 ^ 31) (hfit : ∀ i, i < n → fits ty (.int (f (sp + i))) = true) (hfr : 1 ≤ fr) (hlo : 26 ≤ lo) (hst : (rest.map fun v => v.category).sum ≤ 8)
    (h : ∀ G1 : q_G, G1 a1 = some (.inl (T.2.2.1 t, n1, .inl (va_cpy f g sp dp n))) → (∀ b, b ≠ a1 → G1 b = G b) → q_R T M fr lo (pc + 3) ls rest G1 sz bc bs E) : q_R T M fr lo pc ls (.int (nI n) :: .int (nI dp) :: .ref a1 :: .int (nI sp) :: .ref a0 :: rest) G sz bc bs E := by
  intro p e R s m args below meth c Q H locs cells slots lsA hB hF hH hL k1 k2 S hS X
  have hts := hB.2.2.2.2.2.1
  have hK := hB.2.2.2.2.2.2.2.1
  have hfr2 := hB.2.2.2.2.2.2.2.2.1
  have hlo2 := hB.2.2.2.2.2.2.2.2.2
  have hc0 : H[a0]? = some (vp_cell (T.2.2.1 t) (n0, .inl f)) := (hH.2.1 a0 _ h0).1
  have hc1 : H[a1]? = some (vp_cell (T.2.2.1 t) (n1, .inl g)) := (hH.2.1 a1 _ h1).1
  have hown := (hH.2.1 a1 _ h1).2
  obtain ⟨-, kk0, hk0, cm0, hkk0⟩ := (hK.1.2 t _ ht).1 n0 (fun j => .int (f j))
  obtain ⟨-, kk1, hk1, cm1, hkk1⟩ := (hK.1.2 t _ ht).1 n1 (fun j => .int (g j))
  have cn : (nI n).toNatClampNeg = n := nI_clamp (by omega)
  have cs : (nI sp).toNatClampNeg = sp := nI_clamp (by omega)
  have cd : (nI dp).toNatClampNeg = dp := nI_clamp (by omega)
  have z0 : (vp_cell (T.2.2.1 t) (n0, .inl f)).slots.size = n0 := arrV_size _ _ _
  have z1 : (vp_cell (T.2.2.1 t) (n1, .inl g)).slots.size = n1 := arrV_size _ _ _
  obtain ⟨vm', X', step⟩ := X.arraycopy hB.1 hB.2.2.2.2.1 (hts _ hl) (hts _ nc_n) (hts _ nc_s) (hts _ nc_i) (src := a0) (dst := a1) (cs := vp_cell (T.2.2.1 t) (n0, .inl f)) (cd := vp_cell (T.2.2.1 t) (n1, .inl g)) (srcPos := nI sp) (destPos := nI dp) (n := nI n) (by rw [hS]; exact hc0) (by rw [hS]; exact hc1)
    (fun _ h => by cases h) (fun _ h => by cases h) (fun h => by cases h) (fun h => by cases h) hk0 hk1 hkk0 hkk1 (by simp [hp]) (nI_pos (by omega)) (nI_pos (by omega)) (nI_pos (by omega))
    (by rw [z0, nI_toInt (by omega), nI_toInt (by omega)]; omega)
    (by rw [z1, nI_toInt (by omega), nI_toInt (by omega)]; omega)
    (fun vm1 _ i hi => by
      rw [cn] at hi
      rw [cs]
      have e2 : (vp_cell (T.2.2.1 t) (n0, .inl f)).slots.getD (sp + i) .null = .int (f (sp + i)) := by
        rw [Array.getD_eq_getD_getElem?]
        exact congrArg (fun o => Option.getD o Value.null) (arrV_read _ _ (by omega))
      rw [e2]
      exact ⟨hfit i hi, trivial⟩)
    (g := F0 m pc lsA (.int (nI n) :: .int (nI dp) :: .ref a1 :: .int (nI sp) :: .ref a0 :: rest)) rfl (hL.1.trans hB.2.2.1.symm) (rest := rest) rfl (by rw [hB.2.1]; exact hd) (by omega) (by show 2 * 0 + _ + (5 + 2 + 11) ≤ _; omega)
  have e1 : copied (vp_cell (T.2.2.1 t) (n0, .inl f)) (vp_cell (T.2.2.1 t) (n1, .inl g)) (nI sp) (nI dp) (nI n) = vp_cell (T.2.2.1 t) (n1, .inl (va_cpy f g sp dp n)) := by
    unfold copied
    rw [cn, cs, cd]
    exact va_copied (fun z => .int z) _ _ f g hs0
  rw [e1] at X' step
  have hl2 : a1 < H.size := (Array.getElem?_eq_some_iff.mp hc1).1
  have oq : ∀ q : Nat, q ≠ a1 → (H.setIfInBounds a1 (vp_cell (T.2.2.1 t) (n1, .inl (va_cpy f g sp dp n))))[q]? = H[q]? := fun q hq => by simp [Array.getElem?_setIfInBounds, Ne.symm hq]
  have hh := h (q_up G a1 (.inl (T.2.2.1 t, n1, .inl (va_cpy f g sp dp n)))) q_up_s (fun b hb => q_up_n hb) p e R s m args below meth c Q (H.setIfInBounds a1 (vp_cell (T.2.2.1 t) (n1, .inl (va_cpy f g sp dp n)))) (locs ++ ((vp_cell (T.2.2.1 t) (n0, .inl f)).stretch (nI sp).toNatClampNeg (nI n).toNatClampNeg).zipIdx.map fun q => ⟨a1, (nI dp).toNatClampNeg + q.2⟩) cells slots lsA hB hF
    ⟨by simp; exact hH.1, hH.2.1.put h1 (show (H.setIfInBounds a1 _)[a1]? = some _ by simp [Array.getElem?_setIfInBounds, hl2]) oq, by simp; exact hH.2.2.1, fun q g1 g2 => by
      rw [oq q (fun e => g2 (by rw [e]; exact hown))]
      exact hH.2.2.2.1 q g1 g2, fun q hq => by
      rcases List.mem_append.mp hq with h | h
      · exact hH.2.2.2.2 q h
      · obtain ⟨z, -, hz⟩ := List.mem_map.mp h
        rw [← hz]
        exact hown⟩ hL k1 k2
  obtain ⟨t', a', b'⟩ := hh _ (by rw [← hS]; rfl) X'
  exact ⟨t', step t' a', b'⟩
/-- and of numbers as Nat -/
theorem w_acopy {idx a0 a1 n0 n1 n : Nat} {F0 F1 : Nat → Nat} {rest : List Value} (hd : decode M.2.2.1 pc = .ok (.invokestatic idx, 3)) (hl : Cond.methodLink M.1 idx arraycopyName ∈ q_gw) (h0 : G a0 = some (q_ia T n0 (fun i => nI (F0 i)))) (h1 : G a1 = some (q_ia T n1 (fun i => nI (F1 i)))) (hs0 : n ≤ n0) (hs1 : n ≤ n1) (hn0 : n0 < 2 ^ 31) (hn1 : n1 < 2 ^ 31) (hfr : 1 ≤ fr) (hlo : 26 ≤ lo) (hst : (rest.map fun v => v.category).sum ≤ 8)
    (h : ∀ G1 : q_G, G1 a1 = some (q_ia T n1 (fun i => nI (if i < n then F0 i else F1 i))) → (∀ b, b ≠ a1 → G1 b = G b) → q_R T M fr lo (pc + 3) ls rest G1 sz bc bs E) : q_R T M fr lo pc ls (.int (nI n) :: .int (nI 0) :: .ref a1 :: .int (nI 0) :: .ref a0 :: rest) G sz bc bs E :=
  q_acopy (t := 0) hd hl h0 h1 rfl rfl (by omega) (by omega) hn0 hn1 (fun _ _ => rfl) hfr hlo hst (fun G1 e1 e2 => h G1 (by
    rw [e1]
    unfold q_ia va_cpy
    congr 5
    funext i
    by_cases hi : i < n
    · rw [if_pos ⟨Nat.zero_le _, by omega⟩, if_pos hi, Nat.zero_add, Nat.sub_zero]
    · rw [if_neg (fun g => hi (by omega)), if_neg hi]) e2)
end w_rows
