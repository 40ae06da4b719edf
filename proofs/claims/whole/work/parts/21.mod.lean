/-! THE MODEL'S OBJECT: one object at m, its arrays at m + 1 .. m + 27 in the order in which they are made; ints I 0 .. I 8 (puzzles, length, found, tried, pictureSize, probed, isMuch, games, written); arrays A k: wide 1, high 2, colours 3, isPlayed 4, runMany 5, runColour 6, runLength 7, desk 8, canvas 9, sets 10, cells 11, may 12, got 13, fill 14, places 15, pictures 16, atCell 17, atNext 18, gamePuzzle 19, marks 20, done 21, known 22, hints 23, changeCell 24, changeFrom 25, changeTo 26, text 27; numbers are Nat; marks, changeFrom, changeTo hold one more than the ints -/
abbrev md_I : Type := Nat → Nat
abbrev md_A : Type := Nat → Nat → Nat
def md_len : Nat → Nat := fun k => match k with
  | 1 => 30 | 2 => 30 | 3 => 30 | 4 => 30 | 5 => 600 | 6 => 6000 | 7 => 6000 | 8 => 3000 | 9 => 100 | 10 => 10400 | 11 => 10 | 12 => 10 | 13 => 10 | 14 => 10 | 15 => 11 | 16 => 500 | 17 => 104 | 18 => 104 | 19 => 20 | 20 => 2000 | 21 => 20 | 22 => 20 | 23 => 20 | 24 => 4000 | 25 => 4000 | 26 => 4000 | _ => 64
def md_e (k v : Nat) : Int32 := match k with
  | 20 => nI v - 1 | 25 => nI v - 1 | 26 => nI v - 1 | _ => nI v
def md_ar (T : q_T) (k : Nat) (A : md_A) : va_E := match k with
  | 4 => q_za T 30 (fun i => md_e 4 (A 4 i))
  | k => q_ia T (md_len k) (fun i => md_e k (A k i))
def md_ob (m : Nat) (I : md_I) : List Value := [.int (nI (I 0)), .ref (m + 1), .ref (m + 2), .ref (m + 3), .ref (m + 4), .ref (m + 5), .ref (m + 6), .ref (m + 7), .ref (m + 8), .ref (m + 9), .ref (m + 10), .ref (m + 11), .ref (m + 12), .ref (m + 13), .ref (m + 14), .ref (m + 15), .int (nI (I 1)), .int (nI (I 2)), .int (nI (I 3)), .int (nI (I 4)), .ref (m + 16), .ref (m + 17), .ref (m + 18), .int (nI (I 5)), .int (nI (I 6)), .int (nI (I 7)), .ref (m + 19), .ref (m + 20), .ref (m + 21), .ref (m + 22), .ref (m + 23), .ref (m + 24), .ref (m + 25), .ref (m + 26), .ref (m + 27), .int (nI (I 8))]
/-- the model is at m in G, and all else is as in G0; its numbers are small -/
def Mod (T : q_T) (m : Nat) (G0 : q_G) (I : md_I) (A : md_A) (G : q_G) : Prop := G m = some (q_ob 10 (md_ob m I)) ∧ (∀ k, 1 ≤ k → k ≤ 27 → G (m + k) = some (md_ar T k A)) ∧ (∀ b, b < m ∨ m + 28 ≤ b → G b = G0 b) ∧ (∀ j, I j ≤ 100000) ∧ ∀ k i, A k i ≤ 100000
def md_st (A : md_A) (k i v : Nat) : md_A := va_up A k (va_up (A k) i v)
theorem md_st_s (A : md_A) (k i v : Nat) : md_st A k i v k i = v := by simp [md_st, va_up]
theorem md_st_n (A : md_A) {k i v j : Nat} (h : j ≠ i) : md_st A k i v k j = A k j := by simp [md_st, va_up, h]
theorem md_st_k (A : md_A) {k i v l : Nat} (h : l ≠ k) : md_st A k i v l = A l := by simp [md_st, va_up, h]
theorem md_st_at (A : md_A) (k i v l j : Nat) : md_st A k i v l j = if l = k ∧ j = i then v else A l j := by
  by_cases h : l = k
  · subst h
    by_cases h2 : j = i
    · subst h2; simp [md_st, va_up]
    · simp [md_st, va_up, h2]
  · simp [md_st, va_up, h]
theorem md_ar_i (T : q_T) {k : Nat} (h4 : k ≠ 4) (A : md_A) : md_ar T k A = q_ia T (md_len k) (fun i => md_e k (A k i)) := by
  unfold md_ar
  split
  · exact absurd rfl h4
  · rfl
theorem md_len_lt (k : Nat) : md_len k < 2 ^ 31 := by
  unfold md_len
  split <;> decide
theorem Mod.put {T : q_T} {m : Nat} {G0 G : q_G} {I : md_I} {A : md_A} (h : Mod T m G0 I A G) {k i v : Nat} (h1 : 1 ≤ k) (h2 : k ≤ 27) (h4 : k ≠ 4) (hv : v ≤ 100000) {x : Int32} (hx : x = md_e k v) : Mod T m G0 I (md_st A k i v) (q_up G (m + k) (q_ia T (md_len k) (upd (fun i => md_e k (A k i)) i x))) := by
  subst hx
  obtain ⟨g1, g2, g3, g4, g5⟩ := h
  refine ⟨by rw [q_up_n (by omega)]; exact g1, fun j j1 j2 => ?_, fun b hb => by rw [q_up_n (by omega)]; exact g3 b hb, g4, fun l j => ?_⟩
  · by_cases hj : j = k
    · subst hj
      rw [q_up_s, md_ar_i T h4]
      congr 2
      funext q
      by_cases hq : q = i
      · subst hq; simp [upd, md_st_s]
      · simp [upd, hq, md_st_n]
    · rw [q_up_n (by omega), g2 j j1 j2]
      unfold md_ar
      split <;> rw [md_st_k A (by omega)]
  · rw [md_st_at]
    split
    · exact hv
    · exact g5 l j
theorem Mod.putZ {T : q_T} {m : Nat} {G0 G : q_G} {I : md_I} {A : md_A} (h : Mod T m G0 I A G) {i v : Nat} (hv : v ≤ 100000) : Mod T m G0 I (md_st A 4 i v) (q_up G (m + 4) (q_za T 30 (upd (fun i => md_e 4 (A 4 i)) i (nI v)))) := by
  obtain ⟨g1, g2, g3, g4, g5⟩ := h
  refine ⟨by rw [q_up_n (by omega)]; exact g1, fun j j1 j2 => ?_, fun b hb => by rw [q_up_n (by omega)]; exact g3 b hb, g4, fun l j => ?_⟩
  · by_cases hj : j = 4
    · subst hj
      rw [q_up_s]
      show some (q_za T 30 _) = some (q_za T 30 _)
      congr 2
      funext q
      by_cases hq : q = i
      · subst hq; simp [upd, md_st_s]; rfl
      · simp [upd, hq, md_st_n]
    · rw [q_up_n (by omega), g2 j j1 j2]
      unfold md_ar
      split <;> rw [md_st_k A (by omega)]
  · rw [md_st_at]
    split
    · exact hv
    · exact g5 l j
/-- which field of the object an int is -/
def md_fi : Nat → Nat := fun j => match j with
  | 0 => 0 | 1 => 16 | 2 => 17 | 3 => 18 | 4 => 19 | 5 => 23 | 6 => 24 | 7 => 25 | _ => 35
theorem Mod.puti {T : q_T} {m : Nat} {G0 G : q_G} {I : md_I} {A : md_A} (h : Mod T m G0 I A G) {j v : Nat} (hj : j ≤ 8) (hv : v ≤ 100000) : Mod T m G0 (va_up I j v) A (q_up G m (q_ob 10 ((md_ob m I).set (md_fi j) (.int (nI v))))) := by
  obtain ⟨g1, g2, g3, g4, g5⟩ := h
  refine ⟨?_, fun k j1 j2 => by rw [q_up_n (by omega)]; exact g2 k j1 j2, fun b hb => by rw [q_up_n (by omega)]; exact g3 b hb, fun i => ?_, g5⟩
  · rw [q_up_s]
    rcases (show j = 0 ∨ j = 1 ∨ j = 2 ∨ j = 3 ∨ j = 4 ∨ j = 5 ∨ j = 6 ∨ j = 7 ∨ j = 8 by omega) with rfl | rfl | rfl | rfl | rfl | rfl | rfl | rfl | rfl <;> rfl
  · unfold va_up
    split
    · exact hv
    · exact g4 i
section md_rows
variable {T : q_T} {M : q_M} {fr lo pc : Nat} {ls : List (Option Value)} {st : List Value} {G G0 : q_G} {sz bc bs : Nat} {E : q_E} {m : Nat} {I : md_I} {A : md_A}
/-- an element of an array of the model -/
theorem q_mld {k j : Nat} {i v : Int32} (hd : decode M.2.2.1 pc = .ok (.iaload, 1)) (hM : Mod T m G0 I A G) (hk : 1 ≤ k ∧ k ≤ 27 ∧ k ≠ 4) (hi : i = nI j) (hj : j < md_len k) (hv : md_e k (A k j) = v) (h : A k j ≤ 100000 → q_R T M fr lo (pc + 1) ls (.int v :: st) G sz bc bs E) : q_R T M fr lo pc ls (.int i :: .ref (m + k) :: st) G sz bc bs E :=
  q_iaload hd ((hM.2.1 k hk.1 hk.2.1).trans (by rw [md_ar_i T hk.2.2])) hi hj (md_len_lt k) hv (h (hM.2.2.2.2 k j))
theorem q_mldZ {j : Nat} {i v : Int32} (hd : decode M.2.2.1 pc = .ok (.baload, 1)) (hM : Mod T m G0 I A G) (hi : i = nI j) (hj : j < 30) (hv : nI (A 4 j) = v) (h : A 4 j ≤ 100000 → q_R T M fr lo (pc + 1) ls (.int v :: st) G sz bc bs E) : q_R T M fr lo pc ls (.int i :: .ref (m + 4) :: st) G sz bc bs E :=
  q_zaload hd (hM.2.1 4 (by decide) (by decide)) hi hj (by decide) hv (h (hM.2.2.2.2 4 j))
theorem q_mst {k j v : Nat} {i x : Int32} (hd : decode M.2.2.1 pc = .ok (.iastore, 1)) (hM : Mod T m G0 I A G) (hk : 1 ≤ k ∧ k ≤ 27 ∧ k ≠ 4) (hi : i = nI j) (hj : j < md_len k) (hx : x = md_e k v) (hv : v ≤ 100000) (h : ∀ G1, Mod T m G0 I (md_st A k j v) G1 → q_R T M fr lo (pc + 1) ls st G1 sz bc bs E) : q_R T M fr lo pc ls (.int x :: .int i :: .ref (m + k) :: st) G sz bc bs E :=
  q_iastore hd ((hM.2.1 k hk.1 hk.2.1).trans (by rw [md_ar_i T hk.2.2])) hi hj (md_len_lt k) (h _ (hM.put hk.1 hk.2.1 hk.2.2 hv hx))
theorem q_mstZ {j v : Nat} {i : Int32} (hd : decode M.2.2.1 pc = .ok (.bastore, 1)) (hM : Mod T m G0 I A G) (hi : i = nI j) (hj : j < 30) (hv : v ≤ 1) (h : ∀ G1, Mod T m G0 I (md_st A 4 j v) G1 → q_R T M fr lo (pc + 1) ls st G1 sz bc bs E) : q_R T M fr lo pc ls (.int (nI v) :: .int i :: .ref (m + 4) :: st) G sz bc bs E :=
  q_zastore hd (hM.2.1 4 (by decide) (by decide)) hi hj (by decide) (by rcases (show v = 0 ∨ v = 1 by omega) with rfl | rfl <;> decide +kernel) (h _ (hM.putZ (by omega)))
/-- an int of the model -/
theorem q_mgi {idx : Nat} (j : Nat) (hd : decode M.2.2.1 pc = .ok (.getfield idx, 3)) (hM : Mod T m G0 I A G) (hf : q_FL M.1 idx 10 (md_fi j)) (hj : j ≤ 8) (h : I j ≤ 100000 → q_R T M fr lo (pc + 3) ls (.int (nI (I j)) :: st) G sz bc bs E) : q_R T M fr lo pc ls (.ref m :: st) G sz bc bs E :=
  q_get hd hf hM.1 (by rcases (show j = 0 ∨ j = 1 ∨ j = 2 ∨ j = 3 ∨ j = 4 ∨ j = 5 ∨ j = 6 ∨ j = 7 ∨ j = 8 by omega) with rfl | rfl | rfl | rfl | rfl | rfl | rfl | rfl | rfl <;> rfl) (h (hM.2.2.2.1 j))
theorem q_mpi {idx v : Nat} {x : Int32} (j : Nat) (hd : decode M.2.2.1 pc = .ok (.putfield idx, 3)) (hM : Mod T m G0 I A G) (hf : q_FL M.1 idx 10 (md_fi j)) (hp : q_FP M.1 10 (md_fi j) .int M.2.1.name) (hj : j ≤ 8) (hx : x = nI v) (hv : v ≤ 100000) (h : ∀ G1, Mod T m G0 (va_up I j v) A G1 → q_R T M fr lo (pc + 3) ls st G1 sz bc bs E) : q_R T M fr lo pc ls (.int x :: .ref m :: st) G sz bc bs E := by
  subst hx
  exact q_put hd hf hp hM.1 (by rcases (show j = 0 ∨ j = 1 ∨ j = 2 ∨ j = 3 ∨ j = 4 ∨ j = 5 ∨ j = 6 ∨ j = 7 ∨ j = 8 by omega) with rfl | rfl | rfl | rfl | rfl | rfl | rfl | rfl | rfl <;> exact Nat.le_of_ble_eq_true rfl) rfl rfl (h _ (hM.puti hj hv))
theorem q_mpz {idx v : Nat} {x : Int32} (hd : decode M.2.2.1 pc = .ok (.putfield idx, 3)) (hM : Mod T m G0 I A G) (hf : q_FL M.1 idx 10 24) (hp : q_FP M.1 10 24 .boolean M.2.1.name) (hx : x = nI v) (hv : v ≤ 1) (h : ∀ G1, Mod T m G0 (va_up I 6 v) A G1 → q_R T M fr lo (pc + 3) ls st G1 sz bc bs E) : q_R T M fr lo pc ls (.int x :: .ref m :: st) G sz bc bs E := by
  subst hx
  exact q_put hd hf hp hM.1 (Nat.le_of_ble_eq_true rfl) (by rcases (show v = 0 ∨ v = 1 by omega) with rfl | rfl <;> decide +kernel) (by rcases (show v = 0 ∨ v = 1 by omega) with rfl | rfl <;> decide +kernel) (h _ (hM.puti (j := 6) (by decide) (by omega)))
/-- an array of the model -/
theorem q_mga {idx : Nat} (f k : Nat) (hd : decode M.2.2.1 pc = .ok (.getfield idx, 3)) (hM : Mod T m G0 I A G) (hf : q_FL M.1 idx 10 f) (hk : (md_ob m I)[f]? = some (.ref (m + k))) (h : q_R T M fr lo (pc + 3) ls (.ref (m + k) :: st) G sz bc bs E) : q_R T M fr lo pc ls (.ref m :: st) G sz bc bs E :=
  q_get hd hf hM.1 hk h
end md_rows
