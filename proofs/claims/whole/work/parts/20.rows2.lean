/-! rows with normal forms: locals by name, numbers as nI n -/
theorem q_ind {α : Type} (μ : α → Nat) (P : α → Prop) (h : ∀ x, (∀ y, μ y < μ x → P y) → P x) : ∀ x, P x := by
  have key : ∀ n x, μ x < n → P x := by
    intro n
    induction n with
    | zero => intro x hx; omega
    | succ n ih => intro x hx; exact h x (fun y hy => ih y (by omega))
  exact fun x => key (μ x + 1) x (by omega)
section q_rows2
variable {T : q_T} {M : q_M} {fr lo pc : Nat} {ls ls' : List (Option Value)} {st : List Value} {G : q_G} {sz bc bs : Nat} {E : q_E}
theorem s_istore_n {k : Fin 4} {x : Int32} (hd : decode M.2.2.1 pc = .ok (.istore_n k, 1)) (hi : (k : Nat) < M.2.2.2.1) (hl : ls.set k (some (.int x)) = ls') (h : q_R T M fr lo (pc + 1) ls' st G sz bc bs E) : q_R T M fr lo pc ls (.int x :: st) G sz bc bs E := q_istore_n hd hi (hl ▸ h)
theorem s_istore {i : Nat} {x : Int32} (hd : decode M.2.2.1 pc = .ok (.istore i, 2)) (hi : i < M.2.2.2.1) (hl : ls.set i (some (.int x)) = ls') (h : q_R T M fr lo (pc + 2) ls' st G sz bc bs E) : q_R T M fr lo pc ls (.int x :: st) G sz bc bs E := q_istore hd hi (hl ▸ h)
theorem s_astore_n {k : Fin 4} {v : Value} (hd : decode M.2.2.1 pc = .ok (.astore_n k, 1)) (hi : (k : Nat) < M.2.2.2.1) (hv : q_isr v = true) (hl : ls.set k (some v) = ls') (h : q_R T M fr lo (pc + 1) ls' st G sz bc bs E) : q_R T M fr lo pc ls (v :: st) G sz bc bs E := q_astore_n hd hi hv (hl ▸ h)
theorem s_astore {i : Nat} {v : Value} (hd : decode M.2.2.1 pc = .ok (.astore i, 2)) (hi : i < M.2.2.2.1) (hv : q_isr v = true) (hl : ls.set i (some v) = ls') (h : q_R T M fr lo (pc + 2) ls' st G sz bc bs E) : q_R T M fr lo pc ls (v :: st) G sz bc bs E := q_astore hd hi hv (hl ▸ h)
theorem s_iinc {i : Nat} {n : Int} {x v : Int32} (hd : decode M.2.2.1 pc = .ok (.iinc i n, 3)) (hx : ls[i]? = some (some (.int x))) (hv : x + Int32.ofInt n = v) (hi : i < M.2.2.2.1) (hl : ls.set i (some (.int v)) = ls') (h : q_R T M fr lo (pc + 3) ls' st G sz bc bs E) : q_R T M fr lo pc ls st G sz bc bs E := q_iinc hd hx hv hi (hl ▸ h)
theorem s_inc1 (k : Nat) : nI k + Int32.ofInt 1 = nI (k + 1) := nI_1 k
theorem s_dec1 {k : Nat} (h : 1 ≤ k) : nI k + Int32.ofInt (-1) = nI (k - 1) := by
  obtain ⟨j, rfl⟩ : ∃ j, k = j + 1 := ⟨k - 1, by omega⟩
  exact pk_m1 j
theorem n_icmp_eq {x y : Nat} {off : Int} {tgt : Nat} (hd : decode M.2.2.1 pc = .ok (.if_icmp .eq off, 3)) (ht : (pc : Int) + off = (tgt : Int)) (hx : x < 2 ^ 31) (hy : y < 2 ^ 31) (kt : x = y → q_R T M fr lo tgt ls st G sz bc bs E) (kf : ¬ x = y → q_R T M fr lo (pc + 3) ls st G sz bc bs E) : q_R T M fr lo pc ls (.int (nI y) :: .int (nI x) :: st) G sz bc bs E :=
  q_icmp_eq hd ht (fun h => kt ((nI_eq hx hy).mp h)) (fun h => kf (fun g => h ((nI_eq hx hy).mpr g)))
theorem n_icmp_ne {x y : Nat} {off : Int} {tgt : Nat} (hd : decode M.2.2.1 pc = .ok (.if_icmp .ne off, 3)) (ht : (pc : Int) + off = (tgt : Int)) (hx : x < 2 ^ 31) (hy : y < 2 ^ 31) (kt : ¬ x = y → q_R T M fr lo tgt ls st G sz bc bs E) (kf : x = y → q_R T M fr lo (pc + 3) ls st G sz bc bs E) : q_R T M fr lo pc ls (.int (nI y) :: .int (nI x) :: st) G sz bc bs E :=
  q_icmp_ne hd ht (fun h => kt (fun g => h ((nI_eq hx hy).mpr g))) (fun h => kf ((nI_eq hx hy).mp h))
theorem n_icmp_lt {x y : Nat} {off : Int} {tgt : Nat} (hd : decode M.2.2.1 pc = .ok (.if_icmp .lt off, 3)) (ht : (pc : Int) + off = (tgt : Int)) (hx : x < 2 ^ 31) (hy : y < 2 ^ 31) (kt : x < y → q_R T M fr lo tgt ls st G sz bc bs E) (kf : y ≤ x → q_R T M fr lo (pc + 3) ls st G sz bc bs E) : q_R T M fr lo pc ls (.int (nI y) :: .int (nI x) :: st) G sz bc bs E :=
  q_icmp_lt hd ht (fun h => kt ((nI_ltI hx hy).mp h)) (fun h => kf (Nat.le_of_not_lt fun g => h ((nI_ltI hx hy).mpr g)))
theorem n_icmp_ge {x y : Nat} {off : Int} {tgt : Nat} (hd : decode M.2.2.1 pc = .ok (.if_icmp .ge off, 3)) (ht : (pc : Int) + off = (tgt : Int)) (hx : x < 2 ^ 31) (hy : y < 2 ^ 31) (kt : y ≤ x → q_R T M fr lo tgt ls st G sz bc bs E) (kf : x < y → q_R T M fr lo (pc + 3) ls st G sz bc bs E) : q_R T M fr lo pc ls (.int (nI y) :: .int (nI x) :: st) G sz bc bs E :=
  q_icmp_ge hd ht (fun h => kt ((nI_leI hy hx).mp h)) (fun h => kf (Nat.lt_of_not_le fun g => h ((nI_leI hy hx).mpr g)))
theorem n_icmp_gt {x y : Nat} {off : Int} {tgt : Nat} (hd : decode M.2.2.1 pc = .ok (.if_icmp .gt off, 3)) (ht : (pc : Int) + off = (tgt : Int)) (hx : x < 2 ^ 31) (hy : y < 2 ^ 31) (kt : y < x → q_R T M fr lo tgt ls st G sz bc bs E) (kf : x ≤ y → q_R T M fr lo (pc + 3) ls st G sz bc bs E) : q_R T M fr lo pc ls (.int (nI y) :: .int (nI x) :: st) G sz bc bs E :=
  q_icmp_gt hd ht (fun h => kt ((nI_ltI hy hx).mp h)) (fun h => kf (Nat.le_of_not_lt fun g => h ((nI_ltI hy hx).mpr g)))
theorem n_icmp_le {x y : Nat} {off : Int} {tgt : Nat} (hd : decode M.2.2.1 pc = .ok (.if_icmp .le off, 3)) (ht : (pc : Int) + off = (tgt : Int)) (hx : x < 2 ^ 31) (hy : y < 2 ^ 31) (kt : x ≤ y → q_R T M fr lo tgt ls st G sz bc bs E) (kf : y < x → q_R T M fr lo (pc + 3) ls st G sz bc bs E) : q_R T M fr lo pc ls (.int (nI y) :: .int (nI x) :: st) G sz bc bs E :=
  q_icmp_le hd ht (fun h => kt ((nI_leI hx hy).mp h)) (fun h => kf (Nat.lt_of_not_le fun g => h ((nI_leI hx hy).mpr g)))
theorem n_if_eq {x : Nat} {off : Int} {tgt : Nat} (hd : decode M.2.2.1 pc = .ok (.ifCond .eq off, 3)) (ht : (pc : Int) + off = (tgt : Int)) (hx : x < 2 ^ 31) (kt : x = 0 → q_R T M fr lo tgt ls st G sz bc bs E) (kf : ¬ x = 0 → q_R T M fr lo (pc + 3) ls st G sz bc bs E) : q_R T M fr lo pc ls (.int (nI x) :: st) G sz bc bs E :=
  q_if_eq hd ht (fun h => kt ((nI_eq hx (by decide)).mp (h.trans nI_0.symm))) (fun h => kf (fun g => h (by rw [g]; exact nI_0)))
theorem n_if_ne {x : Nat} {off : Int} {tgt : Nat} (hd : decode M.2.2.1 pc = .ok (.ifCond .ne off, 3)) (ht : (pc : Int) + off = (tgt : Int)) (hx : x < 2 ^ 31) (kt : ¬ x = 0 → q_R T M fr lo tgt ls st G sz bc bs E) (kf : x = 0 → q_R T M fr lo (pc + 3) ls st G sz bc bs E) : q_R T M fr lo pc ls (.int (nI x) :: st) G sz bc bs E :=
  q_if_ne hd ht (fun h => kt (fun g => h (by rw [g]; exact nI_0))) (fun h => kf ((nI_eq hx (by decide)).mp (h.trans nI_0.symm)))
theorem n_if_lt {x : Nat} {off : Int} {tgt : Nat} (hd : decode M.2.2.1 pc = .ok (.ifCond .lt off, 3)) (ht : (pc : Int) + off = (tgt : Int)) (hx : x < 2 ^ 31) (kf : q_R T M fr lo (pc + 3) ls st G sz bc bs E) : q_R T M fr lo pc ls (.int (nI x) :: st) G sz bc bs E :=
  q_if_lt hd ht (fun h => absurd h (nI_pos hx)) (fun _ => kf)
theorem n_if_ge {x : Nat} {off : Int} {tgt : Nat} (hd : decode M.2.2.1 pc = .ok (.ifCond .ge off, 3)) (ht : (pc : Int) + off = (tgt : Int)) (hx : x < 2 ^ 31) (kt : q_R T M fr lo tgt ls st G sz bc bs E) : q_R T M fr lo pc ls (.int (nI x) :: st) G sz bc bs E :=
  q_if_ge hd ht (fun _ => kt) (fun h => absurd (nI_pos' hx) h)
theorem n_if_le {x : Nat} {off : Int} {tgt : Nat} (hd : decode M.2.2.1 pc = .ok (.ifCond .le off, 3)) (ht : (pc : Int) + off = (tgt : Int)) (hx : x < 2 ^ 31) (kt : x = 0 → q_R T M fr lo tgt ls st G sz bc bs E) (kf : 0 < x → q_R T M fr lo (pc + 3) ls st G sz bc bs E) : q_R T M fr lo pc ls (.int (nI x) :: st) G sz bc bs E :=
  q_if_le hd ht (fun h => kt (by rcases Nat.eq_zero_or_pos x with g | g; exact g; exact absurd h (nI_nle g hx))) (fun h => kf (by rcases Nat.eq_zero_or_pos x with g | g; exact absurd (by rw [g]; decide) h; exact g))
theorem n_if_gt {x : Nat} {off : Int} {tgt : Nat} (hd : decode M.2.2.1 pc = .ok (.ifCond .gt off, 3)) (ht : (pc : Int) + off = (tgt : Int)) (hx : x < 2 ^ 31) (kt : 0 < x → q_R T M fr lo tgt ls st G sz bc bs E) (kf : x = 0 → q_R T M fr lo (pc + 3) ls st G sz bc bs E) : q_R T M fr lo pc ls (.int (nI x) :: st) G sz bc bs E :=
  q_if_gt hd ht (fun h => kt (by rcases Nat.eq_zero_or_pos x with g | g; exact absurd (by rw [g] at h; exact h) (by decide); exact g)) (fun h => kf (by rcases Nat.eq_zero_or_pos x with g | g; exact g; exact absurd (by rw [← nI_0]; exact nI_lt g hx) h))
theorem n_shl {a b c : Nat} (hb : b < 32) (h : a <<< b = c) : nI a <<< (nI b &&& 31) = nI c := by
  subst h
  have h1 : ∀ b, b < 32 → ((nI b &&& 31).toBitVec.smod 32).toNat = b := by decide +kernel
  apply Int32.toBitVec_inj.mp
  show (nI a).toBitVec <<< ((nI b &&& 31).toBitVec.smod 32) = _
  apply BitVec.eq_of_toNat_eq
  rw [BitVec.shiftLeft_eq', BitVec.toNat_shiftLeft, h1 b hb]
  show (BitVec.ofNat 32 a).toNat <<< b % 2 ^ 32 = (BitVec.ofNat 32 (a <<< b)).toNat
  rw [BitVec.toNat_ofNat, BitVec.toNat_ofNat, Nat.shiftLeft_eq, Nat.shiftLeft_eq]
  simp [Nat.mod_mul_mod]
theorem n_and (a b : Nat) : nI a &&& nI b = nI (a &&& b) := by
  apply Int32.toBitVec_inj.mp
  apply BitVec.eq_of_toNat_eq
  show (BitVec.ofNat 32 a &&& BitVec.ofNat 32 b).toNat = (BitVec.ofNat 32 (a &&& b)).toNat
  rw [BitVec.toNat_and, BitVec.toNat_ofNat, BitVec.toNat_ofNat, BitVec.toNat_ofNat, Nat.and_mod_two_pow]
theorem n_or (a b : Nat) : nI a ||| nI b = nI (a ||| b) := by
  apply Int32.toBitVec_inj.mp
  apply BitVec.eq_of_toNat_eq
  show (BitVec.ofNat 32 a ||| BitVec.ofNat 32 b).toNat = (BitVec.ofNat 32 (a ||| b)).toNat
  rw [BitVec.toNat_or, BitVec.toNat_ofNat, BitVec.toNat_ofNat, BitVec.toNat_ofNat, Nat.or_mod_two_pow]
theorem n_shr {a b : Nat} (ha : a < 2 ^ 31) (hb : b < 32) : nI a >>> (nI b &&& 31) = nI (a >>> b) := by
  have h1 : ∀ b, b < 32 → ((nI b &&& 31).toBitVec.smod 32).toNat = b := by decide +kernel
  rw [Nat.shiftRight_eq_div_pow]
  exact pk_shrN ha _ b (h1 b hb)
theorem n_ushr {a b : Nat} (ha : a < 2 ^ 32) (hb : b < 32) : ((nI a).toUInt32 >>> ((nI b).toUInt32 &&& Int32.toUInt32 31)).toInt32 = nI (a >>> b) := by
  have h1 : ∀ b, b < 32 → (((nI b).toUInt32 &&& Int32.toUInt32 31).toBitVec % 32).toNat = b := by decide +kernel
  rw [Nat.shiftRight_eq_div_pow]
  exact pk_ushrN ha _ b (h1 b hb)
end q_rows2
