/-! THE CLASS: a search -/
abbrev se_ob (s f t n : Nat) : List Value := [.ref (s + 6), .int (nI f), .int (nI t), .int (nI n), .ref (s + 4), .ref (s + 7)]
/-- m levels are made, at lv 0, lv 1 .. -/
def Lvs (T : q_T) (G : q_G) (s u e m : Nat) (lv : Nat → Nat) (sz : Nat) : Prop := m ≤ 101 ∧ (∃ g : Nat → Option Nat, G (s + 7) = some (q_ra T 5 101 g) ∧ (∀ d, d < m → g d = some (lv d)) ∧ ∀ d, m ≤ d → g d = none) ∧ (∀ d, d < m → (∃ S c x, Lev T G (lv d) S c x) ∧ s + 8 ≤ lv d ∧ (lv d + 2 ≤ u ∨ e ≤ lv d) ∧ lv d + 2 ≤ sz) ∧ ∀ d d', d < d' → d' < m → lv d + 2 ≤ lv d'
theorem Lvs.ap {T : q_T} {G : q_G} {s u e m : Nat} {lv : Nat → Nat} {sz d d' : Nat} (h : Lvs T G s u e m lv sz) (hd : d < m) (hd' : d' < m) (hne : d ≠ d') : lv d + 2 ≤ lv d' ∨ lv d' + 2 ≤ lv d := by
  rcases Nat.lt_or_ge d d' with g | g
  · exact Or.inl (h.2.2.2 d d' g hd')
  · exact Or.inr (h.2.2.2 d' d (by omega) hd)
theorem Lvs.put {T : q_T} {G G' : q_G} {s u e m : Nat} {lv : Nat → Nat} {sz d0 : Nat} (h : Lvs T G s u e m lv sz) (hd0 : d0 < m) (hF : ∀ b, s + 7 ≤ b → b ≠ lv d0 → b ≠ lv d0 + 1 → G' b = G b) (hL : ∃ S c x, Lev T G' (lv d0) S c x) : Lvs T G' s u e m lv sz := by
  have hap := fun d hd hne => h.ap (d := d) (d' := d0) hd hd0 hne
  have h0 := (h.2.2.1 d0 hd0).2
  obtain ⟨h1, ⟨g, h2, h3⟩, h4, h5⟩ := h
  refine ⟨h1, ⟨g, (hF _ (by omega) (by omega) (by omega)).trans h2, h3⟩, fun d hd => ⟨?_, (h4 d hd).2⟩, h5⟩
  by_cases e : d = d0
  · rw [e]; exact hL
  · obtain ⟨⟨S, c, x, hl⟩, hs, -⟩ := h4 d hd
    have := hap d hd e
    exact ⟨S, c, x, hl.fr (fun b b1 b2 => hF b (by omega) (by omega) (by omega))⟩
theorem Lvs.same {T : q_T} {G G' : q_G} {s u e m : Nat} {lv : Nat → Nat} {sz : Nat} (h : Lvs T G s u e m lv sz) (hF : ∀ b, s + 7 ≤ b → G' b = G b) : Lvs T G' s u e m lv sz := by
  obtain ⟨h1, ⟨g, h2, h3⟩, h4, h5⟩ := h
  refine ⟨h1, ⟨g, (hF _ (by omega)).trans h2, h3⟩, fun d hd => ?_, h5⟩
  obtain ⟨⟨S, c, x, hl⟩, hs, hr⟩ := h4 d hd
  exact ⟨⟨S, c, x, hl.fr (fun b b1 b2 => hF b (by omega))⟩, hs, hr⟩
/-- open levels -/
def Opn (T : q_T) (G : q_G) (A : md_A) (p : Nat) (lv : Nat → Nat) (h : Nat) (LS : Nat → Nat → Nat) (C X : Nat → Nat) : Prop := ∀ d, d < h → ∃ S, Lev T G (lv d) S (C d) (X d) ∧ X d ≤ 4 ∧ pz_on A p S (LS d) ∧ ∀ k, k < A 1 p + A 2 p → Rst A p S k
/-- where the search stands -/
def Sek (T : q_T) (G0 : q_G) (s u D p : Nat) (A : md_A) (sz0 m0 : Nat) (lv0 : Nat → Nat) (m : Nat) (lv : Nat → Nat) (G : q_G) (sz h : Nat) (LS : Nat → Nat → Nat) (C X : Nat → Nat) (f : Nat) (P : Nat → Nat → Nat) (t : Nat) : Prop :=
  Scn T G s ∧ (∃ W, G (s + 4) = some (q_ob 8 [.ref s, .int (nI W)])) ∧ PuzL T G u A p D ∧ G (s + 5) = some (q_ob 7 (se_ob s f t (A 1 p * A 2 p))) ∧ (∃ Q : Nat → Nat, G (s + 6) = some (q_ia T 500 (fun i => nI (Q i))) ∧ ∀ i, i < f → ∀ k, k < A 1 p * A 2 p → Q (100 * i + k) = P i k) ∧ Lvs T G s u (u + 3 + 4 * (A 1 p + A 2 p)) m lv sz ∧ h ≤ m ∧ Opn T G A p lv h LS C X ∧ sr_ok A p (h, LS, C, X, f, P, t) ∧
  (m0 ≤ m ∧ sz0 ≤ sz ∧ (∀ d, d < m0 → lv d = lv0 d) ∧ (∀ d, m0 ≤ d → d < m → sz0 ≤ lv d)) ∧ ∀ b, b < sz0 → b ≠ s + 1 ∧ b ≠ s + 2 ∧ b ≠ s + 4 ∧ b ≠ s + 5 ∧ b ≠ s + 6 ∧ b ≠ s + 7 → (∀ d, d < m0 → b ≠ lv0 d ∧ b ≠ lv0 d + 1) → G b = G0 b
section
variable {T : q_T} {G0 G G' : q_G} {s u D p : Nat} {A : md_A} {sz0 m0 : Nat} {lv0 : Nat → Nat} {m : Nat} {lv : Nat → Nat} {sz h : Nat} {LS : Nat → Nat → Nat} {C X : Nat → Nat} {f : Nat} {P : Nat → Nat → Nat} {t : Nat}
/-- a change at one level d0; those below it that are open are as they were -/
theorem Sek.at (H : Sek T G0 s u D p A sz0 m0 lv0 m lv G sz h LS C X f P t) (hsu : s + 8 ≤ u) (hsz : u + 3 + 4 * (A 1 p + A 2 p) ≤ sz0) {d0 h' : Nat} {X' : Nat → Nat} (hd0 : d0 < m) (hh : h' ≤ h) (hF : ∀ b, b ≠ lv d0 ∧ b ≠ lv d0 + 1 → G' b = G b) (hL : ∃ S c x, Lev T G' (lv d0) S c x) (hX : ∀ d, d < h' → d ≠ d0 → X' d = X d) (hO : d0 < h' → ∃ S, Lev T G' (lv d0) S (C d0) (X' d0) ∧ X' d0 ≤ 4 ∧ pz_on A p S (LS d0) ∧ ∀ k, k < A 1 p + A 2 p → Rst A p S k) : Sek T G0 s u D p A sz0 m0 lv0 m lv G' sz h' LS C X' f P t := by
  obtain ⟨a1, a2, a3, a4, ⟨Q, a5, a6⟩, a7, a8, a9, a10, ⟨b1, b2, b3, b4⟩, a11⟩ := H
  have hl0 := (a7.2.2.1 d0 hd0).2
  refine ⟨a1.fr (fun b c1 c2 => hF b (by omega)), a2.imp (fun W hW => (hF _ (by omega)).trans hW), a3.fr (fun b c1 c2 => hF b (by omega)), (hF _ (by omega)).trans a4, ⟨Q, (hF _ (by omega)).trans a5, a6⟩, a7.put hd0 (fun b c0 c1 c2 => hF b ⟨c1, c2⟩) hL, by omega, fun d hd => ?_, fun d hd => a10 d (show d < h from Nat.lt_of_lt_of_le hd hh), ⟨b1, b2, b3, b4⟩, fun b c1 c2 c3 => ?_⟩
  · by_cases e : d = d0
    · rw [e]; exact hO (e ▸ hd)
    · obtain ⟨S, hl, h4, h5⟩ := a9 d (by omega)
      have := a7.ap (d := d) (d' := d0) (by omega) hd0 e
      exact ⟨S, by rw [hX d hd e]; exact hl.fr (fun b c1 c2 => hF b (by omega)), by rw [hX d hd e]; exact h4, h5⟩
  · rw [hF b ?_]
    · exact a11 b c1 c2 c3
    · by_cases e : d0 < m0
      · have := c3 d0 e; rw [b3 d0 e]; exact this
      · have := b4 d0 (by omega) hd0; omega
theorem Sek.tried (H : Sek T G0 s u D p A sz0 m0 lv0 m lv G sz h LS C X f P t) (hsu : s + 8 ≤ u) {t' : Nat} (he : G' (s + 5) = some (q_ob 7 (se_ob s f t' (A 1 p * A 2 p)))) (hF : ∀ b, b ≠ s + 5 → G' b = G b) : Sek T G0 s u D p A sz0 m0 lv0 m lv G' sz h LS C X f P t' := by
  obtain ⟨a1, a2, a3, a4, ⟨Q, a5, a6⟩, a7, a8, a9, a10, b1, a11⟩ := H
  refine ⟨a1.fr (fun b c1 c2 => hF b (by omega)), a2.imp (fun W hW => (hF _ (by omega)).trans hW), a3.fr (fun b c1 c2 => hF b (by omega)), he, ⟨Q, (hF _ (by omega)).trans a5, a6⟩, a7.same (fun b hb => hF b (by omega)), a8, fun d hd => ?_, a10, b1, fun b c1 c2 c3 => (hF b c2.2.2.2.1).trans (a11 b c1 c2 c3)⟩
  obtain ⟨S, hl, hr⟩ := a9 d hd
  have := (a7.2.2.1 d (by omega)).2
  exact ⟨S, hl.fr (fun b c1 c2 => hF b (by omega)), hr⟩
theorem Sek.lvnew (H : Sek T G0 s u D p A sz0 m0 lv0 m lv G sz h LS C X f P t) (hsu : s + 8 ≤ u) (hsz : u + 3 + 4 * (A 1 p + A 2 p) ≤ sz0) (hm : m < 101) {g : Nat → Option Nat} (hg0 : (∀ d, d < m → g d = some (lv d)) ∧ ∀ d, m ≤ d → g d = none) (hg : G' (s + 7) = some (q_ra T 5 101 (va_up g m (some sz)))) (hL : Lev T G' sz (fun _ => 0) 0 0) (hF : ∀ b, b < sz ∧ b ≠ s + 7 → G' b = G b) : Sek T G0 s u D p A sz0 m0 lv0 (m + 1) (va_up lv m sz) G' (sz + 2) h LS C X f P t := by
  obtain ⟨a1, a2, a3, a4, ⟨Q, a5, a6⟩, a7, a8, a9, a10, ⟨b1, b2, b3, b4⟩, a11⟩ := H
  refine ⟨a1.fr (fun b c1 c2 => hF b (by omega)), a2.imp (fun W hW => (hF _ (by omega)).trans hW), a3.fr (fun b c1 c2 => hF b (by omega)), (hF _ (by omega)).trans a4, ⟨Q, (hF _ (by omega)).trans a5, a6⟩, ⟨by omega, ⟨_, hg, fun d hd => ?_, fun d hd => ?_⟩, fun d hd => ?_, fun d d' h1 h2 => ?_⟩, by omega, fun d hd => ?_, a10, ⟨by omega, by omega, fun d hd => ?_, fun d h1 h2 => ?_⟩, fun b c1 c2 c3 => (hF b (by omega)).trans (a11 b c1 c2 c3)⟩
  · by_cases e : d = m
    · rw [e, va_up_s, va_up_s]
    · rw [va_up_n _ _ e, va_up_n _ _ e]; exact hg0.1 d (by omega)
  · rw [va_up_n _ _ (by omega)]; exact hg0.2 d (by omega)
  · by_cases e : d = m
    · rw [e, va_up_s]; exact ⟨⟨_, _, _, hL⟩, by omega, Or.inr (by omega), by omega⟩
    · rw [va_up_n _ _ e]
      obtain ⟨⟨S, c, x, hl⟩, hs, hr, hz⟩ := a7.2.2.1 d (by omega)
      exact ⟨⟨S, c, x, hl.fr (fun b b1 b2 => hF b (by omega))⟩, hs, hr, by omega⟩
  · rw [va_up_n _ _ (show d ≠ m by omega)]
    by_cases e : d' = m
    · rw [e, va_up_s]; exact (a7.2.2.1 d (by omega)).2.2.2
    · rw [va_up_n _ _ e]; exact a7.2.2.2 d d' h1 (by omega)
  · rw [va_up_n _ _ (by omega)]
    obtain ⟨S, hl, hr⟩ := a9 d hd
    have := (a7.2.2.1 d (by omega)).2
    exact ⟨S, hl.fr (fun b c1 c2 => hF b (by omega)), hr⟩
  · rw [va_up_n _ _ (by omega)]; exact b3 d hd
  · by_cases e : d = m
    · rw [e, va_up_s]; exact b2
    · rw [va_up_n _ _ e]; exact b4 d h1 (by omega)
/-- behind staysOpen on level h: the push -/
theorem Sek.push {S : Nat → Nat} {P0 : Nat → Nat} {v : Option Value} (H : Sek T G0 s u D p A sz0 m0 lv0 m lv G sz h LS C X f P t) (hsu : s + 8 ≤ u) (hsz : u + 3 + 4 * (A 1 p + A 2 p) ≤ sz0) (hz : Pz A p) (hhm : h < m) {S0 : Nat → Nat} (hS0 : pz_on A p S S0) (hps : Ps A p S0) (hpn : Pn A p S0) (hno : ∀ S1, Ps A p S1 → pz_sub A p S1 S0 → pz_no A p S1 + h ≤ A 1 p * A 2 p) (hP0 : ∀ i, i < f → ∀ k, k < A 1 p * A 2 p → P0 (100 * i + k) = P i k)
    (hF : ∀ b, b ≠ s + 1 ∧ b ≠ s + 2 ∧ b ≠ s + 4 ∧ b ≠ s + 5 ∧ b ≠ s + 6 ∧ b ≠ lv h ∧ b ≠ lv h + 1 → G' b = G b) (hSc : Scn T G' s) (hT : ∃ W, G' (s + 4) = some (q_ob 8 [.ref s, .int (nI W)])) (hL : ∃ S1 c1 x1, Lev T G' (lv h) S1 c1 x1)
    (hv : (sr_op A p S = none ∧ v = some (.int (nI 0)) ∧ G' (s + 5) = some (q_ob 7 (se_ob s f t (A 1 p * A 2 p))) ∧ G' (s + 6) = some (q_ia T 500 (fun i => nI (P0 i)))) ∨ (∃ S2, sr_op A p S = some (none, S2) ∧ v = some (.int (nI 0)) ∧ G' (s + 5) = some (q_ob 7 (se_ob s (f + 1) t (A 1 p * A 2 p))) ∧ ∃ P1 : Nat → Nat, G' (s + 6) = some (q_ia T 500 (fun i => nI (P1 i))) ∧ (∀ k, k < A 1 p * A 2 p → P1 (100 * f + k) = pz_log (S2 k)) ∧ ∀ j, j < 100 * f → P1 j = P0 j) ∨ (∃ b S2, sr_op A p S = some (some b, S2) ∧ v = some (.int (nI 1)) ∧ G' (s + 5) = some (q_ob 7 (se_ob s f t (A 1 p * A 2 p))) ∧ G' (s + 6) = some (q_ia T 500 (fun i => nI (P0 i))) ∧ ∃ S1, Lev T G' (lv h) S1 b 0 ∧ pz_on A p S1 S2 ∧ ∀ k, k < A 1 p + A 2 p → Rst A p S1 k)) :
    ∃ h' LS' C' X' f' P', sr_push A p S0 (h, LS, C, X, f, P, t) = (h', LS', C', X', f', P', t) ∧ Sek T G0 s u D p A sz0 m0 lv0 m lv G' sz h' LS' C' X' f' P' t ∧ ((v = some (.int (nI 0)) ∧ h' = h) ∨ (v = some (.int (nI 1)) ∧ h' = h + 1)) := by
  have hok := sr_ok_push (X' := X) (t' := t) hz H.2.2.2.2.2.2.2.2.1 hps hpn hno
  have hsz' := pz_size hz
  obtain ⟨a1, a2, a3, a4, -, a7, a8, a9, a10, ⟨b1, b2, b3, b4⟩, a11⟩ := H
  have hl0 := (a7.2.2.1 h hhm).2
  have r7 : Lvs T G' s u (u + 3 + 4 * (A 1 p + A 2 p)) m lv sz := a7.put hhm (fun b c0 c1 c2 => hF b (by omega)) hL
  have r3 := a3.fr (fun b c1 c2 => hF b (by omega))
  have r9 : Opn T G' A p lv h LS C X := fun d hd => by
    obtain ⟨S, hl, hr⟩ := a9 d hd
    have := a7.ap (d := d) (d' := h) (by omega) hhm (by omega)
    have := (a7.2.2.1 d (by omega)).2
    exact ⟨S, hl.fr (fun b c1 c2 => hF b (by omega)), hr⟩
  have r11 : ∀ b, b < sz0 → b ≠ s + 1 ∧ b ≠ s + 2 ∧ b ≠ s + 4 ∧ b ≠ s + 5 ∧ b ≠ s + 6 ∧ b ≠ s + 7 → (∀ d, d < m0 → b ≠ lv0 d ∧ b ≠ lv0 d + 1) → G' b = G0 b := fun b c1 c2 c3 => by
    rw [hF b ?_]
    · exact a11 b c1 c2 c3
    · by_cases e : h < m0
      · have := c3 h e; rw [b3 h e]; omega
      · have := b4 h (by omega) hhm; omega
  have hop := sr_op_on hz hS0
  rcases hv with ⟨e0, rfl, g5, g6⟩ | ⟨S2, e0, rfl, g5, P1, g6, g7, g8⟩ | ⟨b, S2, e0, rfl, g5, g6, S1, gL, gon, grs⟩
  · rcases hop with ⟨-, e1⟩ | ⟨o, T1, T2, e1, -⟩
    · have eq : sr_push A p S0 (h, LS, C, X, f, P, t) = (h, LS, C, X, f, P, t) := by unfold sr_push; rw [e1]
      exact ⟨h, LS, C, X, f, P, eq, ⟨hSc, hT, r3, g5, ⟨P0, g6, hP0⟩, r7, a8, r9, a10, ⟨b1, b2, b3, b4⟩, r11⟩, Or.inl ⟨rfl, rfl⟩⟩
    · rw [e0] at e1; cases e1
  · rcases hop with ⟨e1, -⟩ | ⟨o, T1, T2, e1, e2, e3⟩
    · rw [e0] at e1; cases e1
    · rw [e0] at e1
      cases e1
      have eq : sr_push A p S0 (h, LS, C, X, f, P, t) = (h, LS, C, X, f + 1, va_up P f (fun k => pz_log (T2 k)), t) := by unfold sr_push; rw [e2]
      refine ⟨h, LS, C, X, f + 1, _, eq, ⟨hSc, hT, r3, g5, ⟨P1, g6, fun i hi k hk => ?_⟩, r7, a8, r9, a10, ⟨b1, b2, b3, b4⟩, r11⟩, Or.inl ⟨rfl, rfl⟩⟩
      by_cases hif : i = f
      · subst hif
        rw [va_up_s, g7 k hk, e3 k hk]
      · rw [va_up_n _ _ hif, g8 _ (by omega)]
        exact hP0 i (by omega) k hk
  · rcases hop with ⟨e1, -⟩ | ⟨o, T1, T2, e1, e2, e3⟩
    · rw [e0] at e1; cases e1
    · rw [e0] at e1
      cases e1
      have eq : sr_push A p S0 (h, LS, C, X, f, P, t) = (h + 1, va_up LS h T2, va_up C h b, va_up X h 0, f, P, t) := by unfold sr_push; rw [e2]
      rw [eq] at hok
      refine ⟨h + 1, _, _, _, f, P, eq, ⟨hSc, hT, r3, g5, ⟨P0, g6, hP0⟩, r7, hhm, fun d hd => ?_, hok, ⟨b1, b2, b3, b4⟩, r11⟩, Or.inr ⟨rfl, rfl⟩⟩
      by_cases hdh : d = h
      · subst hdh
        rw [va_up_s, va_up_s, va_up_s]
        exact ⟨S1, gL, Nat.zero_le _, gon.trans e3, grs⟩
      · rw [va_up_n _ _ hdh, va_up_n _ _ hdh, va_up_n _ _ hdh]
        exact r9 d (by omega)
end
