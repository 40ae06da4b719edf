/-! THE LAW -/
abbrev mL_law : q_M := (RL, yL_law, cL_law, 4, some .boolean)
/-- the world between two calls: the model at X + 18, the object at X -/
def LW (T : q_T) (X t : Nat) (I : md_I) (A : md_A) (G : q_G) (sz : Nat) : Prop := Mod T (X + 18) G I A G ∧ RepX T X I A G sz ∧ Inv t I A
theorem LW.mod {T : q_T} {X : Nat} {I : md_I} {A : md_A} {G G1 : q_G} (h : Mod T (X + 18) G I A G) (hN : ∀ b, X + 18 ≤ b → b < X + 46 → G1 b = G b) : Mod T (X + 18) G1 I A G1 :=
  ⟨(hN _ (by omega) (by omega)).trans h.1, fun k h1 h2 => (hN _ (by omega) (by omega)).trans (h.2.1 k h1 h2), fun _ _ => rfl, h.2.2.2⟩
theorem LW.step {T : q_T} {X t : Nat} {I2 I' : md_I} {A2 A' : md_A} {G1 G2 : q_G} {sz : Nat} (hR : RepX T X I2 A2 G1 sz) (hM : Mod T (X + 18) G1 I' A' G2) (hp : Per I2 I' A2 A') (hI : Inv t I2 A2) : LW T X t I' A' G2 sz := by
  obtain ⟨pa, gq, lv, O, m, vb, R⟩ := hR
  exact ⟨⟨hM.1, hM.2.1, fun _ _ => rfl, hM.2.2.2⟩, ⟨pa, gq, lv, O, m, vb, (R.mod (fun b hb => hM.2.2.1 b (by omega))).per hp⟩, hI.per hp⟩
theorem d_X9_fresh {T : q_T} {m : Nat} {G0 G : q_G} {I : md_I} {A : md_A} {sz t : Nat} (hM : Mod T m G0 I A G) (hI : Inv t I A) (x : Int32) : q_C T mX9_fresh 2 43 0 0 [.ref m, .int x] G sz (fun v G' sz' => sz = sz' ∧ ∃ (I' : md_I) (A' : md_A), Mod T m G0 I' A' G' ∧ ∃ (z : Int32) (I2 : md_I) (A2 : md_A), v = some (.int z) ∧ D_fresh I A x z I2 A2 ∧ Per I2 I' A2 A') := by
  refine q_C.mono (c_X9_fresh hM hI.1 hI.puz (fun p hp => (hI.2.1 p hp).1.2.2.2.1.2) x) (fun v G' sz' hq => ?_)
  obtain ⟨rfl, ⟨p, h1, h2, rfl, h4⟩ | ⟨h1, rfl, rfl⟩⟩ := hq
  · exact ⟨rfl, _, _, h4, _, _, _, rfl, ⟨rfl, Or.inl ⟨p, h1, h2, rfl, rfl⟩⟩, Per.rfl'⟩
  · exact ⟨rfl, _, _, hM, _, _, _, rfl, ⟨rfl, Or.inr ⟨h1, rfl, rfl⟩⟩, Per.rfl'⟩

set_option maxHeartbeats 4000000 in
set_option maxRecDepth 100000 in
theorem lc_puzzle {T : q_T} {X t b L sz bc bs : Nat} {I : md_I} {A : md_A} {G : q_G} {xs : Nat → Int32} {E : q_E} (hW : LW T X t I A G sz) (ht : t < 512) (hD : Dig T) (hXs : T.2.2.2.2.1 b = some (.int, L, xs)) (hk : 5 * t + 5 ≤ L) (hL : L ≤ 2560) (h1 : 202 ≤ bc) (h2 : 10403 ≤ bs) (hx : ∀ (I2 : md_I) (A2 : md_A) (G2 : q_G) (sz2 : Nat), LW T X (t + 1) I2 A2 G2 sz2 → q_R T mL_law 11 406 1148 [some (.ref b), some (.ref X), some (.ref (X + 18)), some (.int (nI (5 * t)))] [] G2 sz2 (bc - 202) (bs - 10403) E) : q_R T mL_law 11 406 168 [some (.ref b), some (.ref X), some (.ref (X + 18)), some (.int (nI (5 * t)))] [] G sz bc bs E := by
  obtain ⟨hM, ⟨pa, gq, lv, O, m, vb, R⟩, hI⟩ := hW
  refine q_aload_n dL_law_168 rfl rfl ?_
  refine q_aload_n dL_law_169 rfl rfl ?_
  refine q_iload_n dL_law_170 rfl ?_
  refine q_iconst (v := nI 1) dL_law_171 (by decide) ?_
  refine q_iadd dL_law_172 (nI_add _ _) ?_
  refine q_fiaload (k := 5 * t + 1) dL_law_173 hXs rfl (by omega) (by omega) rfl ?_
  refine q_aload_n dL_law_174 rfl rfl ?_
  refine q_iload_n dL_law_175 rfl ?_
  refine q_iconst (v := nI 2) dL_law_176 (by decide) ?_
  refine q_iadd dL_law_177 (nI_add _ _) ?_
  refine q_fiaload (k := 5 * t + 2) dL_law_178 hXs rfl (by omega) (by omega) rfl ?_
  refine q_aload_n dL_law_179 rfl rfl ?_
  refine q_iload_n dL_law_180 rfl ?_
  refine q_iconst (v := nI 3) dL_law_181 (by decide) ?_
  refine q_iadd dL_law_182 (nI_add _ _) ?_
  refine q_fiaload (k := 5 * t + 3) dL_law_183 hXs rfl (by omega) (by omega) rfl ?_
  refine q_iv (As := [_, _, _]) dL_law_184 ml_L_13 mt_X8_puzzle mi_X8_puzzle se_X8_puzzle R.2.1 rfl rfl (Nat.le_of_ble_eq_true rfl) (Nat.le_of_ble_eq_true rfl) (by omega) (by omega) (Nat.le_of_ble_eq_true rfl) (q_C.mono (c_X8_puzzle R hI _ _ _) (fun v G1 sz1 hq => ?_))
  obtain ⟨⟨hs1, hf1⟩, z, I2, A2, rfl, hD1, hR1⟩ := hq
  have hM := LW.mod hM hf1
  refine q_aload_n dL_law_187 rfl rfl ?_
  refine q_aload_n dL_law_188 rfl rfl ?_
  refine q_iload_n dL_law_189 rfl ?_
  refine q_iconst (v := nI 1) dL_law_190 (by decide) ?_
  refine q_iadd dL_law_191 (nI_add _ _) ?_
  refine q_fiaload (k := 5 * t + 1) dL_law_192 hXs rfl (by omega) (by omega) rfl ?_
  refine q_aload_n dL_law_193 rfl rfl ?_
  refine q_iload_n dL_law_194 rfl ?_
  refine q_iconst (v := nI 2) dL_law_195 (by decide) ?_
  refine q_iadd dL_law_196 (nI_add _ _) ?_
  refine q_fiaload (k := 5 * t + 2) dL_law_197 hXs rfl (by omega) (by omega) rfl ?_
  refine q_aload_n dL_law_198 rfl rfl ?_
  refine q_iload_n dL_law_199 rfl ?_
  refine q_iconst (v := nI 3) dL_law_200 (by decide) ?_
  refine q_iadd dL_law_201 (nI_add _ _) ?_
  refine q_fiaload (k := 5 * t + 3) dL_law_202 hXs rfl (by omega) (by omega) rfl ?_
  refine q_iv (As := [_, _, _]) dL_law_203 ml_L_17 mt_X9_puzzle mi_X9_puzzle se_X9_puzzle hM.1 rfl rfl (Nat.le_of_ble_eq_true rfl) (Nat.le_of_ble_eq_true rfl) (Nat.zero_le _) (Nat.zero_le _) (Nat.le_of_ble_eq_true rfl) (q_C.mono (c_X9_puzzle hM hI _ _ _) (fun v G2 sz2 hq => ?_))
  obtain ⟨rfl, I3, A3, hM3, z2, I4, A4, rfl, hD2, hper⟩ := hq
  obtain ⟨hz, rfl, rfl⟩ := dt_puzzle hD1 hD2
  have hz := hz.symm
  refine q_icmp_eq (tgt := 1148) dL_law_206 (by decide) (fun _ => ?_) (fun h => absurd hz h)
  exact q_R.less (hx _ _ _ _ (LW.step hR1 hM3 hper (iv_puzzle hI ht hD2))) (by omega) (by omega)

set_option maxHeartbeats 4000000 in
set_option maxRecDepth 100000 in
theorem lc_run {T : q_T} {X t b L sz bc bs : Nat} {I : md_I} {A : md_A} {G : q_G} {xs : Nat → Int32} {E : q_E} (hW : LW T X t I A G sz) (ht : t < 512) (hD : Dig T) (hXs : T.2.2.2.2.1 b = some (.int, L, xs)) (hk : 5 * t + 5 ≤ L) (hL : L ≤ 2560) (h1 : 202 ≤ bc) (h2 : 10403 ≤ bs) (hx : ∀ (I2 : md_I) (A2 : md_A) (G2 : q_G) (sz2 : Nat), LW T X (t + 1) I2 A2 G2 sz2 → q_R T mL_law 11 406 1148 [some (.ref b), some (.ref X), some (.ref (X + 18)), some (.int (nI (5 * t)))] [] G2 sz2 (bc - 202) (bs - 10403) E) : q_R T mL_law 11 406 211 [some (.ref b), some (.ref X), some (.ref (X + 18)), some (.int (nI (5 * t)))] [] G sz bc bs E := by
  obtain ⟨hM, ⟨pa, gq, lv, O, m, vb, R⟩, hI⟩ := hW
  refine q_aload_n dL_law_211 rfl rfl ?_
  refine q_aload_n dL_law_212 rfl rfl ?_
  refine q_iload_n dL_law_213 rfl ?_
  refine q_iconst (v := nI 1) dL_law_214 (by decide) ?_
  refine q_iadd dL_law_215 (nI_add _ _) ?_
  refine q_fiaload (k := 5 * t + 1) dL_law_216 hXs rfl (by omega) (by omega) rfl ?_
  refine q_aload_n dL_law_217 rfl rfl ?_
  refine q_iload_n dL_law_218 rfl ?_
  refine q_iconst (v := nI 2) dL_law_219 (by decide) ?_
  refine q_iadd dL_law_220 (nI_add _ _) ?_
  refine q_fiaload (k := 5 * t + 2) dL_law_221 hXs rfl (by omega) (by omega) rfl ?_
  refine q_aload_n dL_law_222 rfl rfl ?_
  refine q_iload_n dL_law_223 rfl ?_
  refine q_iconst (v := nI 3) dL_law_224 (by decide) ?_
  refine q_iadd dL_law_225 (nI_add _ _) ?_
  refine q_fiaload (k := 5 * t + 3) dL_law_226 hXs rfl (by omega) (by omega) rfl ?_
  refine q_aload_n dL_law_227 rfl rfl ?_
  refine q_iload_n dL_law_228 rfl ?_
  refine q_iconst (v := nI 4) dL_law_229 (by decide) ?_
  refine q_iadd dL_law_230 (nI_add _ _) ?_
  refine q_fiaload (k := 5 * t + 4) dL_law_231 hXs rfl (by omega) (by omega) rfl ?_
  refine q_iv (As := [_, _, _, _]) dL_law_232 ml_L_18 mt_X8_run mi_X8_run se_X8_run R.2.1 rfl rfl (Nat.le_of_ble_eq_true rfl) (Nat.le_of_ble_eq_true rfl) (Nat.zero_le _) (Nat.zero_le _) (Nat.le_of_ble_eq_true rfl) (q_C.mono (c_X8_run R hI _ _ _ _) (fun v G1 sz1 hq => ?_))
  obtain ⟨⟨hs1, hf1⟩, z, I2, A2, rfl, hD1, hR1⟩ := hq
  have hM := LW.mod hM hf1
  refine q_aload_n dL_law_235 rfl rfl ?_
  refine q_aload_n dL_law_236 rfl rfl ?_
  refine q_iload_n dL_law_237 rfl ?_
  refine q_iconst (v := nI 1) dL_law_238 (by decide) ?_
  refine q_iadd dL_law_239 (nI_add _ _) ?_
  refine q_fiaload (k := 5 * t + 1) dL_law_240 hXs rfl (by omega) (by omega) rfl ?_
  refine q_aload_n dL_law_241 rfl rfl ?_
  refine q_iload_n dL_law_242 rfl ?_
  refine q_iconst (v := nI 2) dL_law_243 (by decide) ?_
  refine q_iadd dL_law_244 (nI_add _ _) ?_
  refine q_fiaload (k := 5 * t + 2) dL_law_245 hXs rfl (by omega) (by omega) rfl ?_
  refine q_aload_n dL_law_246 rfl rfl ?_
  refine q_iload_n dL_law_247 rfl ?_
  refine q_iconst (v := nI 3) dL_law_248 (by decide) ?_
  refine q_iadd dL_law_249 (nI_add _ _) ?_
  refine q_fiaload (k := 5 * t + 3) dL_law_250 hXs rfl (by omega) (by omega) rfl ?_
  refine q_aload_n dL_law_251 rfl rfl ?_
  refine q_iload_n dL_law_252 rfl ?_
  refine q_iconst (v := nI 4) dL_law_253 (by decide) ?_
  refine q_iadd dL_law_254 (nI_add _ _) ?_
  refine q_fiaload (k := 5 * t + 4) dL_law_255 hXs rfl (by omega) (by omega) rfl ?_
  refine q_iv (As := [_, _, _, _]) dL_law_256 ml_L_22 mt_X9_run mi_X9_run se_X9_run hM.1 rfl rfl (Nat.le_of_ble_eq_true rfl) (Nat.le_of_ble_eq_true rfl) (Nat.zero_le _) (Nat.zero_le _) (Nat.le_of_ble_eq_true rfl) (q_C.mono (c_X9_run hM hI _ _ _ _) (fun v G2 sz2 hq => ?_))
  obtain ⟨rfl, I3, A3, hM3, z2, I4, A4, rfl, hD2, hper⟩ := hq
  obtain ⟨hz, rfl, rfl⟩ := dt_run hI hD1 hD2
  have hz := hz.symm
  refine q_icmp_eq (tgt := 1148) dL_law_259 (by decide) (fun _ => ?_) (fun h => absurd hz h)
  exact q_R.less (hx _ _ _ _ (LW.step hR1 hM3 hper (iv_run hI ht hD2))) (by omega) (by omega)

set_option maxHeartbeats 4000000 in
set_option maxRecDepth 100000 in
theorem lc_told {T : q_T} {X t b L sz bc bs : Nat} {I : md_I} {A : md_A} {G : q_G} {xs : Nat → Int32} {E : q_E} (hW : LW T X t I A G sz) (ht : t < 512) (hD : Dig T) (hXs : T.2.2.2.2.1 b = some (.int, L, xs)) (hk : 5 * t + 5 ≤ L) (hL : L ≤ 2560) (h1 : 202 ≤ bc) (h2 : 10403 ≤ bs) (hx : ∀ (I2 : md_I) (A2 : md_A) (G2 : q_G) (sz2 : Nat), LW T X (t + 1) I2 A2 G2 sz2 → q_R T mL_law 11 406 1148 [some (.ref b), some (.ref X), some (.ref (X + 18)), some (.int (nI (5 * t)))] [] G2 sz2 (bc - 202) (bs - 10403) E) : q_R T mL_law 11 406 264 [some (.ref b), some (.ref X), some (.ref (X + 18)), some (.int (nI (5 * t)))] [] G sz bc bs E := by
  obtain ⟨hM, ⟨pa, gq, lv, O, m, vb, R⟩, hI⟩ := hW
  refine q_aload_n dL_law_264 rfl rfl ?_
  refine q_aload_n dL_law_265 rfl rfl ?_
  refine q_iload_n dL_law_266 rfl ?_
  refine q_iconst (v := nI 1) dL_law_267 (by decide) ?_
  refine q_iadd dL_law_268 (nI_add _ _) ?_
  refine q_fiaload (k := 5 * t + 1) dL_law_269 hXs rfl (by omega) (by omega) rfl ?_
  refine q_aload_n dL_law_270 rfl rfl ?_
  refine q_iload_n dL_law_271 rfl ?_
  refine q_iconst (v := nI 2) dL_law_272 (by decide) ?_
  refine q_iadd dL_law_273 (nI_add _ _) ?_
  refine q_fiaload (k := 5 * t + 2) dL_law_274 hXs rfl (by omega) (by omega) rfl ?_
  refine q_iv (As := [_, _]) dL_law_275 ml_L_23 mt_X8_told mi_X8_told se_X8_told R.2.1 rfl rfl (Nat.le_of_ble_eq_true rfl) (Nat.le_of_ble_eq_true rfl) (Nat.zero_le _) (Nat.zero_le _) (Nat.le_of_ble_eq_true rfl) (q_C.mono (c_X8_told R hI _ _) (fun v G1 sz1 hq => ?_))
  obtain ⟨rfl, rfl, z, rfl, hD1⟩ := hq
  refine q_aload_n dL_law_278 rfl rfl ?_
  refine q_aload_n dL_law_279 rfl rfl ?_
  refine q_iload_n dL_law_280 rfl ?_
  refine q_iconst (v := nI 1) dL_law_281 (by decide) ?_
  refine q_iadd dL_law_282 (nI_add _ _) ?_
  refine q_fiaload (k := 5 * t + 1) dL_law_283 hXs rfl (by omega) (by omega) rfl ?_
  refine q_aload_n dL_law_284 rfl rfl ?_
  refine q_iload_n dL_law_285 rfl ?_
  refine q_iconst (v := nI 2) dL_law_286 (by decide) ?_
  refine q_iadd dL_law_287 (nI_add _ _) ?_
  refine q_fiaload (k := 5 * t + 2) dL_law_288 hXs rfl (by omega) (by omega) rfl ?_
  refine q_iv (As := [_, _]) dL_law_289 ml_L_27 mt_X9_told mi_X9_told se_X9_told hM.1 rfl rfl (Nat.le_of_ble_eq_true rfl) (Nat.le_of_ble_eq_true rfl) (Nat.zero_le _) (Nat.zero_le _) (Nat.le_of_ble_eq_true rfl) (q_C.mono (c_X9_told hM hI _ _) (fun v G2 sz2 hq => ?_))
  obtain ⟨rfl, rfl, z2, rfl, hD2⟩ := hq
  have hz : z = z2 := (dt_told hI hD1 hD2).symm
  refine q_icmp_eq (tgt := 1148) dL_law_292 (by decide) (fun _ => ?_) (fun h => absurd hz h)
  exact q_R.less (hx _ _ _ _ (⟨hM, ⟨pa, gq, lv, O, m, vb, R⟩, hI.more ht⟩)) (by omega) (by omega)

set_option maxHeartbeats 4000000 in
set_option maxRecDepth 100000 in
theorem lc_clue {T : q_T} {X t b L sz bc bs : Nat} {I : md_I} {A : md_A} {G : q_G} {xs : Nat → Int32} {E : q_E} (hW : LW T X t I A G sz) (ht : t < 512) (hD : Dig T) (hXs : T.2.2.2.2.1 b = some (.int, L, xs)) (hk : 5 * t + 5 ≤ L) (hL : L ≤ 2560) (h1 : 202 ≤ bc) (h2 : 10403 ≤ bs) (hx : ∀ (I2 : md_I) (A2 : md_A) (G2 : q_G) (sz2 : Nat), LW T X (t + 1) I2 A2 G2 sz2 → q_R T mL_law 11 406 1148 [some (.ref b), some (.ref X), some (.ref (X + 18)), some (.int (nI (5 * t)))] [] G2 sz2 (bc - 202) (bs - 10403) E) : q_R T mL_law 11 406 297 [some (.ref b), some (.ref X), some (.ref (X + 18)), some (.int (nI (5 * t)))] [] G sz bc bs E := by
  obtain ⟨hM, ⟨pa, gq, lv, O, m, vb, R⟩, hI⟩ := hW
  refine q_aload_n dL_law_297 rfl rfl ?_
  refine q_aload_n dL_law_298 rfl rfl ?_
  refine q_iload_n dL_law_299 rfl ?_
  refine q_iconst (v := nI 1) dL_law_300 (by decide) ?_
  refine q_iadd dL_law_301 (nI_add _ _) ?_
  refine q_fiaload (k := 5 * t + 1) dL_law_302 hXs rfl (by omega) (by omega) rfl ?_
  refine q_aload_n dL_law_303 rfl rfl ?_
  refine q_iload_n dL_law_304 rfl ?_
  refine q_iconst (v := nI 2) dL_law_305 (by decide) ?_
  refine q_iadd dL_law_306 (nI_add _ _) ?_
  refine q_fiaload (k := 5 * t + 2) dL_law_307 hXs rfl (by omega) (by omega) rfl ?_
  refine q_aload_n dL_law_308 rfl rfl ?_
  refine q_iload_n dL_law_309 rfl ?_
  refine q_iconst (v := nI 3) dL_law_310 (by decide) ?_
  refine q_iadd dL_law_311 (nI_add _ _) ?_
  refine q_fiaload (k := 5 * t + 3) dL_law_312 hXs rfl (by omega) (by omega) rfl ?_
  refine q_aload_n dL_law_313 rfl rfl ?_
  refine q_iload_n dL_law_314 rfl ?_
  refine q_iconst (v := nI 4) dL_law_315 (by decide) ?_
  refine q_iadd dL_law_316 (nI_add _ _) ?_
  refine q_fiaload (k := 5 * t + 4) dL_law_317 hXs rfl (by omega) (by omega) rfl ?_
  refine q_iv (As := [_, _, _, _]) dL_law_318 ml_L_28 mt_X8_clue mi_X8_clue se_X8_clue R.2.1 rfl rfl (Nat.le_of_ble_eq_true rfl) (Nat.le_of_ble_eq_true rfl) (Nat.zero_le _) (Nat.zero_le _) (Nat.le_of_ble_eq_true rfl) (q_C.mono (c_X8_clue R hI _ _ _ _) (fun v G1 sz1 hq => ?_))
  obtain ⟨rfl, rfl, z, rfl, hD1⟩ := hq
  refine q_aload_n dL_law_321 rfl rfl ?_
  refine q_aload_n dL_law_322 rfl rfl ?_
  refine q_iload_n dL_law_323 rfl ?_
  refine q_iconst (v := nI 1) dL_law_324 (by decide) ?_
  refine q_iadd dL_law_325 (nI_add _ _) ?_
  refine q_fiaload (k := 5 * t + 1) dL_law_326 hXs rfl (by omega) (by omega) rfl ?_
  refine q_aload_n dL_law_327 rfl rfl ?_
  refine q_iload_n dL_law_328 rfl ?_
  refine q_iconst (v := nI 2) dL_law_329 (by decide) ?_
  refine q_iadd dL_law_330 (nI_add _ _) ?_
  refine q_fiaload (k := 5 * t + 2) dL_law_331 hXs rfl (by omega) (by omega) rfl ?_
  refine q_aload_n dL_law_332 rfl rfl ?_
  refine q_iload_n dL_law_333 rfl ?_
  refine q_iconst (v := nI 3) dL_law_334 (by decide) ?_
  refine q_iadd dL_law_335 (nI_add _ _) ?_
  refine q_fiaload (k := 5 * t + 3) dL_law_336 hXs rfl (by omega) (by omega) rfl ?_
  refine q_aload_n dL_law_337 rfl rfl ?_
  refine q_iload_n dL_law_338 rfl ?_
  refine q_iconst (v := nI 4) dL_law_339 (by decide) ?_
  refine q_iadd dL_law_340 (nI_add _ _) ?_
  refine q_fiaload (k := 5 * t + 4) dL_law_341 hXs rfl (by omega) (by omega) rfl ?_
  refine q_iv (As := [_, _, _, _]) dL_law_342 ml_L_31 mt_X9_clue mi_X9_clue se_X9_clue hM.1 rfl rfl (Nat.le_of_ble_eq_true rfl) (Nat.le_of_ble_eq_true rfl) (Nat.zero_le _) (Nat.zero_le _) (Nat.le_of_ble_eq_true rfl) (q_C.mono (c_X9_clue hM hI _ _ _ _) (fun v G2 sz2 hq => ?_))
  obtain ⟨rfl, rfl, z2, rfl, hD2⟩ := hq
  have hz : z = z2 := (dt_clue hI hD1 hD2).symm
  refine q_icmp_eq (tgt := 1148) dL_law_345 (by decide) (fun _ => ?_) (fun h => absurd hz h)
  exact q_R.less (hx _ _ _ _ (⟨hM, ⟨pa, gq, lv, O, m, vb, R⟩, hI.more ht⟩)) (by omega) (by omega)

set_option maxHeartbeats 4000000 in
set_option maxRecDepth 100000 in
theorem lc_fresh {T : q_T} {X t b L sz bc bs : Nat} {I : md_I} {A : md_A} {G : q_G} {xs : Nat → Int32} {E : q_E} (hW : LW T X t I A G sz) (ht : t < 512) (hD : Dig T) (hXs : T.2.2.2.2.1 b = some (.int, L, xs)) (hk : 5 * t + 5 ≤ L) (hL : L ≤ 2560) (h1 : 202 ≤ bc) (h2 : 10403 ≤ bs) (hx : ∀ (I2 : md_I) (A2 : md_A) (G2 : q_G) (sz2 : Nat), LW T X (t + 1) I2 A2 G2 sz2 → q_R T mL_law 11 406 1148 [some (.ref b), some (.ref X), some (.ref (X + 18)), some (.int (nI (5 * t)))] [] G2 sz2 (bc - 202) (bs - 10403) E) : q_R T mL_law 11 406 350 [some (.ref b), some (.ref X), some (.ref (X + 18)), some (.int (nI (5 * t)))] [] G sz bc bs E := by
  obtain ⟨hM, ⟨pa, gq, lv, O, m, vb, R⟩, hI⟩ := hW
  refine q_aload_n dL_law_350 rfl rfl ?_
  refine q_aload_n dL_law_351 rfl rfl ?_
  refine q_iload_n dL_law_352 rfl ?_
  refine q_iconst (v := nI 1) dL_law_353 (by decide) ?_
  refine q_iadd dL_law_354 (nI_add _ _) ?_
  refine q_fiaload (k := 5 * t + 1) dL_law_355 hXs rfl (by omega) (by omega) rfl ?_
  refine q_iv (As := [_]) dL_law_356 ml_L_32 mt_X8_fresh mi_X8_fresh se_X8_fresh R.2.1 rfl rfl (Nat.le_of_ble_eq_true rfl) (Nat.le_of_ble_eq_true rfl) (Nat.zero_le _) (Nat.zero_le _) (Nat.le_of_ble_eq_true rfl) (q_C.mono (c_X8_fresh R hI _) (fun v G1 sz1 hq => ?_))
  obtain ⟨⟨hs1, hf1⟩, z, I2, A2, rfl, hD1, hR1⟩ := hq
  have hM := LW.mod hM hf1
  refine q_aload_n dL_law_359 rfl rfl ?_
  refine q_aload_n dL_law_360 rfl rfl ?_
  refine q_iload_n dL_law_361 rfl ?_
  refine q_iconst (v := nI 1) dL_law_362 (by decide) ?_
  refine q_iadd dL_law_363 (nI_add _ _) ?_
  refine q_fiaload (k := 5 * t + 1) dL_law_364 hXs rfl (by omega) (by omega) rfl ?_
  refine q_iv (As := [_]) dL_law_365 ml_L_36 mt_X9_fresh mi_X9_fresh se_X9_fresh hM.1 rfl rfl (Nat.le_of_ble_eq_true rfl) (Nat.le_of_ble_eq_true rfl) (Nat.zero_le _) (Nat.zero_le _) (Nat.le_of_ble_eq_true rfl) (q_C.mono (d_X9_fresh hM hI _) (fun v G2 sz2 hq => ?_))
  obtain ⟨rfl, I3, A3, hM3, z2, I4, A4, rfl, hD2, hper⟩ := hq
  obtain ⟨hz, rfl, rfl⟩ := dt_fresh hI hD1 hD2
  have hz := hz.symm
  refine q_icmp_eq (tgt := 1148) dL_law_368 (by decide) (fun _ => ?_) (fun h => absurd hz h)
  exact q_R.less (hx _ _ _ _ (LW.step hR1 hM3 hper (iv_fresh hI ht hD2))) (by omega) (by omega)

set_option maxHeartbeats 4000000 in
set_option maxRecDepth 100000 in
theorem lc_choose {T : q_T} {X t b L sz bc bs : Nat} {I : md_I} {A : md_A} {G : q_G} {xs : Nat → Int32} {E : q_E} (hW : LW T X t I A G sz) (ht : t < 512) (hD : Dig T) (hXs : T.2.2.2.2.1 b = some (.int, L, xs)) (hk : 5 * t + 5 ≤ L) (hL : L ≤ 2560) (h1 : 202 ≤ bc) (h2 : 10403 ≤ bs) (hx : ∀ (I2 : md_I) (A2 : md_A) (G2 : q_G) (sz2 : Nat), LW T X (t + 1) I2 A2 G2 sz2 → q_R T mL_law 11 406 1148 [some (.ref b), some (.ref X), some (.ref (X + 18)), some (.int (nI (5 * t)))] [] G2 sz2 (bc - 202) (bs - 10403) E) : q_R T mL_law 11 406 373 [some (.ref b), some (.ref X), some (.ref (X + 18)), some (.int (nI (5 * t)))] [] G sz bc bs E := by
  obtain ⟨hM, ⟨pa, gq, lv, O, m, vb, R⟩, hI⟩ := hW
  refine q_aload_n dL_law_373 rfl rfl ?_
  refine q_aload_n dL_law_374 rfl rfl ?_
  refine q_iload_n dL_law_375 rfl ?_
  refine q_iconst (v := nI 1) dL_law_376 (by decide) ?_
  refine q_iadd dL_law_377 (nI_add _ _) ?_
  refine q_fiaload (k := 5 * t + 1) dL_law_378 hXs rfl (by omega) (by omega) rfl ?_
  refine q_aload_n dL_law_379 rfl rfl ?_
  refine q_iload_n dL_law_380 rfl ?_
  refine q_iconst (v := nI 2) dL_law_381 (by decide) ?_
  refine q_iadd dL_law_382 (nI_add _ _) ?_
  refine q_fiaload (k := 5 * t + 2) dL_law_383 hXs rfl (by omega) (by omega) rfl ?_
  refine q_aload_n dL_law_384 rfl rfl ?_
  refine q_iload_n dL_law_385 rfl ?_
  refine q_iconst (v := nI 3) dL_law_386 (by decide) ?_
  refine q_iadd dL_law_387 (nI_add _ _) ?_
  refine q_fiaload (k := 5 * t + 3) dL_law_388 hXs rfl (by omega) (by omega) rfl ?_
  refine q_iv (As := [_, _, _]) dL_law_389 ml_L_37 mt_X8_choose mi_X8_choose se_X8_choose R.2.1 rfl rfl (Nat.le_of_ble_eq_true rfl) (Nat.le_of_ble_eq_true rfl) (Nat.zero_le _) (Nat.zero_le _) (Nat.le_of_ble_eq_true rfl) (q_C.mono (c_X8_choose R hI _ _ _) (fun v G1 sz1 hq => ?_))
  obtain ⟨⟨hs1, hf1⟩, z, I2, A2, rfl, hD1, hR1⟩ := hq
  have hM := LW.mod hM hf1
  refine q_aload_n dL_law_392 rfl rfl ?_
  refine q_aload_n dL_law_393 rfl rfl ?_
  refine q_iload_n dL_law_394 rfl ?_
  refine q_iconst (v := nI 1) dL_law_395 (by decide) ?_
  refine q_iadd dL_law_396 (nI_add _ _) ?_
  refine q_fiaload (k := 5 * t + 1) dL_law_397 hXs rfl (by omega) (by omega) rfl ?_
  refine q_aload_n dL_law_398 rfl rfl ?_
  refine q_iload_n dL_law_399 rfl ?_
  refine q_iconst (v := nI 2) dL_law_400 (by decide) ?_
  refine q_iadd dL_law_401 (nI_add _ _) ?_
  refine q_fiaload (k := 5 * t + 2) dL_law_402 hXs rfl (by omega) (by omega) rfl ?_
  refine q_aload_n dL_law_403 rfl rfl ?_
  refine q_iload_n dL_law_404 rfl ?_
  refine q_iconst (v := nI 3) dL_law_405 (by decide) ?_
  refine q_iadd dL_law_406 (nI_add _ _) ?_
  refine q_fiaload (k := 5 * t + 3) dL_law_407 hXs rfl (by omega) (by omega) rfl ?_
  refine q_iv (As := [_, _, _]) dL_law_408 ml_L_41 mt_X9_choose mi_X9_choose se_X9_choose hM.1 rfl rfl (Nat.le_of_ble_eq_true rfl) (Nat.le_of_ble_eq_true rfl) (Nat.zero_le _) (Nat.zero_le _) (Nat.le_of_ble_eq_true rfl) (q_C.mono (c_X9_choose hM hI _ _ _) (fun v G2 sz2 hq => ?_))
  obtain ⟨rfl, I3, A3, hM3, z2, I4, A4, rfl, hD2, hper⟩ := hq
  obtain ⟨hz, rfl, rfl⟩ := dt_choose hI hD1 hD2
  have hz := hz.symm
  refine q_icmp_eq (tgt := 1148) dL_law_411 (by decide) (fun _ => ?_) (fun h => absurd hz h)
  exact q_R.less (hx _ _ _ _ (LW.step hR1 hM3 hper (iv_choose hI ht hD2))) (by omega) (by omega)

set_option maxHeartbeats 4000000 in
set_option maxRecDepth 100000 in
theorem lc_bar {T : q_T} {X t b L sz bc bs : Nat} {I : md_I} {A : md_A} {G : q_G} {xs : Nat → Int32} {E : q_E} (hW : LW T X t I A G sz) (ht : t < 512) (hD : Dig T) (hXs : T.2.2.2.2.1 b = some (.int, L, xs)) (hk : 5 * t + 5 ≤ L) (hL : L ≤ 2560) (h1 : 202 ≤ bc) (h2 : 10403 ≤ bs) (hx : ∀ (I2 : md_I) (A2 : md_A) (G2 : q_G) (sz2 : Nat), LW T X (t + 1) I2 A2 G2 sz2 → q_R T mL_law 11 406 1148 [some (.ref b), some (.ref X), some (.ref (X + 18)), some (.int (nI (5 * t)))] [] G2 sz2 (bc - 202) (bs - 10403) E) : q_R T mL_law 11 406 416 [some (.ref b), some (.ref X), some (.ref (X + 18)), some (.int (nI (5 * t)))] [] G sz bc bs E := by
  obtain ⟨hM, ⟨pa, gq, lv, O, m, vb, R⟩, hI⟩ := hW
  refine q_aload_n dL_law_416 rfl rfl ?_
  refine q_aload_n dL_law_417 rfl rfl ?_
  refine q_iload_n dL_law_418 rfl ?_
  refine q_iconst (v := nI 1) dL_law_419 (by decide) ?_
  refine q_iadd dL_law_420 (nI_add _ _) ?_
  refine q_fiaload (k := 5 * t + 1) dL_law_421 hXs rfl (by omega) (by omega) rfl ?_
  refine q_aload_n dL_law_422 rfl rfl ?_
  refine q_iload_n dL_law_423 rfl ?_
  refine q_iconst (v := nI 2) dL_law_424 (by decide) ?_
  refine q_iadd dL_law_425 (nI_add _ _) ?_
  refine q_fiaload (k := 5 * t + 2) dL_law_426 hXs rfl (by omega) (by omega) rfl ?_
  refine q_aload_n dL_law_427 rfl rfl ?_
  refine q_iload_n dL_law_428 rfl ?_
  refine q_iconst (v := nI 3) dL_law_429 (by decide) ?_
  refine q_iadd dL_law_430 (nI_add _ _) ?_
  refine q_fiaload (k := 5 * t + 3) dL_law_431 hXs rfl (by omega) (by omega) rfl ?_
  refine q_iv (As := [_, _, _]) dL_law_432 ml_L_42 mt_X8_bar mi_X8_bar se_X8_bar R.2.1 rfl rfl (Nat.le_of_ble_eq_true rfl) (Nat.le_of_ble_eq_true rfl) (Nat.zero_le _) (Nat.zero_le _) (Nat.le_of_ble_eq_true rfl) (q_C.mono (c_X8_bar R hI _ _ _) (fun v G1 sz1 hq => ?_))
  obtain ⟨⟨hs1, hf1⟩, z, I2, A2, rfl, hD1, hR1⟩ := hq
  have hM := LW.mod hM hf1
  refine q_aload_n dL_law_435 rfl rfl ?_
  refine q_aload_n dL_law_436 rfl rfl ?_
  refine q_iload_n dL_law_437 rfl ?_
  refine q_iconst (v := nI 1) dL_law_438 (by decide) ?_
  refine q_iadd dL_law_439 (nI_add _ _) ?_
  refine q_fiaload (k := 5 * t + 1) dL_law_440 hXs rfl (by omega) (by omega) rfl ?_
  refine q_aload_n dL_law_441 rfl rfl ?_
  refine q_iload_n dL_law_442 rfl ?_
  refine q_iconst (v := nI 2) dL_law_443 (by decide) ?_
  refine q_iadd dL_law_444 (nI_add _ _) ?_
  refine q_fiaload (k := 5 * t + 2) dL_law_445 hXs rfl (by omega) (by omega) rfl ?_
  refine q_aload_n dL_law_446 rfl rfl ?_
  refine q_iload_n dL_law_447 rfl ?_
  refine q_iconst (v := nI 3) dL_law_448 (by decide) ?_
  refine q_iadd dL_law_449 (nI_add _ _) ?_
  refine q_fiaload (k := 5 * t + 3) dL_law_450 hXs rfl (by omega) (by omega) rfl ?_
  refine q_iv (As := [_, _, _]) dL_law_451 ml_L_45 mt_X9_bar mi_X9_bar se_X9_bar hM.1 rfl rfl (Nat.le_of_ble_eq_true rfl) (Nat.le_of_ble_eq_true rfl) (Nat.zero_le _) (Nat.zero_le _) (Nat.le_of_ble_eq_true rfl) (q_C.mono (c_X9_bar hM hI _ _ _) (fun v G2 sz2 hq => ?_))
  obtain ⟨rfl, I3, A3, hM3, z2, I4, A4, rfl, hD2, hper⟩ := hq
  obtain ⟨hz, rfl, rfl⟩ := dt_bar hI hD1 hD2
  have hz := hz.symm
  refine q_icmp_eq (tgt := 1148) dL_law_454 (by decide) (fun _ => ?_) (fun h => absurd hz h)
  exact q_R.less (hx _ _ _ _ (LW.step hR1 hM3 hper (iv_bar hI ht hD2))) (by omega) (by omega)

set_option maxHeartbeats 4000000 in
set_option maxRecDepth 100000 in
theorem lc_set {T : q_T} {X t b L sz bc bs : Nat} {I : md_I} {A : md_A} {G : q_G} {xs : Nat → Int32} {E : q_E} (hW : LW T X t I A G sz) (ht : t < 512) (hD : Dig T) (hXs : T.2.2.2.2.1 b = some (.int, L, xs)) (hk : 5 * t + 5 ≤ L) (hL : L ≤ 2560) (h1 : 202 ≤ bc) (h2 : 10403 ≤ bs) (hx : ∀ (I2 : md_I) (A2 : md_A) (G2 : q_G) (sz2 : Nat), LW T X (t + 1) I2 A2 G2 sz2 → q_R T mL_law 11 406 1148 [some (.ref b), some (.ref X), some (.ref (X + 18)), some (.int (nI (5 * t)))] [] G2 sz2 (bc - 202) (bs - 10403) E) : q_R T mL_law 11 406 459 [some (.ref b), some (.ref X), some (.ref (X + 18)), some (.int (nI (5 * t)))] [] G sz bc bs E := by
  obtain ⟨hM, ⟨pa, gq, lv, O, m, vb, R⟩, hI⟩ := hW
  refine q_aload_n dL_law_459 rfl rfl ?_
  refine q_aload_n dL_law_460 rfl rfl ?_
  refine q_iload_n dL_law_461 rfl ?_
  refine q_iconst (v := nI 1) dL_law_462 (by decide) ?_
  refine q_iadd dL_law_463 (nI_add _ _) ?_
  refine q_fiaload (k := 5 * t + 1) dL_law_464 hXs rfl (by omega) (by omega) rfl ?_
  refine q_aload_n dL_law_465 rfl rfl ?_
  refine q_iload_n dL_law_466 rfl ?_
  refine q_iconst (v := nI 2) dL_law_467 (by decide) ?_
  refine q_iadd dL_law_468 (nI_add _ _) ?_
  refine q_fiaload (k := 5 * t + 2) dL_law_469 hXs rfl (by omega) (by omega) rfl ?_
  refine q_iv (As := [_, _]) dL_law_470 ml_L_46 mt_X8_set mi_X8_set se_X8_set R.2.1 rfl rfl (Nat.le_of_ble_eq_true rfl) (Nat.le_of_ble_eq_true rfl) (Nat.zero_le _) (Nat.zero_le _) (Nat.le_of_ble_eq_true rfl) (q_C.mono (c_X8_set R hI _ _) (fun v G1 sz1 hq => ?_))
  obtain ⟨rfl, rfl, z, rfl, hD1⟩ := hq
  refine q_aload_n dL_law_473 rfl rfl ?_
  refine q_aload_n dL_law_474 rfl rfl ?_
  refine q_iload_n dL_law_475 rfl ?_
  refine q_iconst (v := nI 1) dL_law_476 (by decide) ?_
  refine q_iadd dL_law_477 (nI_add _ _) ?_
  refine q_fiaload (k := 5 * t + 1) dL_law_478 hXs rfl (by omega) (by omega) rfl ?_
  refine q_aload_n dL_law_479 rfl rfl ?_
  refine q_iload_n dL_law_480 rfl ?_
  refine q_iconst (v := nI 2) dL_law_481 (by decide) ?_
  refine q_iadd dL_law_482 (nI_add _ _) ?_
  refine q_fiaload (k := 5 * t + 2) dL_law_483 hXs rfl (by omega) (by omega) rfl ?_
  refine q_iv (As := [_, _]) dL_law_484 ml_L_49 mt_X9_set mi_X9_set se_X9_set hM.1 rfl rfl (Nat.le_of_ble_eq_true rfl) (Nat.le_of_ble_eq_true rfl) (Nat.zero_le _) (Nat.zero_le _) (Nat.le_of_ble_eq_true rfl) (q_C.mono (c_X9_set hM hI _ _) (fun v G2 sz2 hq => ?_))
  obtain ⟨rfl, rfl, z2, rfl, hD2⟩ := hq
  have hz : z = z2 := (dt_set hI hD1 hD2).symm
  refine q_icmp_eq (tgt := 1148) dL_law_487 (by decide) (fun _ => ?_) (fun h => absurd hz h)
  exact q_R.less (hx _ _ _ _ (⟨hM, ⟨pa, gq, lv, O, m, vb, R⟩, hI.more ht⟩)) (by omega) (by omega)

set_option maxHeartbeats 4000000 in
set_option maxRecDepth 100000 in
theorem lc_step {T : q_T} {X t b L sz bc bs : Nat} {I : md_I} {A : md_A} {G : q_G} {xs : Nat → Int32} {E : q_E} (hW : LW T X t I A G sz) (ht : t < 512) (hD : Dig T) (hXs : T.2.2.2.2.1 b = some (.int, L, xs)) (hk : 5 * t + 5 ≤ L) (hL : L ≤ 2560) (h1 : 202 ≤ bc) (h2 : 10403 ≤ bs) (hx : ∀ (I2 : md_I) (A2 : md_A) (G2 : q_G) (sz2 : Nat), LW T X (t + 1) I2 A2 G2 sz2 → q_R T mL_law 11 406 1148 [some (.ref b), some (.ref X), some (.ref (X + 18)), some (.int (nI (5 * t)))] [] G2 sz2 (bc - 202) (bs - 10403) E) : q_R T mL_law 11 406 492 [some (.ref b), some (.ref X), some (.ref (X + 18)), some (.int (nI (5 * t)))] [] G sz bc bs E := by
  obtain ⟨hM, ⟨pa, gq, lv, O, m, vb, R⟩, hI⟩ := hW
  refine q_aload_n dL_law_492 rfl rfl ?_
  refine q_aload_n dL_law_493 rfl rfl ?_
  refine q_iload_n dL_law_494 rfl ?_
  refine q_iconst (v := nI 1) dL_law_495 (by decide) ?_
  refine q_iadd dL_law_496 (nI_add _ _) ?_
  refine q_fiaload (k := 5 * t + 1) dL_law_497 hXs rfl (by omega) (by omega) rfl ?_
  refine q_aload_n dL_law_498 rfl rfl ?_
  refine q_iload_n dL_law_499 rfl ?_
  refine q_iconst (v := nI 2) dL_law_500 (by decide) ?_
  refine q_iadd dL_law_501 (nI_add _ _) ?_
  refine q_fiaload (k := 5 * t + 2) dL_law_502 hXs rfl (by omega) (by omega) rfl ?_
  refine q_iv (As := [_, _]) dL_law_503 ml_L_50 mt_X8_step mi_X8_step se_X8_step R.2.1 rfl rfl (Nat.le_of_ble_eq_true rfl) (Nat.le_of_ble_eq_true rfl) (Nat.zero_le _) (Nat.zero_le _) (Nat.le_of_ble_eq_true rfl) (q_C.mono (c_X8_step R hI _ _) (fun v G1 sz1 hq => ?_))
  obtain ⟨⟨hs1, hf1⟩, z, I2, A2, rfl, hD1, hR1⟩ := hq
  have hM := LW.mod hM hf1
  refine q_aload_n dL_law_506 rfl rfl ?_
  refine q_aload_n dL_law_507 rfl rfl ?_
  refine q_iload_n dL_law_508 rfl ?_
  refine q_iconst (v := nI 1) dL_law_509 (by decide) ?_
  refine q_iadd dL_law_510 (nI_add _ _) ?_
  refine q_fiaload (k := 5 * t + 1) dL_law_511 hXs rfl (by omega) (by omega) rfl ?_
  refine q_aload_n dL_law_512 rfl rfl ?_
  refine q_iload_n dL_law_513 rfl ?_
  refine q_iconst (v := nI 2) dL_law_514 (by decide) ?_
  refine q_iadd dL_law_515 (nI_add _ _) ?_
  refine q_fiaload (k := 5 * t + 2) dL_law_516 hXs rfl (by omega) (by omega) rfl ?_
  refine q_iv (As := [_, _]) dL_law_517 ml_L_53 mt_X9_step mi_X9_step se_X9_step hM.1 rfl rfl (Nat.le_of_ble_eq_true rfl) (Nat.le_of_ble_eq_true rfl) (Nat.zero_le _) (Nat.zero_le _) (Nat.le_of_ble_eq_true rfl) (q_C.mono (d_X9_step hM hI _ _) (fun v G2 sz2 hq => ?_))
  obtain ⟨rfl, I3, A3, hM3, z2, I4, A4, rfl, hD2, hper⟩ := hq
  obtain ⟨hz, rfl, rfl⟩ := dt_step hI hD1 hD2
  have hz := hz.symm
  refine q_icmp_eq (tgt := 1148) dL_law_520 (by decide) (fun _ => ?_) (fun h => absurd hz h)
  exact q_R.less (hx _ _ _ _ (LW.step hR1 hM3 hper (iv_step hI ht hD2))) (by omega) (by omega)

set_option maxHeartbeats 4000000 in
set_option maxRecDepth 100000 in
theorem lc_ways {T : q_T} {X t b L sz bc bs : Nat} {I : md_I} {A : md_A} {G : q_G} {xs : Nat → Int32} {E : q_E} (hW : LW T X t I A G sz) (ht : t < 512) (hD : Dig T) (hXs : T.2.2.2.2.1 b = some (.int, L, xs)) (hk : 5 * t + 5 ≤ L) (hL : L ≤ 2560) (h1 : 202 ≤ bc) (h2 : 10403 ≤ bs) (hx : ∀ (I2 : md_I) (A2 : md_A) (G2 : q_G) (sz2 : Nat), LW T X (t + 1) I2 A2 G2 sz2 → q_R T mL_law 11 406 1148 [some (.ref b), some (.ref X), some (.ref (X + 18)), some (.int (nI (5 * t)))] [] G2 sz2 (bc - 202) (bs - 10403) E) : q_R T mL_law 11 406 525 [some (.ref b), some (.ref X), some (.ref (X + 18)), some (.int (nI (5 * t)))] [] G sz bc bs E := by
  obtain ⟨hM, ⟨pa, gq, lv, O, m, vb, R⟩, hI⟩ := hW
  refine q_aload_n dL_law_525 rfl rfl ?_
  refine q_aload_n dL_law_526 rfl rfl ?_
  refine q_iload_n dL_law_527 rfl ?_
  refine q_iconst (v := nI 1) dL_law_528 (by decide) ?_
  refine q_iadd dL_law_529 (nI_add _ _) ?_
  refine q_fiaload (k := 5 * t + 1) dL_law_530 hXs rfl (by omega) (by omega) rfl ?_
  refine q_aload_n dL_law_531 rfl rfl ?_
  refine q_iload_n dL_law_532 rfl ?_
  refine q_iconst (v := nI 2) dL_law_533 (by decide) ?_
  refine q_iadd dL_law_534 (nI_add _ _) ?_
  refine q_fiaload (k := 5 * t + 2) dL_law_535 hXs rfl (by omega) (by omega) rfl ?_
  refine q_iv (As := [_, _]) dL_law_536 ml_L_54 mt_X8_ways mi_X8_ways se_X8_ways R.2.1 rfl rfl (Nat.le_of_ble_eq_true rfl) (Nat.le_of_ble_eq_true rfl) (Nat.zero_le _) (Nat.zero_le _) (Nat.le_of_ble_eq_true rfl) (q_C.mono (c_X8_ways R hI _ _) (fun v G1 sz1 hq => ?_))
  obtain ⟨⟨hs1, hf1⟩, z, I2, A2, rfl, hD1, hR1⟩ := hq
  have hM := LW.mod hM hf1
  refine q_aload_n dL_law_539 rfl rfl ?_
  refine q_aload_n dL_law_540 rfl rfl ?_
  refine q_iload_n dL_law_541 rfl ?_
  refine q_iconst (v := nI 1) dL_law_542 (by decide) ?_
  refine q_iadd dL_law_543 (nI_add _ _) ?_
  refine q_fiaload (k := 5 * t + 1) dL_law_544 hXs rfl (by omega) (by omega) rfl ?_
  refine q_aload_n dL_law_545 rfl rfl ?_
  refine q_iload_n dL_law_546 rfl ?_
  refine q_iconst (v := nI 2) dL_law_547 (by decide) ?_
  refine q_iadd dL_law_548 (nI_add _ _) ?_
  refine q_fiaload (k := 5 * t + 2) dL_law_549 hXs rfl (by omega) (by omega) rfl ?_
  refine q_iv (As := [_, _]) dL_law_550 ml_L_57 mt_X9_ways mi_X9_ways se_X9_ways hM.1 rfl rfl (Nat.le_of_ble_eq_true rfl) (Nat.le_of_ble_eq_true rfl) (Nat.zero_le _) (Nat.zero_le _) (Nat.le_of_ble_eq_true rfl) (q_C.mono (d_X9_ways hM hI _ _) (fun v G2 sz2 hq => ?_))
  obtain ⟨rfl, I3, A3, hM3, z2, I4, A4, rfl, hD2, hper⟩ := hq
  obtain ⟨rfl, rfl, hD1⟩ := hD1
  obtain ⟨rfl, rfl, hD2⟩ := hD2
  have hz : z = z2 := (dt_ways hI hD1 hD2).symm
  refine q_icmp_eq (tgt := 1148) dL_law_553 (by decide) (fun _ => ?_) (fun h => absurd hz h)
  exact q_R.less (hx _ _ _ _ (LW.step hR1 hM3 hper (hI.more ht))) (by omega) (by omega)

set_option maxHeartbeats 4000000 in
set_option maxRecDepth 100000 in
theorem lc_settle {T : q_T} {X t b L sz bc bs : Nat} {I : md_I} {A : md_A} {G : q_G} {xs : Nat → Int32} {E : q_E} (hW : LW T X t I A G sz) (ht : t < 512) (hD : Dig T) (hXs : T.2.2.2.2.1 b = some (.int, L, xs)) (hk : 5 * t + 5 ≤ L) (hL : L ≤ 2560) (h1 : 202 ≤ bc) (h2 : 10403 ≤ bs) (hx : ∀ (I2 : md_I) (A2 : md_A) (G2 : q_G) (sz2 : Nat), LW T X (t + 1) I2 A2 G2 sz2 → q_R T mL_law 11 406 1148 [some (.ref b), some (.ref X), some (.ref (X + 18)), some (.int (nI (5 * t)))] [] G2 sz2 (bc - 202) (bs - 10403) E) : q_R T mL_law 11 406 558 [some (.ref b), some (.ref X), some (.ref (X + 18)), some (.int (nI (5 * t)))] [] G sz bc bs E := by
  obtain ⟨hM, ⟨pa, gq, lv, O, m, vb, R⟩, hI⟩ := hW
  refine q_aload_n dL_law_558 rfl rfl ?_
  refine q_aload_n dL_law_559 rfl rfl ?_
  refine q_iload_n dL_law_560 rfl ?_
  refine q_iconst (v := nI 1) dL_law_561 (by decide) ?_
  refine q_iadd dL_law_562 (nI_add _ _) ?_
  refine q_fiaload (k := 5 * t + 1) dL_law_563 hXs rfl (by omega) (by omega) rfl ?_
  refine q_iv (As := [_]) dL_law_564 ml_L_58 mt_X8_settle mi_X8_settle se_X8_settle R.2.1 rfl rfl (Nat.le_of_ble_eq_true rfl) (Nat.le_of_ble_eq_true rfl) (Nat.zero_le _) (Nat.zero_le _) (Nat.le_of_ble_eq_true rfl) (q_C.mono (c_X8_settle R hI _) (fun v G1 sz1 hq => ?_))
  obtain ⟨⟨hs1, hf1⟩, z, I2, A2, rfl, hD1, hR1⟩ := hq
  have hM := LW.mod hM hf1
  refine q_aload_n dL_law_567 rfl rfl ?_
  refine q_aload_n dL_law_568 rfl rfl ?_
  refine q_iload_n dL_law_569 rfl ?_
  refine q_iconst (v := nI 1) dL_law_570 (by decide) ?_
  refine q_iadd dL_law_571 (nI_add _ _) ?_
  refine q_fiaload (k := 5 * t + 1) dL_law_572 hXs rfl (by omega) (by omega) rfl ?_
  refine q_iv (As := [_]) dL_law_573 ml_L_62 mt_X9_settle mi_X9_settle se_X9_settle hM.1 rfl rfl (Nat.le_of_ble_eq_true rfl) (Nat.le_of_ble_eq_true rfl) (Nat.zero_le _) (Nat.zero_le _) (Nat.le_of_ble_eq_true rfl) (q_C.mono (d_X9_settle hM hI _) (fun v G2 sz2 hq => ?_))
  obtain ⟨rfl, I3, A3, hM3, z2, I4, A4, rfl, hD2, hper⟩ := hq
  obtain ⟨hz, rfl, rfl⟩ := dt_settle hI hD1 hD2
  have hz := hz.symm
  refine q_icmp_eq (tgt := 1148) dL_law_576 (by decide) (fun _ => ?_) (fun h => absurd hz h)
  exact q_R.less (hx _ _ _ _ (LW.step hR1 hM3 hper (iv_settle hI ht hD2))) (by omega) (by omega)

set_option maxHeartbeats 4000000 in
set_option maxRecDepth 100000 in
theorem lc_search {T : q_T} {X t b L sz bc bs : Nat} {I : md_I} {A : md_A} {G : q_G} {xs : Nat → Int32} {E : q_E} (hW : LW T X t I A G sz) (ht : t < 512) (hD : Dig T) (hXs : T.2.2.2.2.1 b = some (.int, L, xs)) (hk : 5 * t + 5 ≤ L) (hL : L ≤ 2560) (h1 : 202 ≤ bc) (h2 : 10403 ≤ bs) (hx : ∀ (I2 : md_I) (A2 : md_A) (G2 : q_G) (sz2 : Nat), LW T X (t + 1) I2 A2 G2 sz2 → q_R T mL_law 11 406 1148 [some (.ref b), some (.ref X), some (.ref (X + 18)), some (.int (nI (5 * t)))] [] G2 sz2 (bc - 202) (bs - 10403) E) : q_R T mL_law 11 406 581 [some (.ref b), some (.ref X), some (.ref (X + 18)), some (.int (nI (5 * t)))] [] G sz bc bs E := by
  obtain ⟨hM, ⟨pa, gq, lv, O, m, vb, R⟩, hI⟩ := hW
  refine q_aload_n dL_law_581 rfl rfl ?_
  refine q_aload_n dL_law_582 rfl rfl ?_
  refine q_iload_n dL_law_583 rfl ?_
  refine q_iconst (v := nI 1) dL_law_584 (by decide) ?_
  refine q_iadd dL_law_585 (nI_add _ _) ?_
  refine q_fiaload (k := 5 * t + 1) dL_law_586 hXs rfl (by omega) (by omega) rfl ?_
  refine q_aload_n dL_law_587 rfl rfl ?_
  refine q_iload_n dL_law_588 rfl ?_
  refine q_iconst (v := nI 2) dL_law_589 (by decide) ?_
  refine q_iadd dL_law_590 (nI_add _ _) ?_
  refine q_fiaload (k := 5 * t + 2) dL_law_591 hXs rfl (by omega) (by omega) rfl ?_
  refine q_aload_n dL_law_592 rfl rfl ?_
  refine q_iload_n dL_law_593 rfl ?_
  refine q_iconst (v := nI 3) dL_law_594 (by decide) ?_
  refine q_iadd dL_law_595 (nI_add _ _) ?_
  refine q_fiaload (k := 5 * t + 3) dL_law_596 hXs rfl (by omega) (by omega) rfl ?_
  refine q_iv (As := [_, _, _]) dL_law_597 ml_L_63 mt_X8_search mi_X8_search se_X8_search R.2.1 rfl rfl (Nat.le_of_ble_eq_true rfl) (Nat.le_of_ble_eq_true rfl) (by omega) (by omega) (Nat.le_of_ble_eq_true rfl) (q_C.mono (c_X8_search R hI _ _ _) (fun v G1 sz1 hq => ?_))
  obtain ⟨⟨hs1, hf1⟩, z, rfl, hU⟩ := hq
  have hM := LW.mod hM hf1
  refine q_aload_n dL_law_600 rfl rfl ?_
  refine q_aload_n dL_law_601 rfl rfl ?_
  refine q_iload_n dL_law_602 rfl ?_
  refine q_iconst (v := nI 1) dL_law_603 (by decide) ?_
  refine q_iadd dL_law_604 (nI_add _ _) ?_
  refine q_fiaload (k := 5 * t + 1) dL_law_605 hXs rfl (by omega) (by omega) rfl ?_
  refine q_aload_n dL_law_606 rfl rfl ?_
  refine q_iload_n dL_law_607 rfl ?_
  refine q_iconst (v := nI 2) dL_law_608 (by decide) ?_
  refine q_iadd dL_law_609 (nI_add _ _) ?_
  refine q_fiaload (k := 5 * t + 2) dL_law_610 hXs rfl (by omega) (by omega) rfl ?_
  refine q_aload_n dL_law_611 rfl rfl ?_
  refine q_iload_n dL_law_612 rfl ?_
  refine q_iconst (v := nI 3) dL_law_613 (by decide) ?_
  refine q_iadd dL_law_614 (nI_add _ _) ?_
  refine q_fiaload (k := 5 * t + 3) dL_law_615 hXs rfl (by omega) (by omega) rfl ?_
  refine q_iv (As := [_, _, _]) dL_law_616 ml_L_66 mt_X9_search mi_X9_search se_X9_search hM.1 rfl rfl (Nat.le_of_ble_eq_true rfl) (Nat.le_of_ble_eq_true rfl) (Nat.zero_le _) (Nat.zero_le _) (Nat.le_of_ble_eq_true rfl) (q_C.mono (c_X9_search hM hI _ _ _) (fun v G2 sz2 hq => ?_))
  obtain ⟨rfl, I3, A3, hM3, z2, I4, A4, rfl, hD2, hper⟩ := hq
  obtain ⟨hz, hR1⟩ := hU _ _ _ hD2
  have hz := hz.symm
  refine q_icmp_eq (tgt := 1148) dL_law_619 (by decide) (fun _ => ?_) (fun h => absurd hz h)
  exact q_R.less (hx _ _ _ _ (LW.step hR1 hM3 hper (iv_search hI ht hD2))) (by omega) (by omega)

set_option maxHeartbeats 4000000 in
set_option maxRecDepth 100000 in
theorem lc_found {T : q_T} {X t b L sz bc bs : Nat} {I : md_I} {A : md_A} {G : q_G} {xs : Nat → Int32} {E : q_E} (hW : LW T X t I A G sz) (ht : t < 512) (hD : Dig T) (hXs : T.2.2.2.2.1 b = some (.int, L, xs)) (hk : 5 * t + 5 ≤ L) (hL : L ≤ 2560) (h1 : 202 ≤ bc) (h2 : 10403 ≤ bs) (hx : ∀ (I2 : md_I) (A2 : md_A) (G2 : q_G) (sz2 : Nat), LW T X (t + 1) I2 A2 G2 sz2 → q_R T mL_law 11 406 1148 [some (.ref b), some (.ref X), some (.ref (X + 18)), some (.int (nI (5 * t)))] [] G2 sz2 (bc - 202) (bs - 10403) E) : q_R T mL_law 11 406 624 [some (.ref b), some (.ref X), some (.ref (X + 18)), some (.int (nI (5 * t)))] [] G sz bc bs E := by
  obtain ⟨hM, ⟨pa, gq, lv, O, m, vb, R⟩, hI⟩ := hW
  refine q_aload_n dL_law_624 rfl rfl ?_
  refine q_aload_n dL_law_625 rfl rfl ?_
  refine q_iload_n dL_law_626 rfl ?_
  refine q_iconst (v := nI 1) dL_law_627 (by decide) ?_
  refine q_iadd dL_law_628 (nI_add _ _) ?_
  refine q_fiaload (k := 5 * t + 1) dL_law_629 hXs rfl (by omega) (by omega) rfl ?_
  refine q_iv (As := [_]) dL_law_630 ml_L_67 mt_X8_found mi_X8_found se_X8_found R.2.1 rfl rfl (Nat.le_of_ble_eq_true rfl) (Nat.le_of_ble_eq_true rfl) (Nat.zero_le _) (Nat.zero_le _) (Nat.le_of_ble_eq_true rfl) (q_C.mono (c_X8_found R hI _) (fun v G1 sz1 hq => ?_))
  obtain ⟨rfl, rfl, z, rfl, hD1⟩ := hq
  refine q_aload_n dL_law_633 rfl rfl ?_
  refine q_aload_n dL_law_634 rfl rfl ?_
  refine q_iload_n dL_law_635 rfl ?_
  refine q_iconst (v := nI 1) dL_law_636 (by decide) ?_
  refine q_iadd dL_law_637 (nI_add _ _) ?_
  refine q_fiaload (k := 5 * t + 1) dL_law_638 hXs rfl (by omega) (by omega) rfl ?_
  refine q_iv (As := [_]) dL_law_639 ml_L_70 mt_X9_found mi_X9_found se_X9_found hM.1 rfl rfl (Nat.le_of_ble_eq_true rfl) (Nat.le_of_ble_eq_true rfl) (Nat.zero_le _) (Nat.zero_le _) (Nat.le_of_ble_eq_true rfl) (q_C.mono (c_X9_found hM _) (fun v G2 sz2 hq => ?_))
  obtain ⟨rfl, rfl, z2, rfl, hD2⟩ := hq
  have hz : z = z2 := hD1.trans hD2.symm
  refine q_icmp_eq (tgt := 1148) dL_law_642 (by decide) (fun _ => ?_) (fun h => absurd hz h)
  exact q_R.less (hx _ _ _ _ (⟨hM, ⟨pa, gq, lv, O, m, vb, R⟩, hI.more ht⟩)) (by omega) (by omega)

set_option maxHeartbeats 4000000 in
set_option maxRecDepth 100000 in
theorem lc_picture {T : q_T} {X t b L sz bc bs : Nat} {I : md_I} {A : md_A} {G : q_G} {xs : Nat → Int32} {E : q_E} (hW : LW T X t I A G sz) (ht : t < 512) (hD : Dig T) (hXs : T.2.2.2.2.1 b = some (.int, L, xs)) (hk : 5 * t + 5 ≤ L) (hL : L ≤ 2560) (h1 : 202 ≤ bc) (h2 : 10403 ≤ bs) (hx : ∀ (I2 : md_I) (A2 : md_A) (G2 : q_G) (sz2 : Nat), LW T X (t + 1) I2 A2 G2 sz2 → q_R T mL_law 11 406 1148 [some (.ref b), some (.ref X), some (.ref (X + 18)), some (.int (nI (5 * t)))] [] G2 sz2 (bc - 202) (bs - 10403) E) : q_R T mL_law 11 406 647 [some (.ref b), some (.ref X), some (.ref (X + 18)), some (.int (nI (5 * t)))] [] G sz bc bs E := by
  obtain ⟨hM, ⟨pa, gq, lv, O, m, vb, R⟩, hI⟩ := hW
  refine q_aload_n dL_law_647 rfl rfl ?_
  refine q_aload_n dL_law_648 rfl rfl ?_
  refine q_iload_n dL_law_649 rfl ?_
  refine q_iconst (v := nI 1) dL_law_650 (by decide) ?_
  refine q_iadd dL_law_651 (nI_add _ _) ?_
  refine q_fiaload (k := 5 * t + 1) dL_law_652 hXs rfl (by omega) (by omega) rfl ?_
  refine q_aload_n dL_law_653 rfl rfl ?_
  refine q_iload_n dL_law_654 rfl ?_
  refine q_iconst (v := nI 2) dL_law_655 (by decide) ?_
  refine q_iadd dL_law_656 (nI_add _ _) ?_
  refine q_fiaload (k := 5 * t + 2) dL_law_657 hXs rfl (by omega) (by omega) rfl ?_
  refine q_iv (As := [_, _]) dL_law_658 ml_L_71 mt_X8_picture mi_X8_picture se_X8_picture R.2.1 rfl rfl (Nat.le_of_ble_eq_true rfl) (Nat.le_of_ble_eq_true rfl) (Nat.zero_le _) (Nat.zero_le _) (Nat.le_of_ble_eq_true rfl) (q_C.mono (c_X8_picture R hI _ _) (fun v G1 sz1 hq => ?_))
  obtain ⟨rfl, rfl, z, rfl, hD1⟩ := hq
  refine q_aload_n dL_law_661 rfl rfl ?_
  refine q_aload_n dL_law_662 rfl rfl ?_
  refine q_iload_n dL_law_663 rfl ?_
  refine q_iconst (v := nI 1) dL_law_664 (by decide) ?_
  refine q_iadd dL_law_665 (nI_add _ _) ?_
  refine q_fiaload (k := 5 * t + 1) dL_law_666 hXs rfl (by omega) (by omega) rfl ?_
  refine q_aload_n dL_law_667 rfl rfl ?_
  refine q_iload_n dL_law_668 rfl ?_
  refine q_iconst (v := nI 2) dL_law_669 (by decide) ?_
  refine q_iadd dL_law_670 (nI_add _ _) ?_
  refine q_fiaload (k := 5 * t + 2) dL_law_671 hXs rfl (by omega) (by omega) rfl ?_
  refine q_iv (As := [_, _]) dL_law_672 ml_L_74 mt_X9_picture mi_X9_picture se_X9_picture hM.1 rfl rfl (Nat.le_of_ble_eq_true rfl) (Nat.le_of_ble_eq_true rfl) (Nat.zero_le _) (Nat.zero_le _) (Nat.le_of_ble_eq_true rfl) (q_C.mono (c_X9_picture hM hI _ _) (fun v G2 sz2 hq => ?_))
  obtain ⟨rfl, rfl, z2, rfl, hD2⟩ := hq
  have hz : z = z2 := (dt_picture hI hD1 hD2).symm
  refine q_icmp_eq (tgt := 1148) dL_law_675 (by decide) (fun _ => ?_) (fun h => absurd hz h)
  exact q_R.less (hx _ _ _ _ (⟨hM, ⟨pa, gq, lv, O, m, vb, R⟩, hI.more ht⟩)) (by omega) (by omega)

set_option maxHeartbeats 4000000 in
set_option maxRecDepth 100000 in
theorem lc_grade {T : q_T} {X t b L sz bc bs : Nat} {I : md_I} {A : md_A} {G : q_G} {xs : Nat → Int32} {E : q_E} (hW : LW T X t I A G sz) (ht : t < 512) (hD : Dig T) (hXs : T.2.2.2.2.1 b = some (.int, L, xs)) (hk : 5 * t + 5 ≤ L) (hL : L ≤ 2560) (h1 : 202 ≤ bc) (h2 : 10403 ≤ bs) (hx : ∀ (I2 : md_I) (A2 : md_A) (G2 : q_G) (sz2 : Nat), LW T X (t + 1) I2 A2 G2 sz2 → q_R T mL_law 11 406 1148 [some (.ref b), some (.ref X), some (.ref (X + 18)), some (.int (nI (5 * t)))] [] G2 sz2 (bc - 202) (bs - 10403) E) : q_R T mL_law 11 406 680 [some (.ref b), some (.ref X), some (.ref (X + 18)), some (.int (nI (5 * t)))] [] G sz bc bs E := by
  obtain ⟨hM, ⟨pa, gq, lv, O, m, vb, R⟩, hI⟩ := hW
  refine q_aload_n dL_law_680 rfl rfl ?_
  refine q_aload_n dL_law_681 rfl rfl ?_
  refine q_iload_n dL_law_682 rfl ?_
  refine q_iconst (v := nI 1) dL_law_683 (by decide) ?_
  refine q_iadd dL_law_684 (nI_add _ _) ?_
  refine q_fiaload (k := 5 * t + 1) dL_law_685 hXs rfl (by omega) (by omega) rfl ?_
  refine q_iv (As := [_]) dL_law_686 ml_L_75 mt_X8_grade mi_X8_grade se_X8_grade R.2.1 rfl rfl (Nat.le_of_ble_eq_true rfl) (Nat.le_of_ble_eq_true rfl) (Nat.zero_le _) (Nat.zero_le _) (Nat.le_of_ble_eq_true rfl) (q_C.mono (c_X8_grade R hI _) (fun v G1 sz1 hq => ?_))
  obtain ⟨⟨hs1, hf1⟩, z, I2, A2, rfl, hD1, hR1⟩ := hq
  have hM := LW.mod hM hf1
  refine q_aload_n dL_law_689 rfl rfl ?_
  refine q_aload_n dL_law_690 rfl rfl ?_
  refine q_iload_n dL_law_691 rfl ?_
  refine q_iconst (v := nI 1) dL_law_692 (by decide) ?_
  refine q_iadd dL_law_693 (nI_add _ _) ?_
  refine q_fiaload (k := 5 * t + 1) dL_law_694 hXs rfl (by omega) (by omega) rfl ?_
  refine q_iv (As := [_]) dL_law_695 ml_L_78 mt_X9_grade mi_X9_grade se_X9_grade hM.1 rfl rfl (Nat.le_of_ble_eq_true rfl) (Nat.le_of_ble_eq_true rfl) (Nat.zero_le _) (Nat.zero_le _) (Nat.le_of_ble_eq_true rfl) (q_C.mono (c_X9_grade hM hI _) (fun v G2 sz2 hq => ?_))
  obtain ⟨rfl, I3, A3, hM3, z2, I4, A4, rfl, hD2, hper⟩ := hq
  obtain ⟨hz, rfl, rfl⟩ := dt_grade hI hD1 hD2
  have hz := hz.symm
  refine q_icmp_eq (tgt := 1148) dL_law_698 (by decide) (fun _ => ?_) (fun h => absurd hz h)
  exact q_R.less (hx _ _ _ _ (LW.step hR1 hM3 hper (iv_grade hI ht (gr_all_le A) hD2))) (by omega) (by omega)
