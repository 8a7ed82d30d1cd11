/-! THE LAW, over an invariant and contracts of the pairs of calls that it makes -/
/-- what a place of the law's loop stands on -/
def zLL (L : Nat) (xs : Nat → Int32) (M : zM) : Prop := M (1, 0) = some (.inl (0, L, .inl xs))
theorem z_ixk {t L : Nat} {k : Int32} (j : Nat) (hk : k = nI j) (hL : L ≤ 3072) (h : 6 * t + 6 ≤ L) (hj : j < 6) : (nI (6 * t) + k).toInt = ((6 * t + j : Nat) : Int) := by
  rw [hk, nI_add]
  exact nI_toInt (by omega)
theorem lg_cmp_s (x : Int64) : lg_cmp x x = 0 := by simp [lg_cmp]
set_option maxRecDepth 20000 in
set_option maxHeartbeats 4000000 in
theorem law_edge {Inv : zM → Prop} {fr cm sm L t : Nat} {xs : Nat → Int32} {M : zM} (hf : 201 ≤ fr) (hL : L ≤ 3072) (ht : 6 * t + 6 ≤ L) (hscr : zLL L xs M) (hI : Inv M) (hP : ∀ (a0 : Int32) (a1 : Int32) (a2 : Int32) (a3 : Int32) (a4 : Int32), zPI Inv zX10_edge zX11_edge 2 21 [zi a0, zi a1, zi a2, zi a3, zi a4]) (kk : ∀ M2 : zM, Inv M2 → zLL L xs M2 → zV zL_law fr cm sm 1270 (zL [some (zr (1, 0)), some (zr (2, 0)), some (zr (40, 0)), some (zi (nI (6 * t)))]) [] M2 (fun r _ => r = some (zi 1))) : zV zL_law fr (2 + cm) (21 + sm) 168 (zL [some (zr (1, 0)), some (zr (2, 0)), some (zr (40, 0)), some (zi (nI (6 * t)))]) [] M (fun r _ => r = some (zi 1)) := by
  have hscr0 := hscr
  obtain ⟨⟨fsx, hx⟩, hC⟩ := hP (xs (6 * t + 1)) (xs (6 * t + 2)) (xs (6 * t + 3)) (xs (6 * t + 4)) (xs (6 * t + 5)) (fr - 1) M (by omega) hI
  refine z_al iL_law_168 rfl ?_
  refine z_al iL_law_169 rfl ?_
  refine z_il iL_law_170 rfl ?_
  refine z_co iL_law_171 ?_
  refine z_iadd iL_law_172 ?_
  refine z_iald iL_law_173 hscr (z_ixk 1 rfl hL ht (by decide)) (by omega) ?_
  refine z_al iL_law_174 rfl ?_
  refine z_il iL_law_175 rfl ?_
  refine z_co iL_law_176 ?_
  refine z_iadd iL_law_177 ?_
  refine z_iald iL_law_178 hscr (z_ixk 2 rfl hL ht (by decide)) (by omega) ?_
  refine z_al iL_law_179 rfl ?_
  refine z_il iL_law_180 rfl ?_
  refine z_co iL_law_181 ?_
  refine z_iadd iL_law_182 ?_
  refine z_iald iL_law_183 hscr (z_ixk 3 rfl hL ht (by decide)) (by omega) ?_
  refine z_al iL_law_184 rfl ?_
  refine z_il iL_law_185 rfl ?_
  refine z_co iL_law_186 ?_
  refine z_iadd iL_law_187 ?_
  refine z_iald iL_law_188 hscr (z_ixk 4 rfl hL ht (by decide)) (by omega) ?_
  refine z_al iL_law_189 rfl ?_
  refine z_il iL_law_190 rfl ?_
  refine z_co iL_law_191 ?_
  refine z_iadd iL_law_192 ?_
  refine z_iald iL_law_193 hscr (z_ixk 5 rfl hL ht (by decide)) (by omega) ?_
  refine z_cv5iA (fr' := fr - 1) iL_law_194 zmX10_edge hx hC (by omega) (Nat.le_of_ble_eq_true rfl) (fun x M1 hq => ?_)
  obtain ⟨hk1, ⟨fsm, hm⟩, hC2⟩ := hq
  replace hscr : zLL L xs M1 := (hk1 (1, 0) (by decide)).trans hscr
  refine z_al iL_law_197 rfl ?_
  refine z_al iL_law_198 rfl ?_
  refine z_il iL_law_199 rfl ?_
  refine z_co iL_law_200 ?_
  refine z_iadd iL_law_201 ?_
  refine z_iald iL_law_202 hscr (z_ixk 1 rfl hL ht (by decide)) (by omega) ?_
  refine z_al iL_law_203 rfl ?_
  refine z_il iL_law_204 rfl ?_
  refine z_co iL_law_205 ?_
  refine z_iadd iL_law_206 ?_
  refine z_iald iL_law_207 hscr (z_ixk 2 rfl hL ht (by decide)) (by omega) ?_
  refine z_al iL_law_208 rfl ?_
  refine z_il iL_law_209 rfl ?_
  refine z_co iL_law_210 ?_
  refine z_iadd iL_law_211 ?_
  refine z_iald iL_law_212 hscr (z_ixk 3 rfl hL ht (by decide)) (by omega) ?_
  refine z_al iL_law_213 rfl ?_
  refine z_il iL_law_214 rfl ?_
  refine z_co iL_law_215 ?_
  refine z_iadd iL_law_216 ?_
  refine z_iald iL_law_217 hscr (z_ixk 4 rfl hL ht (by decide)) (by omega) ?_
  refine z_al iL_law_218 rfl ?_
  refine z_il iL_law_219 rfl ?_
  refine z_co iL_law_220 ?_
  refine z_iadd iL_law_221 ?_
  refine z_iald iL_law_222 hscr (z_ixk 5 rfl hL ht (by decide)) (by omega) ?_
  refine z_cv5i (fr' := fr - 1) iL_law_223 zmX11_edge hm hC2 (by omega) (Nat.le_of_ble_eq_true rfl) (fun x M1 hq => ?_)
  obtain ⟨rfl, hk2, hI2⟩ := hq
  refine z_icmp_eq iL_law_226 (fun h1 => ?_) (fun h1 => ?_)
  · exact kk _ hI2 ((hk2 (1, 0) (by decide)).trans hscr0)
  · exact absurd rfl h1
set_option maxRecDepth 20000 in
set_option maxHeartbeats 4000000 in
theorem law_edgeTold {Inv : zM → Prop} {fr cm sm L t : Nat} {xs : Nat → Int32} {M : zM} (hf : 201 ≤ fr) (hL : L ≤ 3072) (ht : 6 * t + 6 ≤ L) (hscr : zLL L xs M) (hI : Inv M) (hP : ∀ (a0 : Int32) (a1 : Int32), zPI Inv zX10_edgeTold zX11_edgeTold 0 0 [zi a0, zi a1]) (kk : ∀ M2 : zM, Inv M2 → zLL L xs M2 → zV zL_law fr cm sm 1270 (zL [some (zr (1, 0)), some (zr (2, 0)), some (zr (40, 0)), some (zi (nI (6 * t)))]) [] M2 (fun r _ => r = some (zi 1))) : zV zL_law fr cm sm 231 (zL [some (zr (1, 0)), some (zr (2, 0)), some (zr (40, 0)), some (zi (nI (6 * t)))]) [] M (fun r _ => r = some (zi 1)) := by
  have hscr0 := hscr
  obtain ⟨⟨fsx, hx⟩, hC⟩ := hP (xs (6 * t + 1)) (xs (6 * t + 2)) (fr - 1) M (by omega) hI
  refine z_al iL_law_231 rfl ?_
  refine z_al iL_law_232 rfl ?_
  refine z_il iL_law_233 rfl ?_
  refine z_co iL_law_234 ?_
  refine z_iadd iL_law_235 ?_
  refine z_iald iL_law_236 hscr (z_ixk 1 rfl hL ht (by decide)) (by omega) ?_
  refine z_al iL_law_237 rfl ?_
  refine z_il iL_law_238 rfl ?_
  refine z_co iL_law_239 ?_
  refine z_iadd iL_law_240 ?_
  refine z_iald iL_law_241 hscr (z_ixk 2 rfl hL ht (by decide)) (by omega) ?_
  refine z_cv2i (fr' := fr - 1) iL_law_242 zmX10_edgeTold hx hC (by omega) (Nat.le_of_ble_eq_true rfl) (fun x M1 hq => ?_)
  obtain ⟨hk1, ⟨fsm, hm⟩, hC2⟩ := hq
  replace hscr : zLL L xs M1 := (hk1 (1, 0) (by decide)).trans hscr
  refine z_al iL_law_245 rfl ?_
  refine z_al iL_law_246 rfl ?_
  refine z_il iL_law_247 rfl ?_
  refine z_co iL_law_248 ?_
  refine z_iadd iL_law_249 ?_
  refine z_iald iL_law_250 hscr (z_ixk 1 rfl hL ht (by decide)) (by omega) ?_
  refine z_al iL_law_251 rfl ?_
  refine z_il iL_law_252 rfl ?_
  refine z_co iL_law_253 ?_
  refine z_iadd iL_law_254 ?_
  refine z_iald iL_law_255 hscr (z_ixk 2 rfl hL ht (by decide)) (by omega) ?_
  refine z_cv2i (fr' := fr - 1) iL_law_256 zmX11_edgeTold hm hC2 (by omega) (Nat.le_of_ble_eq_true rfl) (fun x M1 hq => ?_)
  obtain ⟨rfl, hk2, hI2⟩ := hq
  refine z_icmp_eq iL_law_259 (fun h1 => ?_) (fun h1 => ?_)
  · exact kk _ hI2 ((hk2 (1, 0) (by decide)).trans hscr0)
  · exact absurd rfl h1
set_option maxRecDepth 20000 in
set_option maxHeartbeats 4000000 in
theorem law_used {Inv : zM → Prop} {fr cm sm L t : Nat} {xs : Nat → Int32} {M : zM} (hf : 201 ≤ fr) (hL : L ≤ 3072) (ht : 6 * t + 6 ≤ L) (hscr : zLL L xs M) (hI : Inv M) (hP : ∀ (a0 : Int32) (a1 : Int32), zPJ Inv zX10_used zX11_used 0 0 [zi a0, zi a1]) (kk : ∀ M2 : zM, Inv M2 → zLL L xs M2 → zV zL_law fr cm sm 1270 (zL [some (zr (1, 0)), some (zr (2, 0)), some (zr (40, 0)), some (zi (nI (6 * t)))]) [] M2 (fun r _ => r = some (zi 1))) : zV zL_law fr cm sm 264 (zL [some (zr (1, 0)), some (zr (2, 0)), some (zr (40, 0)), some (zi (nI (6 * t)))]) [] M (fun r _ => r = some (zi 1)) := by
  have hscr0 := hscr
  obtain ⟨⟨fsx, hx⟩, hC⟩ := hP (xs (6 * t + 1)) (xs (6 * t + 2)) (fr - 1) M (by omega) hI
  refine z_al iL_law_264 rfl ?_
  refine z_al iL_law_265 rfl ?_
  refine z_il iL_law_266 rfl ?_
  refine z_co iL_law_267 ?_
  refine z_iadd iL_law_268 ?_
  refine z_iald iL_law_269 hscr (z_ixk 1 rfl hL ht (by decide)) (by omega) ?_
  refine z_al iL_law_270 rfl ?_
  refine z_il iL_law_271 rfl ?_
  refine z_co iL_law_272 ?_
  refine z_iadd iL_law_273 ?_
  refine z_iald iL_law_274 hscr (z_ixk 2 rfl hL ht (by decide)) (by omega) ?_
  refine z_cv2j (fr' := fr - 1) iL_law_275 zmX10_used hx hC (by omega) (Nat.le_of_ble_eq_true rfl) (fun x M1 hq => ?_)
  obtain ⟨hk1, ⟨fsm, hm⟩, hC2⟩ := hq
  replace hscr : zLL L xs M1 := (hk1 (1, 0) (by decide)).trans hscr
  refine z_al iL_law_278 rfl ?_
  refine z_al iL_law_279 rfl ?_
  refine z_il iL_law_280 rfl ?_
  refine z_co iL_law_281 ?_
  refine z_iadd iL_law_282 ?_
  refine z_iald iL_law_283 hscr (z_ixk 1 rfl hL ht (by decide)) (by omega) ?_
  refine z_al iL_law_284 rfl ?_
  refine z_il iL_law_285 rfl ?_
  refine z_co iL_law_286 ?_
  refine z_iadd iL_law_287 ?_
  refine z_iald iL_law_288 hscr (z_ixk 2 rfl hL ht (by decide)) (by omega) ?_
  refine z_cv2j (fr' := fr - 1) iL_law_289 zmX11_used hm hC2 (by omega) (Nat.le_of_ble_eq_true rfl) (fun x M1 hq => ?_)
  obtain ⟨rfl, hk2, hI2⟩ := hq
  refine z_lcmp iL_law_292 ?_
  refine z_if_eq iL_law_293 (fun h1 => ?_) (fun h1 => ?_)
  · exact kk _ hI2 ((hk2 (1, 0) (by decide)).trans hscr0)
  · exact absurd (lg_cmp_s _) h1
set_option maxRecDepth 20000 in
set_option maxHeartbeats 4000000 in
theorem law_wear {Inv : zM → Prop} {fr cm sm L t : Nat} {xs : Nat → Int32} {M : zM} (hf : 201 ≤ fr) (hL : L ≤ 3072) (ht : 6 * t + 6 ≤ L) (hscr : zLL L xs M) (hI : Inv M) (hP : ∀ (a0 : Int32) (a1 : Int32) (a2 : Int32), zPI Inv zX10_wear zX11_wear 0 0 [zi a0, zi a1, zi a2]) (kk : ∀ M2 : zM, Inv M2 → zLL L xs M2 → zV zL_law fr cm sm 1270 (zL [some (zr (1, 0)), some (zr (2, 0)), some (zr (40, 0)), some (zi (nI (6 * t)))]) [] M2 (fun r _ => r = some (zi 1))) : zV zL_law fr cm sm 298 (zL [some (zr (1, 0)), some (zr (2, 0)), some (zr (40, 0)), some (zi (nI (6 * t)))]) [] M (fun r _ => r = some (zi 1)) := by
  have hscr0 := hscr
  obtain ⟨⟨fsx, hx⟩, hC⟩ := hP (xs (6 * t + 1)) (xs (6 * t + 2)) (xs (6 * t + 3)) (fr - 1) M (by omega) hI
  refine z_al iL_law_298 rfl ?_
  refine z_al iL_law_299 rfl ?_
  refine z_il iL_law_300 rfl ?_
  refine z_co iL_law_301 ?_
  refine z_iadd iL_law_302 ?_
  refine z_iald iL_law_303 hscr (z_ixk 1 rfl hL ht (by decide)) (by omega) ?_
  refine z_al iL_law_304 rfl ?_
  refine z_il iL_law_305 rfl ?_
  refine z_co iL_law_306 ?_
  refine z_iadd iL_law_307 ?_
  refine z_iald iL_law_308 hscr (z_ixk 2 rfl hL ht (by decide)) (by omega) ?_
  refine z_al iL_law_309 rfl ?_
  refine z_il iL_law_310 rfl ?_
  refine z_co iL_law_311 ?_
  refine z_iadd iL_law_312 ?_
  refine z_iald iL_law_313 hscr (z_ixk 3 rfl hL ht (by decide)) (by omega) ?_
  refine z_cv3i (fr' := fr - 1) iL_law_314 zmX10_wear hx hC (by omega) (Nat.le_of_ble_eq_true rfl) (fun x M1 hq => ?_)
  obtain ⟨hk1, ⟨fsm, hm⟩, hC2⟩ := hq
  replace hscr : zLL L xs M1 := (hk1 (1, 0) (by decide)).trans hscr
  refine z_al iL_law_317 rfl ?_
  refine z_al iL_law_318 rfl ?_
  refine z_il iL_law_319 rfl ?_
  refine z_co iL_law_320 ?_
  refine z_iadd iL_law_321 ?_
  refine z_iald iL_law_322 hscr (z_ixk 1 rfl hL ht (by decide)) (by omega) ?_
  refine z_al iL_law_323 rfl ?_
  refine z_il iL_law_324 rfl ?_
  refine z_co iL_law_325 ?_
  refine z_iadd iL_law_326 ?_
  refine z_iald iL_law_327 hscr (z_ixk 2 rfl hL ht (by decide)) (by omega) ?_
  refine z_al iL_law_328 rfl ?_
  refine z_il iL_law_329 rfl ?_
  refine z_co iL_law_330 ?_
  refine z_iadd iL_law_331 ?_
  refine z_iald iL_law_332 hscr (z_ixk 3 rfl hL ht (by decide)) (by omega) ?_
  refine z_cv3i (fr' := fr - 1) iL_law_333 zmX11_wear hm hC2 (by omega) (Nat.le_of_ble_eq_true rfl) (fun x M1 hq => ?_)
  obtain ⟨rfl, hk2, hI2⟩ := hq
  refine z_icmp_eq iL_law_336 (fun h1 => ?_) (fun h1 => ?_)
  · exact kk _ hI2 ((hk2 (1, 0) (by decide)).trans hscr0)
  · exact absurd rfl h1
set_option maxRecDepth 20000 in
set_option maxHeartbeats 4000000 in
theorem law_turn {Inv : zM → Prop} {fr cm sm L t : Nat} {xs : Nat → Int32} {M : zM} (hf : 201 ≤ fr) (hL : L ≤ 3072) (ht : 6 * t + 6 ≤ L) (hscr : zLL L xs M) (hI : Inv M) (hP : ∀ (a0 : Int32), zPI Inv zX10_turn zX11_turn 0 0 [zi a0]) (kk : ∀ M2 : zM, Inv M2 → zLL L xs M2 → zV zL_law fr cm sm 1270 (zL [some (zr (1, 0)), some (zr (2, 0)), some (zr (40, 0)), some (zi (nI (6 * t)))]) [] M2 (fun r _ => r = some (zi 1))) : zV zL_law fr cm sm 341 (zL [some (zr (1, 0)), some (zr (2, 0)), some (zr (40, 0)), some (zi (nI (6 * t)))]) [] M (fun r _ => r = some (zi 1)) := by
  have hscr0 := hscr
  obtain ⟨⟨fsx, hx⟩, hC⟩ := hP (xs (6 * t + 1)) (fr - 1) M (by omega) hI
  refine z_al iL_law_341 rfl ?_
  refine z_al iL_law_342 rfl ?_
  refine z_il iL_law_343 rfl ?_
  refine z_co iL_law_344 ?_
  refine z_iadd iL_law_345 ?_
  refine z_iald iL_law_346 hscr (z_ixk 1 rfl hL ht (by decide)) (by omega) ?_
  refine z_cv1i (fr' := fr - 1) iL_law_347 zmX10_turn hx hC (by omega) (Nat.le_of_ble_eq_true rfl) (fun x M1 hq => ?_)
  obtain ⟨hk1, ⟨fsm, hm⟩, hC2⟩ := hq
  replace hscr : zLL L xs M1 := (hk1 (1, 0) (by decide)).trans hscr
  refine z_al iL_law_350 rfl ?_
  refine z_al iL_law_351 rfl ?_
  refine z_il iL_law_352 rfl ?_
  refine z_co iL_law_353 ?_
  refine z_iadd iL_law_354 ?_
  refine z_iald iL_law_355 hscr (z_ixk 1 rfl hL ht (by decide)) (by omega) ?_
  refine z_cv1i (fr' := fr - 1) iL_law_356 zmX11_turn hm hC2 (by omega) (Nat.le_of_ble_eq_true rfl) (fun x M1 hq => ?_)
  obtain ⟨rfl, hk2, hI2⟩ := hq
  refine z_icmp_eq iL_law_359 (fun h1 => ?_) (fun h1 => ?_)
  · exact kk _ hI2 ((hk2 (1, 0) (by decide)).trans hscr0)
  · exact absurd rfl h1
set_option maxRecDepth 20000 in
set_option maxHeartbeats 4000000 in
theorem law_grind {Inv : zM → Prop} {fr cm sm L t : Nat} {xs : Nat → Int32} {M : zM} (hf : 201 ≤ fr) (hL : L ≤ 3072) (ht : 6 * t + 6 ≤ L) (hscr : zLL L xs M) (hI : Inv M) (hP : ∀ (a0 : Int32) (a1 : Int32), zPI Inv zX10_grind zX11_grind 0 0 [zi a0, zi a1]) (kk : ∀ M2 : zM, Inv M2 → zLL L xs M2 → zV zL_law fr cm sm 1270 (zL [some (zr (1, 0)), some (zr (2, 0)), some (zr (40, 0)), some (zi (nI (6 * t)))]) [] M2 (fun r _ => r = some (zi 1))) : zV zL_law fr cm sm 364 (zL [some (zr (1, 0)), some (zr (2, 0)), some (zr (40, 0)), some (zi (nI (6 * t)))]) [] M (fun r _ => r = some (zi 1)) := by
  have hscr0 := hscr
  obtain ⟨⟨fsx, hx⟩, hC⟩ := hP (xs (6 * t + 1)) (xs (6 * t + 2)) (fr - 1) M (by omega) hI
  refine z_al iL_law_364 rfl ?_
  refine z_al iL_law_365 rfl ?_
  refine z_il iL_law_366 rfl ?_
  refine z_co iL_law_367 ?_
  refine z_iadd iL_law_368 ?_
  refine z_iald iL_law_369 hscr (z_ixk 1 rfl hL ht (by decide)) (by omega) ?_
  refine z_al iL_law_370 rfl ?_
  refine z_il iL_law_371 rfl ?_
  refine z_co iL_law_372 ?_
  refine z_iadd iL_law_373 ?_
  refine z_iald iL_law_374 hscr (z_ixk 2 rfl hL ht (by decide)) (by omega) ?_
  refine z_cv2i (fr' := fr - 1) iL_law_375 zmX10_grind hx hC (by omega) (Nat.le_of_ble_eq_true rfl) (fun x M1 hq => ?_)
  obtain ⟨hk1, ⟨fsm, hm⟩, hC2⟩ := hq
  replace hscr : zLL L xs M1 := (hk1 (1, 0) (by decide)).trans hscr
  refine z_al iL_law_378 rfl ?_
  refine z_al iL_law_379 rfl ?_
  refine z_il iL_law_380 rfl ?_
  refine z_co iL_law_381 ?_
  refine z_iadd iL_law_382 ?_
  refine z_iald iL_law_383 hscr (z_ixk 1 rfl hL ht (by decide)) (by omega) ?_
  refine z_al iL_law_384 rfl ?_
  refine z_il iL_law_385 rfl ?_
  refine z_co iL_law_386 ?_
  refine z_iadd iL_law_387 ?_
  refine z_iald iL_law_388 hscr (z_ixk 2 rfl hL ht (by decide)) (by omega) ?_
  refine z_cv2i (fr' := fr - 1) iL_law_389 zmX11_grind hm hC2 (by omega) (Nat.le_of_ble_eq_true rfl) (fun x M1 hq => ?_)
  obtain ⟨rfl, hk2, hI2⟩ := hq
  refine z_icmp_eq iL_law_392 (fun h1 => ?_) (fun h1 => ?_)
  · exact kk _ hI2 ((hk2 (1, 0) (by decide)).trans hscr0)
  · exact absurd rfl h1
set_option maxRecDepth 20000 in
set_option maxHeartbeats 4000000 in
theorem law_trail {Inv : zM → Prop} {fr cm sm L t : Nat} {xs : Nat → Int32} {M : zM} (hf : 201 ≤ fr) (hL : L ≤ 3072) (ht : 6 * t + 6 ≤ L) (hscr : zLL L xs M) (hI : Inv M) (hP : ∀ (a0 : Int32) (a1 : Int32), zPI Inv zX10_trail zX11_trail 0 0 [zi a0, zi a1]) (kk : ∀ M2 : zM, Inv M2 → zLL L xs M2 → zV zL_law fr cm sm 1270 (zL [some (zr (1, 0)), some (zr (2, 0)), some (zr (40, 0)), some (zi (nI (6 * t)))]) [] M2 (fun r _ => r = some (zi 1))) : zV zL_law fr cm sm 397 (zL [some (zr (1, 0)), some (zr (2, 0)), some (zr (40, 0)), some (zi (nI (6 * t)))]) [] M (fun r _ => r = some (zi 1)) := by
  have hscr0 := hscr
  obtain ⟨⟨fsx, hx⟩, hC⟩ := hP (xs (6 * t + 1)) (xs (6 * t + 2)) (fr - 1) M (by omega) hI
  refine z_al iL_law_397 rfl ?_
  refine z_al iL_law_398 rfl ?_
  refine z_il iL_law_399 rfl ?_
  refine z_co iL_law_400 ?_
  refine z_iadd iL_law_401 ?_
  refine z_iald iL_law_402 hscr (z_ixk 1 rfl hL ht (by decide)) (by omega) ?_
  refine z_al iL_law_403 rfl ?_
  refine z_il iL_law_404 rfl ?_
  refine z_co iL_law_405 ?_
  refine z_iadd iL_law_406 ?_
  refine z_iald iL_law_407 hscr (z_ixk 2 rfl hL ht (by decide)) (by omega) ?_
  refine z_cv2i (fr' := fr - 1) iL_law_408 zmX10_trail hx hC (by omega) (Nat.le_of_ble_eq_true rfl) (fun x M1 hq => ?_)
  obtain ⟨hk1, ⟨fsm, hm⟩, hC2⟩ := hq
  replace hscr : zLL L xs M1 := (hk1 (1, 0) (by decide)).trans hscr
  refine z_al iL_law_411 rfl ?_
  refine z_al iL_law_412 rfl ?_
  refine z_il iL_law_413 rfl ?_
  refine z_co iL_law_414 ?_
  refine z_iadd iL_law_415 ?_
  refine z_iald iL_law_416 hscr (z_ixk 1 rfl hL ht (by decide)) (by omega) ?_
  refine z_al iL_law_417 rfl ?_
  refine z_il iL_law_418 rfl ?_
  refine z_co iL_law_419 ?_
  refine z_iadd iL_law_420 ?_
  refine z_iald iL_law_421 hscr (z_ixk 2 rfl hL ht (by decide)) (by omega) ?_
  refine z_cv2i (fr' := fr - 1) iL_law_422 zmX11_trail hm hC2 (by omega) (Nat.le_of_ble_eq_true rfl) (fun x M1 hq => ?_)
  obtain ⟨rfl, hk2, hI2⟩ := hq
  refine z_icmp_eq iL_law_425 (fun h1 => ?_) (fun h1 => ?_)
  · exact kk _ hI2 ((hk2 (1, 0) (by decide)).trans hscr0)
  · exact absurd rfl h1
set_option maxRecDepth 20000 in
set_option maxHeartbeats 4000000 in
theorem law_tool {Inv : zM → Prop} {fr cm sm L t : Nat} {xs : Nat → Int32} {M : zM} (hf : 201 ≤ fr) (hL : L ≤ 3072) (ht : 6 * t + 6 ≤ L) (hscr : zLL L xs M) (hI : Inv M) (hP : ∀ (a0 : Int32) (a1 : Int32) (a2 : Int32) (a3 : Int32), zPI Inv zX10_tool zX11_tool 1 8 [zi a0, zi a1, zi a2, zi a3]) (kk : ∀ M2 : zM, Inv M2 → zLL L xs M2 → zV zL_law fr cm sm 1270 (zL [some (zr (1, 0)), some (zr (2, 0)), some (zr (40, 0)), some (zi (nI (6 * t)))]) [] M2 (fun r _ => r = some (zi 1))) : zV zL_law fr (1 + cm) (8 + sm) 430 (zL [some (zr (1, 0)), some (zr (2, 0)), some (zr (40, 0)), some (zi (nI (6 * t)))]) [] M (fun r _ => r = some (zi 1)) := by
  have hscr0 := hscr
  obtain ⟨⟨fsx, hx⟩, hC⟩ := hP (xs (6 * t + 1)) (xs (6 * t + 2)) (xs (6 * t + 3)) (xs (6 * t + 4)) (fr - 1) M (by omega) hI
  refine z_al iL_law_430 rfl ?_
  refine z_al iL_law_431 rfl ?_
  refine z_il iL_law_432 rfl ?_
  refine z_co iL_law_433 ?_
  refine z_iadd iL_law_434 ?_
  refine z_iald iL_law_435 hscr (z_ixk 1 rfl hL ht (by decide)) (by omega) ?_
  refine z_al iL_law_436 rfl ?_
  refine z_il iL_law_437 rfl ?_
  refine z_co iL_law_438 ?_
  refine z_iadd iL_law_439 ?_
  refine z_iald iL_law_440 hscr (z_ixk 2 rfl hL ht (by decide)) (by omega) ?_
  refine z_al iL_law_441 rfl ?_
  refine z_il iL_law_442 rfl ?_
  refine z_co iL_law_443 ?_
  refine z_iadd iL_law_444 ?_
  refine z_iald iL_law_445 hscr (z_ixk 3 rfl hL ht (by decide)) (by omega) ?_
  refine z_al iL_law_446 rfl ?_
  refine z_il iL_law_447 rfl ?_
  refine z_co iL_law_448 ?_
  refine z_iadd iL_law_449 ?_
  refine z_iald iL_law_450 hscr (z_ixk 4 rfl hL ht (by decide)) (by omega) ?_
  refine z_cv4iA (fr' := fr - 1) iL_law_451 zmX10_tool hx hC (by omega) (Nat.le_of_ble_eq_true rfl) (fun x M1 hq => ?_)
  obtain ⟨hk1, ⟨fsm, hm⟩, hC2⟩ := hq
  replace hscr : zLL L xs M1 := (hk1 (1, 0) (by decide)).trans hscr
  refine z_al iL_law_454 rfl ?_
  refine z_al iL_law_455 rfl ?_
  refine z_il iL_law_456 rfl ?_
  refine z_co iL_law_457 ?_
  refine z_iadd iL_law_458 ?_
  refine z_iald iL_law_459 hscr (z_ixk 1 rfl hL ht (by decide)) (by omega) ?_
  refine z_al iL_law_460 rfl ?_
  refine z_il iL_law_461 rfl ?_
  refine z_co iL_law_462 ?_
  refine z_iadd iL_law_463 ?_
  refine z_iald iL_law_464 hscr (z_ixk 2 rfl hL ht (by decide)) (by omega) ?_
  refine z_al iL_law_465 rfl ?_
  refine z_il iL_law_466 rfl ?_
  refine z_co iL_law_467 ?_
  refine z_iadd iL_law_468 ?_
  refine z_iald iL_law_469 hscr (z_ixk 3 rfl hL ht (by decide)) (by omega) ?_
  refine z_al iL_law_470 rfl ?_
  refine z_il iL_law_471 rfl ?_
  refine z_co iL_law_472 ?_
  refine z_iadd iL_law_473 ?_
  refine z_iald iL_law_474 hscr (z_ixk 4 rfl hL ht (by decide)) (by omega) ?_
  refine z_cv4i (fr' := fr - 1) iL_law_475 zmX11_tool hm hC2 (by omega) (Nat.le_of_ble_eq_true rfl) (fun x M1 hq => ?_)
  obtain ⟨rfl, hk2, hI2⟩ := hq
  refine z_icmp_eq iL_law_478 (fun h1 => ?_) (fun h1 => ?_)
  · exact kk _ hI2 ((hk2 (1, 0) (by decide)).trans hscr0)
  · exact absurd rfl h1
set_option maxRecDepth 20000 in
set_option maxHeartbeats 4000000 in
theorem law_toolTold {Inv : zM → Prop} {fr cm sm L t : Nat} {xs : Nat → Int32} {M : zM} (hf : 201 ≤ fr) (hL : L ≤ 3072) (ht : 6 * t + 6 ≤ L) (hscr : zLL L xs M) (hI : Inv M) (hP : ∀ (a0 : Int32) (a1 : Int32), zPI Inv zX10_toolTold zX11_toolTold 0 0 [zi a0, zi a1]) (kk : ∀ M2 : zM, Inv M2 → zLL L xs M2 → zV zL_law fr cm sm 1270 (zL [some (zr (1, 0)), some (zr (2, 0)), some (zr (40, 0)), some (zi (nI (6 * t)))]) [] M2 (fun r _ => r = some (zi 1))) : zV zL_law fr cm sm 483 (zL [some (zr (1, 0)), some (zr (2, 0)), some (zr (40, 0)), some (zi (nI (6 * t)))]) [] M (fun r _ => r = some (zi 1)) := by
  have hscr0 := hscr
  obtain ⟨⟨fsx, hx⟩, hC⟩ := hP (xs (6 * t + 1)) (xs (6 * t + 2)) (fr - 1) M (by omega) hI
  refine z_al iL_law_483 rfl ?_
  refine z_al iL_law_484 rfl ?_
  refine z_il iL_law_485 rfl ?_
  refine z_co iL_law_486 ?_
  refine z_iadd iL_law_487 ?_
  refine z_iald iL_law_488 hscr (z_ixk 1 rfl hL ht (by decide)) (by omega) ?_
  refine z_al iL_law_489 rfl ?_
  refine z_il iL_law_490 rfl ?_
  refine z_co iL_law_491 ?_
  refine z_iadd iL_law_492 ?_
  refine z_iald iL_law_493 hscr (z_ixk 2 rfl hL ht (by decide)) (by omega) ?_
  refine z_cv2i (fr' := fr - 1) iL_law_494 zmX10_toolTold hx hC (by omega) (Nat.le_of_ble_eq_true rfl) (fun x M1 hq => ?_)
  obtain ⟨hk1, ⟨fsm, hm⟩, hC2⟩ := hq
  replace hscr : zLL L xs M1 := (hk1 (1, 0) (by decide)).trans hscr
  refine z_al iL_law_497 rfl ?_
  refine z_al iL_law_498 rfl ?_
  refine z_il iL_law_499 rfl ?_
  refine z_co iL_law_500 ?_
  refine z_iadd iL_law_501 ?_
  refine z_iald iL_law_502 hscr (z_ixk 1 rfl hL ht (by decide)) (by omega) ?_
  refine z_al iL_law_503 rfl ?_
  refine z_il iL_law_504 rfl ?_
  refine z_co iL_law_505 ?_
  refine z_iadd iL_law_506 ?_
  refine z_iald iL_law_507 hscr (z_ixk 2 rfl hL ht (by decide)) (by omega) ?_
  refine z_cv2i (fr' := fr - 1) iL_law_508 zmX11_toolTold hm hC2 (by omega) (Nat.le_of_ble_eq_true rfl) (fun x M1 hq => ?_)
  obtain ⟨rfl, hk2, hI2⟩ := hq
  refine z_icmp_eq iL_law_511 (fun h1 => ?_) (fun h1 => ?_)
  · exact kk _ hI2 ((hk2 (1, 0) (by decide)).trans hscr0)
  · exact absurd rfl h1
set_option maxRecDepth 20000 in
set_option maxHeartbeats 4000000 in
theorem law_setter {Inv : zM → Prop} {fr cm sm L t : Nat} {xs : Nat → Int32} {M : zM} (hf : 201 ≤ fr) (hL : L ≤ 3072) (ht : 6 * t + 6 ≤ L) (hscr : zLL L xs M) (hI : Inv M) (hP : ∀ (a0 : Int32) (a1 : Int32), zPI Inv zX10_setter zX11_setter 0 0 [zi a0, zi a1]) (kk : ∀ M2 : zM, Inv M2 → zLL L xs M2 → zV zL_law fr cm sm 1270 (zL [some (zr (1, 0)), some (zr (2, 0)), some (zr (40, 0)), some (zi (nI (6 * t)))]) [] M2 (fun r _ => r = some (zi 1))) : zV zL_law fr cm sm 516 (zL [some (zr (1, 0)), some (zr (2, 0)), some (zr (40, 0)), some (zi (nI (6 * t)))]) [] M (fun r _ => r = some (zi 1)) := by
  have hscr0 := hscr
  obtain ⟨⟨fsx, hx⟩, hC⟩ := hP (xs (6 * t + 1)) (xs (6 * t + 2)) (fr - 1) M (by omega) hI
  refine z_al iL_law_516 rfl ?_
  refine z_al iL_law_517 rfl ?_
  refine z_il iL_law_518 rfl ?_
  refine z_co iL_law_519 ?_
  refine z_iadd iL_law_520 ?_
  refine z_iald iL_law_521 hscr (z_ixk 1 rfl hL ht (by decide)) (by omega) ?_
  refine z_al iL_law_522 rfl ?_
  refine z_il iL_law_523 rfl ?_
  refine z_co iL_law_524 ?_
  refine z_iadd iL_law_525 ?_
  refine z_iald iL_law_526 hscr (z_ixk 2 rfl hL ht (by decide)) (by omega) ?_
  refine z_cv2i (fr' := fr - 1) iL_law_527 zmX10_setter hx hC (by omega) (Nat.le_of_ble_eq_true rfl) (fun x M1 hq => ?_)
  obtain ⟨hk1, ⟨fsm, hm⟩, hC2⟩ := hq
  replace hscr : zLL L xs M1 := (hk1 (1, 0) (by decide)).trans hscr
  refine z_al iL_law_530 rfl ?_
  refine z_al iL_law_531 rfl ?_
  refine z_il iL_law_532 rfl ?_
  refine z_co iL_law_533 ?_
  refine z_iadd iL_law_534 ?_
  refine z_iald iL_law_535 hscr (z_ixk 1 rfl hL ht (by decide)) (by omega) ?_
  refine z_al iL_law_536 rfl ?_
  refine z_il iL_law_537 rfl ?_
  refine z_co iL_law_538 ?_
  refine z_iadd iL_law_539 ?_
  refine z_iald iL_law_540 hscr (z_ixk 2 rfl hL ht (by decide)) (by omega) ?_
  refine z_cv2i (fr' := fr - 1) iL_law_541 zmX11_setter hm hC2 (by omega) (Nat.le_of_ble_eq_true rfl) (fun x M1 hq => ?_)
  obtain ⟨rfl, hk2, hI2⟩ := hq
  refine z_icmp_eq iL_law_544 (fun h1 => ?_) (fun h1 => ?_)
  · exact kk _ hI2 ((hk2 (1, 0) (by decide)).trans hscr0)
  · exact absurd rfl h1
set_option maxRecDepth 20000 in
set_option maxHeartbeats 4000000 in
theorem law_calibrate {Inv : zM → Prop} {fr cm sm L t : Nat} {xs : Nat → Int32} {M : zM} (hf : 201 ≤ fr) (hL : L ≤ 3072) (ht : 6 * t + 6 ≤ L) (hscr : zLL L xs M) (hI : Inv M) (hP : ∀ (a0 : Int32), zPI Inv zX10_calibrate zX11_calibrate 0 0 [zi a0]) (kk : ∀ M2 : zM, Inv M2 → zLL L xs M2 → zV zL_law fr cm sm 1270 (zL [some (zr (1, 0)), some (zr (2, 0)), some (zr (40, 0)), some (zi (nI (6 * t)))]) [] M2 (fun r _ => r = some (zi 1))) : zV zL_law fr cm sm 549 (zL [some (zr (1, 0)), some (zr (2, 0)), some (zr (40, 0)), some (zi (nI (6 * t)))]) [] M (fun r _ => r = some (zi 1)) := by
  have hscr0 := hscr
  obtain ⟨⟨fsx, hx⟩, hC⟩ := hP (xs (6 * t + 1)) (fr - 1) M (by omega) hI
  refine z_al iL_law_549 rfl ?_
  refine z_al iL_law_550 rfl ?_
  refine z_il iL_law_551 rfl ?_
  refine z_co iL_law_552 ?_
  refine z_iadd iL_law_553 ?_
  refine z_iald iL_law_554 hscr (z_ixk 1 rfl hL ht (by decide)) (by omega) ?_
  refine z_cv1i (fr' := fr - 1) iL_law_555 zmX10_calibrate hx hC (by omega) (Nat.le_of_ble_eq_true rfl) (fun x M1 hq => ?_)
  obtain ⟨hk1, ⟨fsm, hm⟩, hC2⟩ := hq
  replace hscr : zLL L xs M1 := (hk1 (1, 0) (by decide)).trans hscr
  refine z_al iL_law_558 rfl ?_
  refine z_al iL_law_559 rfl ?_
  refine z_il iL_law_560 rfl ?_
  refine z_co iL_law_561 ?_
  refine z_iadd iL_law_562 ?_
  refine z_iald iL_law_563 hscr (z_ixk 1 rfl hL ht (by decide)) (by omega) ?_
  refine z_cv1i (fr' := fr - 1) iL_law_564 zmX11_calibrate hm hC2 (by omega) (Nat.le_of_ble_eq_true rfl) (fun x M1 hq => ?_)
  obtain ⟨rfl, hk2, hI2⟩ := hq
  refine z_icmp_eq iL_law_567 (fun h1 => ?_) (fun h1 => ?_)
  · exact kk _ hI2 ((hk2 (1, 0) (by decide)).trans hscr0)
  · exact absurd rfl h1
set_option maxRecDepth 20000 in
set_option maxHeartbeats 4000000 in
theorem law_measure {Inv : zM → Prop} {fr cm sm L t : Nat} {xs : Nat → Int32} {M : zM} (hf : 201 ≤ fr) (hL : L ≤ 3072) (ht : 6 * t + 6 ≤ L) (hscr : zLL L xs M) (hI : Inv M) (hP : ∀ (a0 : Int32), zPI Inv zX10_measure zX11_measure 0 0 [zi a0]) (kk : ∀ M2 : zM, Inv M2 → zLL L xs M2 → zV zL_law fr cm sm 1270 (zL [some (zr (1, 0)), some (zr (2, 0)), some (zr (40, 0)), some (zi (nI (6 * t)))]) [] M2 (fun r _ => r = some (zi 1))) : zV zL_law fr cm sm 572 (zL [some (zr (1, 0)), some (zr (2, 0)), some (zr (40, 0)), some (zi (nI (6 * t)))]) [] M (fun r _ => r = some (zi 1)) := by
  have hscr0 := hscr
  obtain ⟨⟨fsx, hx⟩, hC⟩ := hP (xs (6 * t + 1)) (fr - 1) M (by omega) hI
  refine z_al iL_law_572 rfl ?_
  refine z_al iL_law_573 rfl ?_
  refine z_il iL_law_574 rfl ?_
  refine z_co iL_law_575 ?_
  refine z_iadd iL_law_576 ?_
  refine z_iald iL_law_577 hscr (z_ixk 1 rfl hL ht (by decide)) (by omega) ?_
  refine z_cv1i (fr' := fr - 1) iL_law_578 zmX10_measure hx hC (by omega) (Nat.le_of_ble_eq_true rfl) (fun x M1 hq => ?_)
  obtain ⟨hk1, ⟨fsm, hm⟩, hC2⟩ := hq
  replace hscr : zLL L xs M1 := (hk1 (1, 0) (by decide)).trans hscr
  refine z_al iL_law_581 rfl ?_
  refine z_al iL_law_582 rfl ?_
  refine z_il iL_law_583 rfl ?_
  refine z_co iL_law_584 ?_
  refine z_iadd iL_law_585 ?_
  refine z_iald iL_law_586 hscr (z_ixk 1 rfl hL ht (by decide)) (by omega) ?_
  refine z_cv1i (fr' := fr - 1) iL_law_587 zmX11_measure hm hC2 (by omega) (Nat.le_of_ble_eq_true rfl) (fun x M1 hq => ?_)
  obtain ⟨rfl, hk2, hI2⟩ := hq
  refine z_icmp_eq iL_law_590 (fun h1 => ?_) (fun h1 => ?_)
  · exact kk _ hI2 ((hk2 (1, 0) (by decide)).trans hscr0)
  · exact absurd rfl h1
set_option maxRecDepth 20000 in
set_option maxHeartbeats 4000000 in
theorem law_feed {Inv : zM → Prop} {fr cm sm L t : Nat} {xs : Nat → Int32} {M : zM} (hf : 201 ≤ fr) (hL : L ≤ 3072) (ht : 6 * t + 6 ≤ L) (hscr : zLL L xs M) (hI : Inv M) (hP : ∀ (a0 : Int32) (a1 : Int64), zPI Inv zX10_feed zX11_feed 0 0 [zi a0, zl a1]) (kk : ∀ M2 : zM, Inv M2 → zLL L xs M2 → zV zL_law fr cm sm 1270 (zL [some (zr (1, 0)), some (zr (2, 0)), some (zr (40, 0)), some (zi (nI (6 * t)))]) [] M2 (fun r _ => r = some (zi 1))) : zV zL_law fr cm sm 595 (zL [some (zr (1, 0)), some (zr (2, 0)), some (zr (40, 0)), some (zi (nI (6 * t)))]) [] M (fun r _ => r = some (zi 1)) := by
  have hscr0 := hscr
  obtain ⟨⟨fsx, hx⟩, hC⟩ := hP (xs (6 * t + 1)) ((xs (6 * t + 2)).toInt64 <<< ((32 : Int32).toInt64 &&& 63) ||| (xs (6 * t + 3)).toInt64 &&& 4294967295) (fr - 1) M (by omega) hI
  refine z_al iL_law_595 rfl ?_
  refine z_al iL_law_596 rfl ?_
  refine z_il iL_law_597 rfl ?_
  refine z_co iL_law_598 ?_
  refine z_iadd iL_law_599 ?_
  refine z_iald iL_law_600 hscr (z_ixk 1 rfl hL ht (by decide)) (by omega) ?_
  refine z_al iL_law_601 rfl ?_
  refine z_il iL_law_602 rfl ?_
  refine z_co iL_law_603 ?_
  refine z_iadd iL_law_604 ?_
  refine z_iald iL_law_605 hscr (z_ixk 2 rfl hL ht (by decide)) (by omega) ?_
  refine z_i2l iL_law_606 ?_
  refine z_co iL_law_607 ?_
  refine z_lshl iL_law_609 ?_
  refine z_al iL_law_610 rfl ?_
  refine z_il iL_law_611 rfl ?_
  refine z_co iL_law_612 ?_
  refine z_iadd iL_law_613 ?_
  refine z_iald iL_law_614 hscr (z_ixk 3 rfl hL ht (by decide)) (by omega) ?_
  refine z_i2l iL_law_615 ?_
  refine z_cl iL_law_616 ?_
  refine z_land iL_law_619 ?_
  refine z_lor iL_law_620 ?_
  refine z_cv2i (fr' := fr - 1) iL_law_621 zmX10_feed hx hC (by omega) (Nat.le_of_ble_eq_true rfl) (fun x M1 hq => ?_)
  obtain ⟨hk1, ⟨fsm, hm⟩, hC2⟩ := hq
  replace hscr : zLL L xs M1 := (hk1 (1, 0) (by decide)).trans hscr
  refine z_al iL_law_624 rfl ?_
  refine z_al iL_law_625 rfl ?_
  refine z_il iL_law_626 rfl ?_
  refine z_co iL_law_627 ?_
  refine z_iadd iL_law_628 ?_
  refine z_iald iL_law_629 hscr (z_ixk 1 rfl hL ht (by decide)) (by omega) ?_
  refine z_al iL_law_630 rfl ?_
  refine z_il iL_law_631 rfl ?_
  refine z_co iL_law_632 ?_
  refine z_iadd iL_law_633 ?_
  refine z_iald iL_law_634 hscr (z_ixk 2 rfl hL ht (by decide)) (by omega) ?_
  refine z_i2l iL_law_635 ?_
  refine z_co iL_law_636 ?_
  refine z_lshl iL_law_638 ?_
  refine z_al iL_law_639 rfl ?_
  refine z_il iL_law_640 rfl ?_
  refine z_co iL_law_641 ?_
  refine z_iadd iL_law_642 ?_
  refine z_iald iL_law_643 hscr (z_ixk 3 rfl hL ht (by decide)) (by omega) ?_
  refine z_i2l iL_law_644 ?_
  refine z_cl iL_law_645 ?_
  refine z_land iL_law_648 ?_
  refine z_lor iL_law_649 ?_
  refine z_cv2i (fr' := fr - 1) iL_law_650 zmX11_feed hm hC2 (by omega) (Nat.le_of_ble_eq_true rfl) (fun x M1 hq => ?_)
  obtain ⟨rfl, hk2, hI2⟩ := hq
  refine z_icmp_eq iL_law_653 (fun h1 => ?_) (fun h1 => ?_)
  · exact kk _ hI2 ((hk2 (1, 0) (by decide)).trans hscr0)
  · exact absurd rfl h1
set_option maxRecDepth 20000 in
set_option maxHeartbeats 4000000 in
theorem law_text {Inv : zM → Prop} {fr cm sm L t : Nat} {xs : Nat → Int32} {M : zM} (hf : 201 ≤ fr) (hL : L ≤ 3072) (ht : 6 * t + 6 ≤ L) (hscr : zLL L xs M) (hI : Inv M) (hP : zPI Inv zX10_text zX11_text 0 0 []) (kk : ∀ M2 : zM, Inv M2 → zLL L xs M2 → zV zL_law fr cm sm 1270 (zL [some (zr (1, 0)), some (zr (2, 0)), some (zr (40, 0)), some (zi (nI (6 * t)))]) [] M2 (fun r _ => r = some (zi 1))) : zV zL_law fr cm sm 658 (zL [some (zr (1, 0)), some (zr (2, 0)), some (zr (40, 0)), some (zi (nI (6 * t)))]) [] M (fun r _ => r = some (zi 1)) := by
  have hscr0 := hscr
  obtain ⟨⟨fsx, hx⟩, hC⟩ := hP  (fr - 1) M (by omega) hI
  refine z_al iL_law_658 rfl ?_
  refine z_cv0i (fr' := fr - 1) iL_law_659 zmX10_text hx hC (by omega) (Nat.le_of_ble_eq_true rfl) (fun x M1 hq => ?_)
  obtain ⟨hk1, ⟨fsm, hm⟩, hC2⟩ := hq
  replace hscr : zLL L xs M1 := (hk1 (1, 0) (by decide)).trans hscr
  refine z_al iL_law_662 rfl ?_
  refine z_cv0i (fr' := fr - 1) iL_law_663 zmX11_text hm hC2 (by omega) (Nat.le_of_ble_eq_true rfl) (fun x M1 hq => ?_)
  obtain ⟨rfl, hk2, hI2⟩ := hq
  refine z_icmp_eq iL_law_666 (fun h1 => ?_) (fun h1 => ?_)
  · exact kk _ hI2 ((hk2 (1, 0) (by decide)).trans hscr0)
  · exact absurd rfl h1
set_option maxRecDepth 20000 in
set_option maxHeartbeats 4000000 in
theorem law_force {Inv : zM → Prop} {fr cm sm L t : Nat} {xs : Nat → Int32} {M : zM} (hf : 201 ≤ fr) (hL : L ≤ 3072) (ht : 6 * t + 6 ≤ L) (hscr : zLL L xs M) (hI : Inv M) (hP : ∀ (a0 : Int32), zPI Inv zX10_force zX11_force 0 0 [zi a0]) (kk : ∀ M2 : zM, Inv M2 → zLL L xs M2 → zV zL_law fr cm sm 1270 (zL [some (zr (1, 0)), some (zr (2, 0)), some (zr (40, 0)), some (zi (nI (6 * t)))]) [] M2 (fun r _ => r = some (zi 1))) : zV zL_law fr cm sm 671 (zL [some (zr (1, 0)), some (zr (2, 0)), some (zr (40, 0)), some (zi (nI (6 * t)))]) [] M (fun r _ => r = some (zi 1)) := by
  have hscr0 := hscr
  obtain ⟨⟨fsx, hx⟩, hC⟩ := hP (xs (6 * t + 1)) (fr - 1) M (by omega) hI
  refine z_al iL_law_671 rfl ?_
  refine z_al iL_law_672 rfl ?_
  refine z_il iL_law_673 rfl ?_
  refine z_co iL_law_674 ?_
  refine z_iadd iL_law_675 ?_
  refine z_iald iL_law_676 hscr (z_ixk 1 rfl hL ht (by decide)) (by omega) ?_
  refine z_cv1i (fr' := fr - 1) iL_law_677 zmX10_force hx hC (by omega) (Nat.le_of_ble_eq_true rfl) (fun x M1 hq => ?_)
  obtain ⟨hk1, ⟨fsm, hm⟩, hC2⟩ := hq
  replace hscr : zLL L xs M1 := (hk1 (1, 0) (by decide)).trans hscr
  refine z_al iL_law_680 rfl ?_
  refine z_al iL_law_681 rfl ?_
  refine z_il iL_law_682 rfl ?_
  refine z_co iL_law_683 ?_
  refine z_iadd iL_law_684 ?_
  refine z_iald iL_law_685 hscr (z_ixk 1 rfl hL ht (by decide)) (by omega) ?_
  refine z_cv1i (fr' := fr - 1) iL_law_686 zmX11_force hm hC2 (by omega) (Nat.le_of_ble_eq_true rfl) (fun x M1 hq => ?_)
  obtain ⟨rfl, hk2, hI2⟩ := hq
  refine z_icmp_eq iL_law_689 (fun h1 => ?_) (fun h1 => ?_)
  · exact kk _ hI2 ((hk2 (1, 0) (by decide)).trans hscr0)
  · exact absurd rfl h1
set_option maxRecDepth 20000 in
set_option maxHeartbeats 4000000 in
theorem law_says {Inv : zM → Prop} {fr cm sm L t : Nat} {xs : Nat → Int32} {M : zM} (hf : 201 ≤ fr) (hL : L ≤ 3072) (ht : 6 * t + 6 ≤ L) (hscr : zLL L xs M) (hI : Inv M) (hP : ∀ (a0 : Int32) (a1 : Int32), zPJ Inv zX10_says zX11_says 0 0 [zi a0, zi a1]) (kk : ∀ M2 : zM, Inv M2 → zLL L xs M2 → zV zL_law fr cm sm 1270 (zL [some (zr (1, 0)), some (zr (2, 0)), some (zr (40, 0)), some (zi (nI (6 * t)))]) [] M2 (fun r _ => r = some (zi 1))) : zV zL_law fr cm sm 694 (zL [some (zr (1, 0)), some (zr (2, 0)), some (zr (40, 0)), some (zi (nI (6 * t)))]) [] M (fun r _ => r = some (zi 1)) := by
  have hscr0 := hscr
  obtain ⟨⟨fsx, hx⟩, hC⟩ := hP (xs (6 * t + 1)) (xs (6 * t + 2)) (fr - 1) M (by omega) hI
  refine z_al iL_law_694 rfl ?_
  refine z_al iL_law_695 rfl ?_
  refine z_il iL_law_696 rfl ?_
  refine z_co iL_law_697 ?_
  refine z_iadd iL_law_698 ?_
  refine z_iald iL_law_699 hscr (z_ixk 1 rfl hL ht (by decide)) (by omega) ?_
  refine z_al iL_law_700 rfl ?_
  refine z_il iL_law_701 rfl ?_
  refine z_co iL_law_702 ?_
  refine z_iadd iL_law_703 ?_
  refine z_iald iL_law_704 hscr (z_ixk 2 rfl hL ht (by decide)) (by omega) ?_
  refine z_cv2j (fr' := fr - 1) iL_law_705 zmX10_says hx hC (by omega) (Nat.le_of_ble_eq_true rfl) (fun x M1 hq => ?_)
  obtain ⟨hk1, ⟨fsm, hm⟩, hC2⟩ := hq
  replace hscr : zLL L xs M1 := (hk1 (1, 0) (by decide)).trans hscr
  refine z_al iL_law_708 rfl ?_
  refine z_al iL_law_709 rfl ?_
  refine z_il iL_law_710 rfl ?_
  refine z_co iL_law_711 ?_
  refine z_iadd iL_law_712 ?_
  refine z_iald iL_law_713 hscr (z_ixk 1 rfl hL ht (by decide)) (by omega) ?_
  refine z_al iL_law_714 rfl ?_
  refine z_il iL_law_715 rfl ?_
  refine z_co iL_law_716 ?_
  refine z_iadd iL_law_717 ?_
  refine z_iald iL_law_718 hscr (z_ixk 2 rfl hL ht (by decide)) (by omega) ?_
  refine z_cv2j (fr' := fr - 1) iL_law_719 zmX11_says hm hC2 (by omega) (Nat.le_of_ble_eq_true rfl) (fun x M1 hq => ?_)
  obtain ⟨rfl, hk2, hI2⟩ := hq
  refine z_lcmp iL_law_722 ?_
  refine z_if_eq iL_law_723 (fun h1 => ?_) (fun h1 => ?_)
  · exact kk _ hI2 ((hk2 (1, 0) (by decide)).trans hscr0)
  · exact absurd (lg_cmp_s _) h1
set_option maxRecDepth 20000 in
set_option maxHeartbeats 4000000 in
theorem law_machine {Inv : zM → Prop} {fr cm sm L t : Nat} {xs : Nat → Int32} {M : zM} (hf : 201 ≤ fr) (hL : L ≤ 3072) (ht : 6 * t + 6 ≤ L) (hscr : zLL L xs M) (hI : Inv M) (hP : ∀ (a0 : Int32) (a1 : Int32), zPI Inv zX10_machine zX11_machine 2 19 [zi a0, zi a1]) (kk : ∀ M2 : zM, Inv M2 → zLL L xs M2 → zV zL_law fr cm sm 1270 (zL [some (zr (1, 0)), some (zr (2, 0)), some (zr (40, 0)), some (zi (nI (6 * t)))]) [] M2 (fun r _ => r = some (zi 1))) : zV zL_law fr (2 + cm) (19 + sm) 728 (zL [some (zr (1, 0)), some (zr (2, 0)), some (zr (40, 0)), some (zi (nI (6 * t)))]) [] M (fun r _ => r = some (zi 1)) := by
  have hscr0 := hscr
  obtain ⟨⟨fsx, hx⟩, hC⟩ := hP (xs (6 * t + 1)) (xs (6 * t + 2)) (fr - 1) M (by omega) hI
  refine z_al iL_law_728 rfl ?_
  refine z_al iL_law_729 rfl ?_
  refine z_il iL_law_730 rfl ?_
  refine z_co iL_law_731 ?_
  refine z_iadd iL_law_732 ?_
  refine z_iald iL_law_733 hscr (z_ixk 1 rfl hL ht (by decide)) (by omega) ?_
  refine z_al iL_law_734 rfl ?_
  refine z_il iL_law_735 rfl ?_
  refine z_co iL_law_736 ?_
  refine z_iadd iL_law_737 ?_
  refine z_iald iL_law_738 hscr (z_ixk 2 rfl hL ht (by decide)) (by omega) ?_
  refine z_cv2iA (fr' := fr - 1) iL_law_739 zmX10_machine hx hC (by omega) (Nat.le_of_ble_eq_true rfl) (fun x M1 hq => ?_)
  obtain ⟨hk1, ⟨fsm, hm⟩, hC2⟩ := hq
  replace hscr : zLL L xs M1 := (hk1 (1, 0) (by decide)).trans hscr
  refine z_al iL_law_742 rfl ?_
  refine z_al iL_law_743 rfl ?_
  refine z_il iL_law_744 rfl ?_
  refine z_co iL_law_745 ?_
  refine z_iadd iL_law_746 ?_
  refine z_iald iL_law_747 hscr (z_ixk 1 rfl hL ht (by decide)) (by omega) ?_
  refine z_al iL_law_748 rfl ?_
  refine z_il iL_law_749 rfl ?_
  refine z_co iL_law_750 ?_
  refine z_iadd iL_law_751 ?_
  refine z_iald iL_law_752 hscr (z_ixk 2 rfl hL ht (by decide)) (by omega) ?_
  refine z_cv2i (fr' := fr - 1) iL_law_753 zmX11_machine hm hC2 (by omega) (Nat.le_of_ble_eq_true rfl) (fun x M1 hq => ?_)
  obtain ⟨rfl, hk2, hI2⟩ := hq
  refine z_icmp_eq iL_law_756 (fun h1 => ?_) (fun h1 => ?_)
  · exact kk _ hI2 ((hk2 (1, 0) (by decide)).trans hscr0)
  · exact absurd rfl h1
set_option maxRecDepth 20000 in
set_option maxHeartbeats 4000000 in
theorem law_put {Inv : zM → Prop} {fr cm sm L t : Nat} {xs : Nat → Int32} {M : zM} (hf : 201 ≤ fr) (hL : L ≤ 3072) (ht : 6 * t + 6 ≤ L) (hscr : zLL L xs M) (hI : Inv M) (hP : ∀ (a0 : Int32) (a1 : Int32) (a2 : Int32), zPI Inv zX10_put zX11_put 0 0 [zi a0, zi a1, zi a2]) (kk : ∀ M2 : zM, Inv M2 → zLL L xs M2 → zV zL_law fr cm sm 1270 (zL [some (zr (1, 0)), some (zr (2, 0)), some (zr (40, 0)), some (zi (nI (6 * t)))]) [] M2 (fun r _ => r = some (zi 1))) : zV zL_law fr cm sm 761 (zL [some (zr (1, 0)), some (zr (2, 0)), some (zr (40, 0)), some (zi (nI (6 * t)))]) [] M (fun r _ => r = some (zi 1)) := by
  have hscr0 := hscr
  obtain ⟨⟨fsx, hx⟩, hC⟩ := hP (xs (6 * t + 1)) (xs (6 * t + 2)) (xs (6 * t + 3)) (fr - 1) M (by omega) hI
  refine z_al iL_law_761 rfl ?_
  refine z_al iL_law_762 rfl ?_
  refine z_il iL_law_763 rfl ?_
  refine z_co iL_law_764 ?_
  refine z_iadd iL_law_765 ?_
  refine z_iald iL_law_766 hscr (z_ixk 1 rfl hL ht (by decide)) (by omega) ?_
  refine z_al iL_law_767 rfl ?_
  refine z_il iL_law_768 rfl ?_
  refine z_co iL_law_769 ?_
  refine z_iadd iL_law_770 ?_
  refine z_iald iL_law_771 hscr (z_ixk 2 rfl hL ht (by decide)) (by omega) ?_
  refine z_al iL_law_772 rfl ?_
  refine z_il iL_law_773 rfl ?_
  refine z_co iL_law_774 ?_
  refine z_iadd iL_law_775 ?_
  refine z_iald iL_law_776 hscr (z_ixk 3 rfl hL ht (by decide)) (by omega) ?_
  refine z_cv3i (fr' := fr - 1) iL_law_777 zmX10_put hx hC (by omega) (Nat.le_of_ble_eq_true rfl) (fun x M1 hq => ?_)
  obtain ⟨hk1, ⟨fsm, hm⟩, hC2⟩ := hq
  replace hscr : zLL L xs M1 := (hk1 (1, 0) (by decide)).trans hscr
  refine z_al iL_law_780 rfl ?_
  refine z_al iL_law_781 rfl ?_
  refine z_il iL_law_782 rfl ?_
  refine z_co iL_law_783 ?_
  refine z_iadd iL_law_784 ?_
  refine z_iald iL_law_785 hscr (z_ixk 1 rfl hL ht (by decide)) (by omega) ?_
  refine z_al iL_law_786 rfl ?_
  refine z_il iL_law_787 rfl ?_
  refine z_co iL_law_788 ?_
  refine z_iadd iL_law_789 ?_
  refine z_iald iL_law_790 hscr (z_ixk 2 rfl hL ht (by decide)) (by omega) ?_
  refine z_al iL_law_791 rfl ?_
  refine z_il iL_law_792 rfl ?_
  refine z_co iL_law_793 ?_
  refine z_iadd iL_law_794 ?_
  refine z_iald iL_law_795 hscr (z_ixk 3 rfl hL ht (by decide)) (by omega) ?_
  refine z_cv3i (fr' := fr - 1) iL_law_796 zmX11_put hm hC2 (by omega) (Nat.le_of_ble_eq_true rfl) (fun x M1 hq => ?_)
  obtain ⟨rfl, hk2, hI2⟩ := hq
  refine z_icmp_eq iL_law_799 (fun h1 => ?_) (fun h1 => ?_)
  · exact kk _ hI2 ((hk2 (1, 0) (by decide)).trans hscr0)
  · exact absurd rfl h1
set_option maxRecDepth 20000 in
set_option maxHeartbeats 4000000 in
theorem law_take {Inv : zM → Prop} {fr cm sm L t : Nat} {xs : Nat → Int32} {M : zM} (hf : 201 ≤ fr) (hL : L ≤ 3072) (ht : 6 * t + 6 ≤ L) (hscr : zLL L xs M) (hI : Inv M) (hP : ∀ (a0 : Int32), zPI Inv zX10_take zX11_take 0 0 [zi a0]) (kk : ∀ M2 : zM, Inv M2 → zLL L xs M2 → zV zL_law fr cm sm 1270 (zL [some (zr (1, 0)), some (zr (2, 0)), some (zr (40, 0)), some (zi (nI (6 * t)))]) [] M2 (fun r _ => r = some (zi 1))) : zV zL_law fr cm sm 804 (zL [some (zr (1, 0)), some (zr (2, 0)), some (zr (40, 0)), some (zi (nI (6 * t)))]) [] M (fun r _ => r = some (zi 1)) := by
  have hscr0 := hscr
  obtain ⟨⟨fsx, hx⟩, hC⟩ := hP (xs (6 * t + 1)) (fr - 1) M (by omega) hI
  refine z_al iL_law_804 rfl ?_
  refine z_al iL_law_805 rfl ?_
  refine z_il iL_law_806 rfl ?_
  refine z_co iL_law_807 ?_
  refine z_iadd iL_law_808 ?_
  refine z_iald iL_law_809 hscr (z_ixk 1 rfl hL ht (by decide)) (by omega) ?_
  refine z_cv1i (fr' := fr - 1) iL_law_810 zmX10_take hx hC (by omega) (Nat.le_of_ble_eq_true rfl) (fun x M1 hq => ?_)
  obtain ⟨hk1, ⟨fsm, hm⟩, hC2⟩ := hq
  replace hscr : zLL L xs M1 := (hk1 (1, 0) (by decide)).trans hscr
  refine z_al iL_law_813 rfl ?_
  refine z_al iL_law_814 rfl ?_
  refine z_il iL_law_815 rfl ?_
  refine z_co iL_law_816 ?_
  refine z_iadd iL_law_817 ?_
  refine z_iald iL_law_818 hscr (z_ixk 1 rfl hL ht (by decide)) (by omega) ?_
  refine z_cv1i (fr' := fr - 1) iL_law_819 zmX11_take hm hC2 (by omega) (Nat.le_of_ble_eq_true rfl) (fun x M1 hq => ?_)
  obtain ⟨rfl, hk2, hI2⟩ := hq
  refine z_icmp_eq iL_law_822 (fun h1 => ?_) (fun h1 => ?_)
  · exact kk _ hI2 ((hk2 (1, 0) (by decide)).trans hscr0)
  · exact absurd rfl h1
set_option maxRecDepth 20000 in
set_option maxHeartbeats 4000000 in
theorem law_at {Inv : zM → Prop} {fr cm sm L t : Nat} {xs : Nat → Int32} {M : zM} (hf : 201 ≤ fr) (hL : L ≤ 3072) (ht : 6 * t + 6 ≤ L) (hscr : zLL L xs M) (hI : Inv M) (hP : ∀ (a0 : Int32) (a1 : Int32), zPI Inv zX10_at zX11_at 0 0 [zi a0, zi a1]) (kk : ∀ M2 : zM, Inv M2 → zLL L xs M2 → zV zL_law fr cm sm 1270 (zL [some (zr (1, 0)), some (zr (2, 0)), some (zr (40, 0)), some (zi (nI (6 * t)))]) [] M2 (fun r _ => r = some (zi 1))) : zV zL_law fr cm sm 827 (zL [some (zr (1, 0)), some (zr (2, 0)), some (zr (40, 0)), some (zi (nI (6 * t)))]) [] M (fun r _ => r = some (zi 1)) := by
  have hscr0 := hscr
  obtain ⟨⟨fsx, hx⟩, hC⟩ := hP (xs (6 * t + 1)) (xs (6 * t + 2)) (fr - 1) M (by omega) hI
  refine z_al iL_law_827 rfl ?_
  refine z_al iL_law_828 rfl ?_
  refine z_il iL_law_829 rfl ?_
  refine z_co iL_law_830 ?_
  refine z_iadd iL_law_831 ?_
  refine z_iald iL_law_832 hscr (z_ixk 1 rfl hL ht (by decide)) (by omega) ?_
  refine z_al iL_law_833 rfl ?_
  refine z_il iL_law_834 rfl ?_
  refine z_co iL_law_835 ?_
  refine z_iadd iL_law_836 ?_
  refine z_iald iL_law_837 hscr (z_ixk 2 rfl hL ht (by decide)) (by omega) ?_
  refine z_cv2i (fr' := fr - 1) iL_law_838 zmX10_at hx hC (by omega) (Nat.le_of_ble_eq_true rfl) (fun x M1 hq => ?_)
  obtain ⟨hk1, ⟨fsm, hm⟩, hC2⟩ := hq
  replace hscr : zLL L xs M1 := (hk1 (1, 0) (by decide)).trans hscr
  refine z_al iL_law_841 rfl ?_
  refine z_al iL_law_842 rfl ?_
  refine z_il iL_law_843 rfl ?_
  refine z_co iL_law_844 ?_
  refine z_iadd iL_law_845 ?_
  refine z_iald iL_law_846 hscr (z_ixk 1 rfl hL ht (by decide)) (by omega) ?_
  refine z_al iL_law_847 rfl ?_
  refine z_il iL_law_848 rfl ?_
  refine z_co iL_law_849 ?_
  refine z_iadd iL_law_850 ?_
  refine z_iald iL_law_851 hscr (z_ixk 2 rfl hL ht (by decide)) (by omega) ?_
  refine z_cv2i (fr' := fr - 1) iL_law_852 zmX11_at hm hC2 (by omega) (Nat.le_of_ble_eq_true rfl) (fun x M1 hq => ?_)
  obtain ⟨rfl, hk2, hI2⟩ := hq
  refine z_icmp_eq iL_law_855 (fun h1 => ?_) (fun h1 => ?_)
  · exact kk _ hI2 ((hk2 (1, 0) (by decide)).trans hscr0)
  · exact absurd rfl h1
set_option maxRecDepth 20000 in
set_option maxHeartbeats 4000000 in
theorem law_room {Inv : zM → Prop} {fr cm sm L t : Nat} {xs : Nat → Int32} {M : zM} (hf : 201 ≤ fr) (hL : L ≤ 3072) (ht : 6 * t + 6 ≤ L) (hscr : zLL L xs M) (hI : Inv M) (hP : ∀ (a0 : Int32) (a1 : Int32), zPI Inv zX10_room zX11_room 0 0 [zi a0, zi a1]) (kk : ∀ M2 : zM, Inv M2 → zLL L xs M2 → zV zL_law fr cm sm 1270 (zL [some (zr (1, 0)), some (zr (2, 0)), some (zr (40, 0)), some (zi (nI (6 * t)))]) [] M2 (fun r _ => r = some (zi 1))) : zV zL_law fr cm sm 860 (zL [some (zr (1, 0)), some (zr (2, 0)), some (zr (40, 0)), some (zi (nI (6 * t)))]) [] M (fun r _ => r = some (zi 1)) := by
  have hscr0 := hscr
  obtain ⟨⟨fsx, hx⟩, hC⟩ := hP (xs (6 * t + 1)) (xs (6 * t + 2)) (fr - 1) M (by omega) hI
  refine z_al iL_law_860 rfl ?_
  refine z_al iL_law_861 rfl ?_
  refine z_il iL_law_862 rfl ?_
  refine z_co iL_law_863 ?_
  refine z_iadd iL_law_864 ?_
  refine z_iald iL_law_865 hscr (z_ixk 1 rfl hL ht (by decide)) (by omega) ?_
  refine z_al iL_law_866 rfl ?_
  refine z_il iL_law_867 rfl ?_
  refine z_co iL_law_868 ?_
  refine z_iadd iL_law_869 ?_
  refine z_iald iL_law_870 hscr (z_ixk 2 rfl hL ht (by decide)) (by omega) ?_
  refine z_cv2i (fr' := fr - 1) iL_law_871 zmX10_room hx hC (by omega) (Nat.le_of_ble_eq_true rfl) (fun x M1 hq => ?_)
  obtain ⟨hk1, ⟨fsm, hm⟩, hC2⟩ := hq
  replace hscr : zLL L xs M1 := (hk1 (1, 0) (by decide)).trans hscr
  refine z_al iL_law_874 rfl ?_
  refine z_al iL_law_875 rfl ?_
  refine z_il iL_law_876 rfl ?_
  refine z_co iL_law_877 ?_
  refine z_iadd iL_law_878 ?_
  refine z_iald iL_law_879 hscr (z_ixk 1 rfl hL ht (by decide)) (by omega) ?_
  refine z_al iL_law_880 rfl ?_
  refine z_il iL_law_881 rfl ?_
  refine z_co iL_law_882 ?_
  refine z_iadd iL_law_883 ?_
  refine z_iald iL_law_884 hscr (z_ixk 2 rfl hL ht (by decide)) (by omega) ?_
  refine z_cv2i (fr' := fr - 1) iL_law_885 zmX11_room hm hC2 (by omega) (Nat.le_of_ble_eq_true rfl) (fun x M1 hq => ?_)
  obtain ⟨rfl, hk2, hI2⟩ := hq
  refine z_icmp_eq iL_law_888 (fun h1 => ?_) (fun h1 => ?_)
  · exact kk _ hI2 ((hk2 (1, 0) (by decide)).trans hscr0)
  · exact absurd rfl h1
set_option maxRecDepth 20000 in
set_option maxHeartbeats 4000000 in
theorem law_cut {Inv : zM → Prop} {fr cm sm L t : Nat} {xs : Nat → Int32} {M : zM} (hf : 201 ≤ fr) (hL : L ≤ 3072) (ht : 6 * t + 6 ≤ L) (hscr : zLL L xs M) (hI : Inv M) (hP : ∀ (a0 : Int32) (a1 : Int32) (a2 : Int32) (a3 : Int32), zPI Inv zX10_cut zX11_cut 0 0 [zi a0, zi a1, zi a2, zi a3]) (kk : ∀ M2 : zM, Inv M2 → zLL L xs M2 → zV zL_law fr cm sm 1270 (zL [some (zr (1, 0)), some (zr (2, 0)), some (zr (40, 0)), some (zi (nI (6 * t)))]) [] M2 (fun r _ => r = some (zi 1))) : zV zL_law fr cm sm 893 (zL [some (zr (1, 0)), some (zr (2, 0)), some (zr (40, 0)), some (zi (nI (6 * t)))]) [] M (fun r _ => r = some (zi 1)) := by
  have hscr0 := hscr
  obtain ⟨⟨fsx, hx⟩, hC⟩ := hP (xs (6 * t + 1)) (xs (6 * t + 2)) (xs (6 * t + 3)) (xs (6 * t + 4)) (fr - 1) M (by omega) hI
  refine z_al iL_law_893 rfl ?_
  refine z_al iL_law_894 rfl ?_
  refine z_il iL_law_895 rfl ?_
  refine z_co iL_law_896 ?_
  refine z_iadd iL_law_897 ?_
  refine z_iald iL_law_898 hscr (z_ixk 1 rfl hL ht (by decide)) (by omega) ?_
  refine z_al iL_law_899 rfl ?_
  refine z_il iL_law_900 rfl ?_
  refine z_co iL_law_901 ?_
  refine z_iadd iL_law_902 ?_
  refine z_iald iL_law_903 hscr (z_ixk 2 rfl hL ht (by decide)) (by omega) ?_
  refine z_al iL_law_904 rfl ?_
  refine z_il iL_law_905 rfl ?_
  refine z_co iL_law_906 ?_
  refine z_iadd iL_law_907 ?_
  refine z_iald iL_law_908 hscr (z_ixk 3 rfl hL ht (by decide)) (by omega) ?_
  refine z_al iL_law_909 rfl ?_
  refine z_il iL_law_910 rfl ?_
  refine z_co iL_law_911 ?_
  refine z_iadd iL_law_912 ?_
  refine z_iald iL_law_913 hscr (z_ixk 4 rfl hL ht (by decide)) (by omega) ?_
  refine z_cv4i (fr' := fr - 1) iL_law_914 zmX10_cut hx hC (by omega) (Nat.le_of_ble_eq_true rfl) (fun x M1 hq => ?_)
  obtain ⟨hk1, ⟨fsm, hm⟩, hC2⟩ := hq
  replace hscr : zLL L xs M1 := (hk1 (1, 0) (by decide)).trans hscr
  refine z_al iL_law_917 rfl ?_
  refine z_al iL_law_918 rfl ?_
  refine z_il iL_law_919 rfl ?_
  refine z_co iL_law_920 ?_
  refine z_iadd iL_law_921 ?_
  refine z_iald iL_law_922 hscr (z_ixk 1 rfl hL ht (by decide)) (by omega) ?_
  refine z_al iL_law_923 rfl ?_
  refine z_il iL_law_924 rfl ?_
  refine z_co iL_law_925 ?_
  refine z_iadd iL_law_926 ?_
  refine z_iald iL_law_927 hscr (z_ixk 2 rfl hL ht (by decide)) (by omega) ?_
  refine z_al iL_law_928 rfl ?_
  refine z_il iL_law_929 rfl ?_
  refine z_co iL_law_930 ?_
  refine z_iadd iL_law_931 ?_
  refine z_iald iL_law_932 hscr (z_ixk 3 rfl hL ht (by decide)) (by omega) ?_
  refine z_al iL_law_933 rfl ?_
  refine z_il iL_law_934 rfl ?_
  refine z_co iL_law_935 ?_
  refine z_iadd iL_law_936 ?_
  refine z_iald iL_law_937 hscr (z_ixk 4 rfl hL ht (by decide)) (by omega) ?_
  refine z_cv4i (fr' := fr - 1) iL_law_938 zmX11_cut hm hC2 (by omega) (Nat.le_of_ble_eq_true rfl) (fun x M1 hq => ?_)
  obtain ⟨rfl, hk2, hI2⟩ := hq
  refine z_icmp_eq iL_law_941 (fun h1 => ?_) (fun h1 => ?_)
  · exact kk _ hI2 ((hk2 (1, 0) (by decide)).trans hscr0)
  · exact absurd rfl h1
set_option maxRecDepth 20000 in
set_option maxHeartbeats 4000000 in
theorem law_job {Inv : zM → Prop} {fr cm sm L t : Nat} {xs : Nat → Int32} {M : zM} (hf : 201 ≤ fr) (hL : L ≤ 3072) (ht : 6 * t + 6 ≤ L) (hscr : zLL L xs M) (hI : Inv M) (hP : ∀ (a0 : Int32), zPI Inv zX10_job zX11_job 0 0 [zi a0]) (kk : ∀ M2 : zM, Inv M2 → zLL L xs M2 → zV zL_law fr cm sm 1270 (zL [some (zr (1, 0)), some (zr (2, 0)), some (zr (40, 0)), some (zi (nI (6 * t)))]) [] M2 (fun r _ => r = some (zi 1))) : zV zL_law fr cm sm 946 (zL [some (zr (1, 0)), some (zr (2, 0)), some (zr (40, 0)), some (zi (nI (6 * t)))]) [] M (fun r _ => r = some (zi 1)) := by
  have hscr0 := hscr
  obtain ⟨⟨fsx, hx⟩, hC⟩ := hP (xs (6 * t + 1)) (fr - 1) M (by omega) hI
  refine z_al iL_law_946 rfl ?_
  refine z_al iL_law_947 rfl ?_
  refine z_il iL_law_948 rfl ?_
  refine z_co iL_law_949 ?_
  refine z_iadd iL_law_950 ?_
  refine z_iald iL_law_951 hscr (z_ixk 1 rfl hL ht (by decide)) (by omega) ?_
  refine z_cv1i (fr' := fr - 1) iL_law_952 zmX10_job hx hC (by omega) (Nat.le_of_ble_eq_true rfl) (fun x M1 hq => ?_)
  obtain ⟨hk1, ⟨fsm, hm⟩, hC2⟩ := hq
  replace hscr : zLL L xs M1 := (hk1 (1, 0) (by decide)).trans hscr
  refine z_al iL_law_955 rfl ?_
  refine z_al iL_law_956 rfl ?_
  refine z_il iL_law_957 rfl ?_
  refine z_co iL_law_958 ?_
  refine z_iadd iL_law_959 ?_
  refine z_iald iL_law_960 hscr (z_ixk 1 rfl hL ht (by decide)) (by omega) ?_
  refine z_cv1i (fr' := fr - 1) iL_law_961 zmX11_job hm hC2 (by omega) (Nat.le_of_ble_eq_true rfl) (fun x M1 hq => ?_)
  obtain ⟨rfl, hk2, hI2⟩ := hq
  refine z_icmp_eq iL_law_964 (fun h1 => ?_) (fun h1 => ?_)
  · exact kk _ hI2 ((hk2 (1, 0) (by decide)).trans hscr0)
  · exact absurd rfl h1
set_option maxRecDepth 20000 in
set_option maxHeartbeats 4000000 in
theorem law_changes {Inv : zM → Prop} {fr cm sm L t : Nat} {xs : Nat → Int32} {M : zM} (hf : 201 ≤ fr) (hL : L ≤ 3072) (ht : 6 * t + 6 ≤ L) (hscr : zLL L xs M) (hI : Inv M) (hP : ∀ (a0 : Int64) (a1 : Int32), zPI Inv zX10_changes zX11_changes 0 0 [zl a0, zi a1]) (kk : ∀ M2 : zM, Inv M2 → zLL L xs M2 → zV zL_law fr cm sm 1270 (zL [some (zr (1, 0)), some (zr (2, 0)), some (zr (40, 0)), some (zi (nI (6 * t)))]) [] M2 (fun r _ => r = some (zi 1))) : zV zL_law fr cm sm 969 (zL [some (zr (1, 0)), some (zr (2, 0)), some (zr (40, 0)), some (zi (nI (6 * t)))]) [] M (fun r _ => r = some (zi 1)) := by
  have hscr0 := hscr
  obtain ⟨⟨fsx, hx⟩, hC⟩ := hP ((xs (6 * t + 1)).toInt64 <<< ((32 : Int32).toInt64 &&& 63) ||| (xs (6 * t + 2)).toInt64 &&& 4294967295) (xs (6 * t + 3)) (fr - 1) M (by omega) hI
  refine z_al iL_law_969 rfl ?_
  refine z_al iL_law_970 rfl ?_
  refine z_il iL_law_971 rfl ?_
  refine z_co iL_law_972 ?_
  refine z_iadd iL_law_973 ?_
  refine z_iald iL_law_974 hscr (z_ixk 1 rfl hL ht (by decide)) (by omega) ?_
  refine z_i2l iL_law_975 ?_
  refine z_co iL_law_976 ?_
  refine z_lshl iL_law_978 ?_
  refine z_al iL_law_979 rfl ?_
  refine z_il iL_law_980 rfl ?_
  refine z_co iL_law_981 ?_
  refine z_iadd iL_law_982 ?_
  refine z_iald iL_law_983 hscr (z_ixk 2 rfl hL ht (by decide)) (by omega) ?_
  refine z_i2l iL_law_984 ?_
  refine z_cl iL_law_985 ?_
  refine z_land iL_law_988 ?_
  refine z_lor iL_law_989 ?_
  refine z_al iL_law_990 rfl ?_
  refine z_il iL_law_991 rfl ?_
  refine z_co iL_law_992 ?_
  refine z_iadd iL_law_993 ?_
  refine z_iald iL_law_994 hscr (z_ixk 3 rfl hL ht (by decide)) (by omega) ?_
  refine z_cv2i (fr' := fr - 1) iL_law_995 zmX10_changes hx hC (by omega) (Nat.le_of_ble_eq_true rfl) (fun x M1 hq => ?_)
  obtain ⟨hk1, ⟨fsm, hm⟩, hC2⟩ := hq
  replace hscr : zLL L xs M1 := (hk1 (1, 0) (by decide)).trans hscr
  refine z_al iL_law_998 rfl ?_
  refine z_al iL_law_999 rfl ?_
  refine z_il iL_law_1000 rfl ?_
  refine z_co iL_law_1001 ?_
  refine z_iadd iL_law_1002 ?_
  refine z_iald iL_law_1003 hscr (z_ixk 1 rfl hL ht (by decide)) (by omega) ?_
  refine z_i2l iL_law_1004 ?_
  refine z_co iL_law_1005 ?_
  refine z_lshl iL_law_1007 ?_
  refine z_al iL_law_1008 rfl ?_
  refine z_il iL_law_1009 rfl ?_
  refine z_co iL_law_1010 ?_
  refine z_iadd iL_law_1011 ?_
  refine z_iald iL_law_1012 hscr (z_ixk 2 rfl hL ht (by decide)) (by omega) ?_
  refine z_i2l iL_law_1013 ?_
  refine z_cl iL_law_1014 ?_
  refine z_land iL_law_1017 ?_
  refine z_lor iL_law_1018 ?_
  refine z_al iL_law_1019 rfl ?_
  refine z_il iL_law_1020 rfl ?_
  refine z_co iL_law_1021 ?_
  refine z_iadd iL_law_1022 ?_
  refine z_iald iL_law_1023 hscr (z_ixk 3 rfl hL ht (by decide)) (by omega) ?_
  refine z_cv2i (fr' := fr - 1) iL_law_1024 zmX11_changes hm hC2 (by omega) (Nat.le_of_ble_eq_true rfl) (fun x M1 hq => ?_)
  obtain ⟨rfl, hk2, hI2⟩ := hq
  refine z_icmp_eq iL_law_1027 (fun h1 => ?_) (fun h1 => ?_)
  · exact kk _ hI2 ((hk2 (1, 0) (by decide)).trans hscr0)
  · exact absurd rfl h1
set_option maxRecDepth 20000 in
set_option maxHeartbeats 4000000 in
theorem law_order {Inv : zM → Prop} {fr cm sm L t : Nat} {xs : Nat → Int32} {M : zM} (hf : 201 ≤ fr) (hL : L ≤ 3072) (ht : 6 * t + 6 ≤ L) (hscr : zLL L xs M) (hI : Inv M) (hP : ∀ (a0 : Int32) (a1 : Int32), zPI Inv zX10_order zX11_order 0 0 [zi a0, zi a1]) (kk : ∀ M2 : zM, Inv M2 → zLL L xs M2 → zV zL_law fr cm sm 1270 (zL [some (zr (1, 0)), some (zr (2, 0)), some (zr (40, 0)), some (zi (nI (6 * t)))]) [] M2 (fun r _ => r = some (zi 1))) : zV zL_law fr cm sm 1032 (zL [some (zr (1, 0)), some (zr (2, 0)), some (zr (40, 0)), some (zi (nI (6 * t)))]) [] M (fun r _ => r = some (zi 1)) := by
  have hscr0 := hscr
  obtain ⟨⟨fsx, hx⟩, hC⟩ := hP (xs (6 * t + 1)) (xs (6 * t + 2)) (fr - 1) M (by omega) hI
  refine z_al iL_law_1032 rfl ?_
  refine z_al iL_law_1033 rfl ?_
  refine z_il iL_law_1034 rfl ?_
  refine z_co iL_law_1035 ?_
  refine z_iadd iL_law_1036 ?_
  refine z_iald iL_law_1037 hscr (z_ixk 1 rfl hL ht (by decide)) (by omega) ?_
  refine z_al iL_law_1038 rfl ?_
  refine z_il iL_law_1039 rfl ?_
  refine z_co iL_law_1040 ?_
  refine z_iadd iL_law_1041 ?_
  refine z_iald iL_law_1042 hscr (z_ixk 2 rfl hL ht (by decide)) (by omega) ?_
  refine z_cv2i (fr' := fr - 1) iL_law_1043 zmX10_order hx hC (by omega) (Nat.le_of_ble_eq_true rfl) (fun x M1 hq => ?_)
  obtain ⟨hk1, ⟨fsm, hm⟩, hC2⟩ := hq
  replace hscr : zLL L xs M1 := (hk1 (1, 0) (by decide)).trans hscr
  refine z_al iL_law_1046 rfl ?_
  refine z_al iL_law_1047 rfl ?_
  refine z_il iL_law_1048 rfl ?_
  refine z_co iL_law_1049 ?_
  refine z_iadd iL_law_1050 ?_
  refine z_iald iL_law_1051 hscr (z_ixk 1 rfl hL ht (by decide)) (by omega) ?_
  refine z_al iL_law_1052 rfl ?_
  refine z_il iL_law_1053 rfl ?_
  refine z_co iL_law_1054 ?_
  refine z_iadd iL_law_1055 ?_
  refine z_iald iL_law_1056 hscr (z_ixk 2 rfl hL ht (by decide)) (by omega) ?_
  refine z_cv2i (fr' := fr - 1) iL_law_1057 zmX11_order hm hC2 (by omega) (Nat.le_of_ble_eq_true rfl) (fun x M1 hq => ?_)
  obtain ⟨rfl, hk2, hI2⟩ := hq
  refine z_icmp_eq iL_law_1060 (fun h1 => ?_) (fun h1 => ?_)
  · exact kk _ hI2 ((hk2 (1, 0) (by decide)).trans hscr0)
  · exact absurd rfl h1
set_option maxRecDepth 20000 in
set_option maxHeartbeats 4000000 in
theorem law_count {Inv : zM → Prop} {fr cm sm L t : Nat} {xs : Nat → Int32} {M : zM} (hf : 201 ≤ fr) (hL : L ≤ 3072) (ht : 6 * t + 6 ≤ L) (hscr : zLL L xs M) (hI : Inv M) (hP : ∀ (a0 : Int32), zPI Inv zX10_count zX11_count 0 0 [zi a0]) (kk : ∀ M2 : zM, Inv M2 → zLL L xs M2 → zV zL_law fr cm sm 1270 (zL [some (zr (1, 0)), some (zr (2, 0)), some (zr (40, 0)), some (zi (nI (6 * t)))]) [] M2 (fun r _ => r = some (zi 1))) : zV zL_law fr cm sm 1065 (zL [some (zr (1, 0)), some (zr (2, 0)), some (zr (40, 0)), some (zi (nI (6 * t)))]) [] M (fun r _ => r = some (zi 1)) := by
  have hscr0 := hscr
  obtain ⟨⟨fsx, hx⟩, hC⟩ := hP (xs (6 * t + 1)) (fr - 1) M (by omega) hI
  refine z_al iL_law_1065 rfl ?_
  refine z_al iL_law_1066 rfl ?_
  refine z_il iL_law_1067 rfl ?_
  refine z_co iL_law_1068 ?_
  refine z_iadd iL_law_1069 ?_
  refine z_iald iL_law_1070 hscr (z_ixk 1 rfl hL ht (by decide)) (by omega) ?_
  refine z_cv1i (fr' := fr - 1) iL_law_1071 zmX10_count hx hC (by omega) (Nat.le_of_ble_eq_true rfl) (fun x M1 hq => ?_)
  obtain ⟨hk1, ⟨fsm, hm⟩, hC2⟩ := hq
  replace hscr : zLL L xs M1 := (hk1 (1, 0) (by decide)).trans hscr
  refine z_al iL_law_1074 rfl ?_
  refine z_al iL_law_1075 rfl ?_
  refine z_il iL_law_1076 rfl ?_
  refine z_co iL_law_1077 ?_
  refine z_iadd iL_law_1078 ?_
  refine z_iald iL_law_1079 hscr (z_ixk 1 rfl hL ht (by decide)) (by omega) ?_
  refine z_cv1i (fr' := fr - 1) iL_law_1080 zmX11_count hm hC2 (by omega) (Nat.le_of_ble_eq_true rfl) (fun x M1 hq => ?_)
  obtain ⟨rfl, hk2, hI2⟩ := hq
  refine z_icmp_eq iL_law_1083 (fun h1 => ?_) (fun h1 => ?_)
  · exact kk _ hI2 ((hk2 (1, 0) (by decide)).trans hscr0)
  · exact absurd rfl h1
set_option maxRecDepth 20000 in
set_option maxHeartbeats 4000000 in
theorem law_sheet {Inv : zM → Prop} {fr cm sm L t : Nat} {xs : Nat → Int32} {M : zM} (hf : 201 ≤ fr) (hL : L ≤ 3072) (ht : 6 * t + 6 ≤ L) (hscr : zLL L xs M) (hI : Inv M) (hP : ∀ (a0 : Int32) (a1 : Int32) (a2 : Int32), zPI Inv zX10_sheet zX11_sheet 0 0 [zi a0, zi a1, zi a2]) (kk : ∀ M2 : zM, Inv M2 → zLL L xs M2 → zV zL_law fr cm sm 1270 (zL [some (zr (1, 0)), some (zr (2, 0)), some (zr (40, 0)), some (zi (nI (6 * t)))]) [] M2 (fun r _ => r = some (zi 1))) : zV zL_law fr cm sm 1088 (zL [some (zr (1, 0)), some (zr (2, 0)), some (zr (40, 0)), some (zi (nI (6 * t)))]) [] M (fun r _ => r = some (zi 1)) := by
  have hscr0 := hscr
  obtain ⟨⟨fsx, hx⟩, hC⟩ := hP (xs (6 * t + 1)) (xs (6 * t + 2)) (xs (6 * t + 3)) (fr - 1) M (by omega) hI
  refine z_al iL_law_1088 rfl ?_
  refine z_al iL_law_1089 rfl ?_
  refine z_il iL_law_1090 rfl ?_
  refine z_co iL_law_1091 ?_
  refine z_iadd iL_law_1092 ?_
  refine z_iald iL_law_1093 hscr (z_ixk 1 rfl hL ht (by decide)) (by omega) ?_
  refine z_al iL_law_1094 rfl ?_
  refine z_il iL_law_1095 rfl ?_
  refine z_co iL_law_1096 ?_
  refine z_iadd iL_law_1097 ?_
  refine z_iald iL_law_1098 hscr (z_ixk 2 rfl hL ht (by decide)) (by omega) ?_
  refine z_al iL_law_1099 rfl ?_
  refine z_il iL_law_1100 rfl ?_
  refine z_co iL_law_1101 ?_
  refine z_iadd iL_law_1102 ?_
  refine z_iald iL_law_1103 hscr (z_ixk 3 rfl hL ht (by decide)) (by omega) ?_
  refine z_cv3i (fr' := fr - 1) iL_law_1104 zmX10_sheet hx hC (by omega) (Nat.le_of_ble_eq_true rfl) (fun x M1 hq => ?_)
  obtain ⟨hk1, ⟨fsm, hm⟩, hC2⟩ := hq
  replace hscr : zLL L xs M1 := (hk1 (1, 0) (by decide)).trans hscr
  refine z_al iL_law_1107 rfl ?_
  refine z_al iL_law_1108 rfl ?_
  refine z_il iL_law_1109 rfl ?_
  refine z_co iL_law_1110 ?_
  refine z_iadd iL_law_1111 ?_
  refine z_iald iL_law_1112 hscr (z_ixk 1 rfl hL ht (by decide)) (by omega) ?_
  refine z_al iL_law_1113 rfl ?_
  refine z_il iL_law_1114 rfl ?_
  refine z_co iL_law_1115 ?_
  refine z_iadd iL_law_1116 ?_
  refine z_iald iL_law_1117 hscr (z_ixk 2 rfl hL ht (by decide)) (by omega) ?_
  refine z_al iL_law_1118 rfl ?_
  refine z_il iL_law_1119 rfl ?_
  refine z_co iL_law_1120 ?_
  refine z_iadd iL_law_1121 ?_
  refine z_iald iL_law_1122 hscr (z_ixk 3 rfl hL ht (by decide)) (by omega) ?_
  refine z_cv3i (fr' := fr - 1) iL_law_1123 zmX11_sheet hm hC2 (by omega) (Nat.le_of_ble_eq_true rfl) (fun x M1 hq => ?_)
  obtain ⟨rfl, hk2, hI2⟩ := hq
  refine z_icmp_eq iL_law_1126 (fun h1 => ?_) (fun h1 => ?_)
  · exact kk _ hI2 ((hk2 (1, 0) (by decide)).trans hscr0)
  · exact absurd rfl h1
set_option maxRecDepth 20000 in
set_option maxHeartbeats 4000000 in
theorem law_cell {Inv : zM → Prop} {fr cm sm L t : Nat} {xs : Nat → Int32} {M : zM} (hf : 201 ≤ fr) (hL : L ≤ 3072) (ht : 6 * t + 6 ≤ L) (hscr : zLL L xs M) (hI : Inv M) (hP : ∀ (a0 : Int32) (a1 : Int32) (a2 : Int32), zPI Inv zX10_cell zX11_cell 0 0 [zi a0, zi a1, zi a2]) (kk : ∀ M2 : zM, Inv M2 → zLL L xs M2 → zV zL_law fr cm sm 1270 (zL [some (zr (1, 0)), some (zr (2, 0)), some (zr (40, 0)), some (zi (nI (6 * t)))]) [] M2 (fun r _ => r = some (zi 1))) : zV zL_law fr cm sm 1131 (zL [some (zr (1, 0)), some (zr (2, 0)), some (zr (40, 0)), some (zi (nI (6 * t)))]) [] M (fun r _ => r = some (zi 1)) := by
  have hscr0 := hscr
  obtain ⟨⟨fsx, hx⟩, hC⟩ := hP (xs (6 * t + 1)) (xs (6 * t + 2)) (xs (6 * t + 3)) (fr - 1) M (by omega) hI
  refine z_al iL_law_1131 rfl ?_
  refine z_al iL_law_1132 rfl ?_
  refine z_il iL_law_1133 rfl ?_
  refine z_co iL_law_1134 ?_
  refine z_iadd iL_law_1135 ?_
  refine z_iald iL_law_1136 hscr (z_ixk 1 rfl hL ht (by decide)) (by omega) ?_
  refine z_al iL_law_1137 rfl ?_
  refine z_il iL_law_1138 rfl ?_
  refine z_co iL_law_1139 ?_
  refine z_iadd iL_law_1140 ?_
  refine z_iald iL_law_1141 hscr (z_ixk 2 rfl hL ht (by decide)) (by omega) ?_
  refine z_al iL_law_1142 rfl ?_
  refine z_il iL_law_1143 rfl ?_
  refine z_co iL_law_1144 ?_
  refine z_iadd iL_law_1145 ?_
  refine z_iald iL_law_1146 hscr (z_ixk 3 rfl hL ht (by decide)) (by omega) ?_
  refine z_cv3i (fr' := fr - 1) iL_law_1147 zmX10_cell hx hC (by omega) (Nat.le_of_ble_eq_true rfl) (fun x M1 hq => ?_)
  obtain ⟨hk1, ⟨fsm, hm⟩, hC2⟩ := hq
  replace hscr : zLL L xs M1 := (hk1 (1, 0) (by decide)).trans hscr
  refine z_al iL_law_1150 rfl ?_
  refine z_al iL_law_1151 rfl ?_
  refine z_il iL_law_1152 rfl ?_
  refine z_co iL_law_1153 ?_
  refine z_iadd iL_law_1154 ?_
  refine z_iald iL_law_1155 hscr (z_ixk 1 rfl hL ht (by decide)) (by omega) ?_
  refine z_al iL_law_1156 rfl ?_
  refine z_il iL_law_1157 rfl ?_
  refine z_co iL_law_1158 ?_
  refine z_iadd iL_law_1159 ?_
  refine z_iald iL_law_1160 hscr (z_ixk 2 rfl hL ht (by decide)) (by omega) ?_
  refine z_al iL_law_1161 rfl ?_
  refine z_il iL_law_1162 rfl ?_
  refine z_co iL_law_1163 ?_
  refine z_iadd iL_law_1164 ?_
  refine z_iald iL_law_1165 hscr (z_ixk 3 rfl hL ht (by decide)) (by omega) ?_
  refine z_cv3i (fr' := fr - 1) iL_law_1166 zmX11_cell hm hC2 (by omega) (Nat.le_of_ble_eq_true rfl) (fun x M1 hq => ?_)
  obtain ⟨rfl, hk2, hI2⟩ := hq
  refine z_icmp_eq iL_law_1169 (fun h1 => ?_) (fun h1 => ?_)
  · exact kk _ hI2 ((hk2 (1, 0) (by decide)).trans hscr0)
  · exact absurd rfl h1
set_option maxRecDepth 20000 in
set_option maxHeartbeats 4000000 in
theorem law_cuts {Inv : zM → Prop} {fr cm sm L t : Nat} {xs : Nat → Int32} {M : zM} (hf : 201 ≤ fr) (hL : L ≤ 3072) (ht : 6 * t + 6 ≤ L) (hscr : zLL L xs M) (hI : Inv M) (hP : ∀ (a0 : Int32) (a1 : Int32) (a2 : Int32) (a3 : Int32) (a4 : Int32), zPI Inv zX10_cuts zX11_cuts 0 0 [zi a0, zi a1, zi a2, zi a3, zi a4]) (kk : ∀ M2 : zM, Inv M2 → zLL L xs M2 → zV zL_law fr cm sm 1270 (zL [some (zr (1, 0)), some (zr (2, 0)), some (zr (40, 0)), some (zi (nI (6 * t)))]) [] M2 (fun r _ => r = some (zi 1))) : zV zL_law fr cm sm 1174 (zL [some (zr (1, 0)), some (zr (2, 0)), some (zr (40, 0)), some (zi (nI (6 * t)))]) [] M (fun r _ => r = some (zi 1)) := by
  have hscr0 := hscr
  obtain ⟨⟨fsx, hx⟩, hC⟩ := hP (xs (6 * t + 1)) (xs (6 * t + 2)) (xs (6 * t + 3)) (xs (6 * t + 4)) (xs (6 * t + 5)) (fr - 1) M (by omega) hI
  refine z_al iL_law_1174 rfl ?_
  refine z_al iL_law_1175 rfl ?_
  refine z_il iL_law_1176 rfl ?_
  refine z_co iL_law_1177 ?_
  refine z_iadd iL_law_1178 ?_
  refine z_iald iL_law_1179 hscr (z_ixk 1 rfl hL ht (by decide)) (by omega) ?_
  refine z_al iL_law_1180 rfl ?_
  refine z_il iL_law_1181 rfl ?_
  refine z_co iL_law_1182 ?_
  refine z_iadd iL_law_1183 ?_
  refine z_iald iL_law_1184 hscr (z_ixk 2 rfl hL ht (by decide)) (by omega) ?_
  refine z_al iL_law_1185 rfl ?_
  refine z_il iL_law_1186 rfl ?_
  refine z_co iL_law_1187 ?_
  refine z_iadd iL_law_1188 ?_
  refine z_iald iL_law_1189 hscr (z_ixk 3 rfl hL ht (by decide)) (by omega) ?_
  refine z_al iL_law_1190 rfl ?_
  refine z_il iL_law_1191 rfl ?_
  refine z_co iL_law_1192 ?_
  refine z_iadd iL_law_1193 ?_
  refine z_iald iL_law_1194 hscr (z_ixk 4 rfl hL ht (by decide)) (by omega) ?_
  refine z_al iL_law_1195 rfl ?_
  refine z_il iL_law_1196 rfl ?_
  refine z_co iL_law_1197 ?_
  refine z_iadd iL_law_1198 ?_
  refine z_iald iL_law_1199 hscr (z_ixk 5 rfl hL ht (by decide)) (by omega) ?_
  refine z_cv5i (fr' := fr - 1) iL_law_1200 zmX10_cuts hx hC (by omega) (Nat.le_of_ble_eq_true rfl) (fun x M1 hq => ?_)
  obtain ⟨hk1, ⟨fsm, hm⟩, hC2⟩ := hq
  replace hscr : zLL L xs M1 := (hk1 (1, 0) (by decide)).trans hscr
  refine z_al iL_law_1203 rfl ?_
  refine z_al iL_law_1204 rfl ?_
  refine z_il iL_law_1205 rfl ?_
  refine z_co iL_law_1206 ?_
  refine z_iadd iL_law_1207 ?_
  refine z_iald iL_law_1208 hscr (z_ixk 1 rfl hL ht (by decide)) (by omega) ?_
  refine z_al iL_law_1209 rfl ?_
  refine z_il iL_law_1210 rfl ?_
  refine z_co iL_law_1211 ?_
  refine z_iadd iL_law_1212 ?_
  refine z_iald iL_law_1213 hscr (z_ixk 2 rfl hL ht (by decide)) (by omega) ?_
  refine z_al iL_law_1214 rfl ?_
  refine z_il iL_law_1215 rfl ?_
  refine z_co iL_law_1216 ?_
  refine z_iadd iL_law_1217 ?_
  refine z_iald iL_law_1218 hscr (z_ixk 3 rfl hL ht (by decide)) (by omega) ?_
  refine z_al iL_law_1219 rfl ?_
  refine z_il iL_law_1220 rfl ?_
  refine z_co iL_law_1221 ?_
  refine z_iadd iL_law_1222 ?_
  refine z_iald iL_law_1223 hscr (z_ixk 4 rfl hL ht (by decide)) (by omega) ?_
  refine z_al iL_law_1224 rfl ?_
  refine z_il iL_law_1225 rfl ?_
  refine z_co iL_law_1226 ?_
  refine z_iadd iL_law_1227 ?_
  refine z_iald iL_law_1228 hscr (z_ixk 5 rfl hL ht (by decide)) (by omega) ?_
  refine z_cv5i (fr' := fr - 1) iL_law_1229 zmX11_cuts hm hC2 (by omega) (Nat.le_of_ble_eq_true rfl) (fun x M1 hq => ?_)
  obtain ⟨rfl, hk2, hI2⟩ := hq
  refine z_icmp_eq iL_law_1232 (fun h1 => ?_) (fun h1 => ?_)
  · exact kk _ hI2 ((hk2 (1, 0) (by decide)).trans hscr0)
  · exact absurd rfl h1
set_option maxRecDepth 20000 in
set_option maxHeartbeats 4000000 in
theorem law_taken {Inv : zM → Prop} {fr cm sm L t : Nat} {xs : Nat → Int32} {M : zM} (hf : 201 ≤ fr) (hL : L ≤ 3072) (ht : 6 * t + 6 ≤ L) (hscr : zLL L xs M) (hI : Inv M) (hP : ∀ (a0 : Int32) (a1 : Int32), zPI Inv zX10_taken zX11_taken 0 0 [zi a0, zi a1]) (kk : ∀ M2 : zM, Inv M2 → zLL L xs M2 → zV zL_law fr cm sm 1270 (zL [some (zr (1, 0)), some (zr (2, 0)), some (zr (40, 0)), some (zi (nI (6 * t)))]) [] M2 (fun r _ => r = some (zi 1))) : zV zL_law fr cm sm 1237 (zL [some (zr (1, 0)), some (zr (2, 0)), some (zr (40, 0)), some (zi (nI (6 * t)))]) [] M (fun r _ => r = some (zi 1)) := by
  have hscr0 := hscr
  obtain ⟨⟨fsx, hx⟩, hC⟩ := hP (xs (6 * t + 1)) (xs (6 * t + 2)) (fr - 1) M (by omega) hI
  refine z_al iL_law_1237 rfl ?_
  refine z_al iL_law_1238 rfl ?_
  refine z_il iL_law_1239 rfl ?_
  refine z_co iL_law_1240 ?_
  refine z_iadd iL_law_1241 ?_
  refine z_iald iL_law_1242 hscr (z_ixk 1 rfl hL ht (by decide)) (by omega) ?_
  refine z_al iL_law_1243 rfl ?_
  refine z_il iL_law_1244 rfl ?_
  refine z_co iL_law_1245 ?_
  refine z_iadd iL_law_1246 ?_
  refine z_iald iL_law_1247 hscr (z_ixk 2 rfl hL ht (by decide)) (by omega) ?_
  refine z_cv2i (fr' := fr - 1) iL_law_1248 zmX10_taken hx hC (by omega) (Nat.le_of_ble_eq_true rfl) (fun x M1 hq => ?_)
  obtain ⟨hk1, ⟨fsm, hm⟩, hC2⟩ := hq
  replace hscr : zLL L xs M1 := (hk1 (1, 0) (by decide)).trans hscr
  refine z_al iL_law_1251 rfl ?_
  refine z_al iL_law_1252 rfl ?_
  refine z_il iL_law_1253 rfl ?_
  refine z_co iL_law_1254 ?_
  refine z_iadd iL_law_1255 ?_
  refine z_iald iL_law_1256 hscr (z_ixk 1 rfl hL ht (by decide)) (by omega) ?_
  refine z_al iL_law_1257 rfl ?_
  refine z_il iL_law_1258 rfl ?_
  refine z_co iL_law_1259 ?_
  refine z_iadd iL_law_1260 ?_
  refine z_iald iL_law_1261 hscr (z_ixk 2 rfl hL ht (by decide)) (by omega) ?_
  refine z_cv2i (fr' := fr - 1) iL_law_1262 zmX11_taken hm hC2 (by omega) (Nat.le_of_ble_eq_true rfl) (fun x M1 hq => ?_)
  obtain ⟨rfl, hk2, hI2⟩ := hq
  refine z_icmp_eq iL_law_1265 (fun h1 => ?_) (fun h1 => ?_)
  · exact kk _ hI2 ((hk2 (1, 0) (by decide)).trans hscr0)
  · exact absurd rfl h1
