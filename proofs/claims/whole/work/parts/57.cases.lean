/-! the thirty calls of the law -/
section CASES
variable {X : ZX} {nm : String} {b L : Nat} {xs : Nat → Int32} {i : Nat} {A : Nat → Nat → Int} {σ : St}
def Nxt (X : ZX) (b i : Nat) : Prop := ∀ (A : Nat → Nat → Int) (σ : St), XI A σ → MI A σ → Zl X b (lls i) 1421 [] 172 (mA A) 172 1889
theorem law_0 (E : Ev X RL cL_law 4 room_1 nm) (hS0 : Sc X b L xs) (hL : L ≤ 3584) (hi : i + 7 ≤ L) (hX : XI A σ) (hM : MI A σ) (hN : Nxt X b i) : Zl X b (lls i) 168 [] 172 (mA A) 172 1889 := by
  refine l_aloadR E dL_law_168 (lls1 i) ?_
  refine l_arg E hS0 hL (lls0 i) (lls3 i) 1 (by omega) dL_law_169 dL_law_170 dL_law_171 dL_law_172 dL_law_173 ?_
  refine l_arg E hS0 hL (lls0 i) (lls3 i) 2 (by omega) dL_law_174 dL_law_175 dL_law_176 dL_law_177 dL_law_178 ?_
  refine l_arg E hS0 hL (lls0 i) (lls3 i) 3 (by omega) dL_law_179 dL_law_180 dL_law_181 dL_law_182 dL_law_183 ?_
  refine l_callV (st := []) E dL_law_184 lkL_13 (x_sheet hX (xs (i + 1)).toInt (xs (i + 2)).toInt (xs (i + 3)).toInt (inR_of _) (inR_of _) (inR_of _)) (by rfl) rfl rfl (Nat.le_of_ble_eq_true rfl) ⟨Nat.le_of_ble_eq_true rfl, Nat.le_of_ble_eq_true rfl⟩ ⟨rfl, rfl⟩ ⟨Nat.le_of_ble_eq_true rfl, Nat.le_of_ble_eq_true rfl⟩ (fun g0 h0 => ?_)
  obtain ⟨A1, rfl, hX1, hH1⟩ := h0
  have hM1 := hM.hi hH1
  refine l_aloadR E dL_law_187 (lls2 i) ?_
  refine l_arg E hS0 hL (lls0 i) (lls3 i) 1 (by omega) dL_law_188 dL_law_189 dL_law_190 dL_law_191 dL_law_192 ?_
  refine l_arg E hS0 hL (lls0 i) (lls3 i) 2 (by omega) dL_law_193 dL_law_194 dL_law_195 dL_law_196 dL_law_197 ?_
  refine l_arg E hS0 hL (lls0 i) (lls3 i) 3 (by omega) dL_law_198 dL_law_199 dL_law_200 dL_law_201 dL_law_202 ?_
  refine l_callV (st := [some _]) E dL_law_203 lkL_17 (m_sheet hM1 (xs (i + 1)).toInt (xs (i + 2)).toInt (xs (i + 3)).toInt (inR_of _) (inR_of _) (inR_of _)) (by rfl) rfl rfl (Nat.le_of_ble_eq_true rfl) ⟨Nat.le_of_ble_eq_true rfl, Nat.le_of_ble_eq_true rfl⟩ ⟨rfl, rfl⟩ ⟨Nat.le_of_ble_eq_true rfl, Nat.le_of_ble_eq_true rfl⟩ (fun g1 h1 => ?_)
  obtain ⟨A2, rfl, hM2, hL2⟩ := h1
  refine l_eq (tgt := 1421) E dL_law_206 (by decide) ?_
  exact hN A2 _ (hX1.lo hL2) hM2
theorem law_1 (E : Ev X RL cL_law 4 room_1 nm) (hS0 : Sc X b L xs) (hL : L ≤ 3584) (hi : i + 7 ≤ L) (hX : XI A σ) (hM : MI A σ) (hN : Nxt X b i) : Zl X b (lls i) 211 [] 172 (mA A) 172 1889 := by
  refine l_aloadR E dL_law_211 (lls1 i) ?_
  refine l_arg E hS0 hL (lls0 i) (lls3 i) 1 (by omega) dL_law_212 dL_law_213 dL_law_214 dL_law_215 dL_law_216 ?_
  refine l_callV (st := []) E dL_law_217 lkL_18 (x_lose hX (xs (i + 1)).toInt (inR_of _)) (by rfl) rfl rfl (Nat.le_of_ble_eq_true rfl) ⟨Nat.le_of_ble_eq_true rfl, Nat.le_of_ble_eq_true rfl⟩ ⟨rfl, rfl⟩ ⟨Nat.le_of_ble_eq_true rfl, Nat.le_of_ble_eq_true rfl⟩ (fun g0 h0 => ?_)
  obtain ⟨A1, rfl, hX1, hH1⟩ := h0
  have hM1 := hM.hi hH1
  refine l_aloadR E dL_law_220 (lls2 i) ?_
  refine l_arg E hS0 hL (lls0 i) (lls3 i) 1 (by omega) dL_law_221 dL_law_222 dL_law_223 dL_law_224 dL_law_225 ?_
  refine l_callV (st := [some _]) E dL_law_226 lkL_22 (m_lose hM1 (xs (i + 1)).toInt (inR_of _)) (by rfl) rfl rfl (Nat.le_of_ble_eq_true rfl) ⟨Nat.le_of_ble_eq_true rfl, Nat.le_of_ble_eq_true rfl⟩ ⟨rfl, rfl⟩ ⟨Nat.le_of_ble_eq_true rfl, Nat.le_of_ble_eq_true rfl⟩ (fun g1 h1 => ?_)
  obtain ⟨A2, rfl, hM2, hL2⟩ := h1
  refine l_eq (tgt := 1421) E dL_law_229 (by decide) ?_
  exact hN A2 _ (hX1.lo hL2) hM2
theorem law_2 (E : Ev X RL cL_law 4 room_1 nm) (hS0 : Sc X b L xs) (hL : L ≤ 3584) (hi : i + 7 ≤ L) (hX : XI A σ) (hM : MI A σ) (hN : Nxt X b i) : Zl X b (lls i) 234 [] 172 (mA A) 172 1889 := by
  refine l_aloadR E dL_law_234 (lls1 i) ?_
  refine l_arg E hS0 hL (lls0 i) (lls3 i) 1 (by omega) dL_law_235 dL_law_236 dL_law_237 dL_law_238 dL_law_239 ?_
  refine l_arg E hS0 hL (lls0 i) (lls3 i) 2 (by omega) dL_law_240 dL_law_241 dL_law_242 dL_law_243 dL_law_244 ?_
  refine l_arg E hS0 hL (lls0 i) (lls3 i) 3 (by omega) dL_law_245 dL_law_246 dL_law_247 dL_law_248 dL_law_249 ?_
  refine l_arg E hS0 hL (lls0 i) (lls3 i) 4 (by omega) dL_law_250 dL_law_251 dL_law_252 dL_law_253 dL_law_254 ?_
  refine l_callV (st := []) E dL_law_255 lkL_23 (x_put hX (xs (i + 1)).toInt (xs (i + 2)).toInt (xs (i + 3)).toInt (xs (i + 4)).toInt (inR_of _) (inR_of _) (inR_of _) (inR_of _)) (by rfl) rfl rfl (Nat.le_of_ble_eq_true rfl) ⟨Nat.le_of_ble_eq_true rfl, Nat.le_of_ble_eq_true rfl⟩ ⟨rfl, rfl⟩ ⟨Nat.le_of_ble_eq_true rfl, Nat.le_of_ble_eq_true rfl⟩ (fun g0 h0 => ?_)
  obtain ⟨A1, rfl, hX1, hH1⟩ := h0
  have hM1 := hM.hi hH1
  refine l_aloadR E dL_law_258 (lls2 i) ?_
  refine l_arg E hS0 hL (lls0 i) (lls3 i) 1 (by omega) dL_law_259 dL_law_260 dL_law_261 dL_law_262 dL_law_263 ?_
  refine l_arg E hS0 hL (lls0 i) (lls3 i) 2 (by omega) dL_law_264 dL_law_265 dL_law_266 dL_law_267 dL_law_268 ?_
  refine l_arg E hS0 hL (lls0 i) (lls3 i) 3 (by omega) dL_law_269 dL_law_270 dL_law_271 dL_law_272 dL_law_273 ?_
  refine l_arg E hS0 hL (lls0 i) (lls3 i) 4 (by omega) dL_law_274 dL_law_275 dL_law_276 dL_law_277 dL_law_278 ?_
  refine l_callV (st := [some _]) E dL_law_279 lkL_27 (m_put hM1 (xs (i + 1)).toInt (xs (i + 2)).toInt (xs (i + 3)).toInt (xs (i + 4)).toInt (inR_of _) (inR_of _) (inR_of _) (inR_of _)) (by rfl) rfl rfl (Nat.le_of_ble_eq_true rfl) ⟨Nat.le_of_ble_eq_true rfl, Nat.le_of_ble_eq_true rfl⟩ ⟨rfl, rfl⟩ ⟨Nat.le_of_ble_eq_true rfl, Nat.le_of_ble_eq_true rfl⟩ (fun g1 h1 => ?_)
  obtain ⟨A2, rfl, hM2, hL2⟩ := h1
  refine l_eq (tgt := 1421) E dL_law_282 (by decide) ?_
  exact hN A2 _ (hX1.lo hL2) hM2
theorem law_3 (E : Ev X RL cL_law 4 room_1 nm) (hS0 : Sc X b L xs) (hL : L ≤ 3584) (hi : i + 7 ≤ L) (hX : XI A σ) (hM : MI A σ) (hN : Nxt X b i) : Zl X b (lls i) 287 [] 172 (mA A) 172 1889 := by
  refine l_aloadR E dL_law_287 (lls1 i) ?_
  refine l_arg E hS0 hL (lls0 i) (lls3 i) 1 (by omega) dL_law_288 dL_law_289 dL_law_290 dL_law_291 dL_law_292 ?_
  refine l_arg E hS0 hL (lls0 i) (lls3 i) 2 (by omega) dL_law_293 dL_law_294 dL_law_295 dL_law_296 dL_law_297 ?_
  refine l_arg E hS0 hL (lls0 i) (lls3 i) 3 (by omega) dL_law_298 dL_law_299 dL_law_300 dL_law_301 dL_law_302 ?_
  refine l_callV (st := []) E dL_law_303 lkL_28 (x_get hX (xs (i + 1)).toInt (xs (i + 2)).toInt (xs (i + 3)).toInt (inR_of _) (inR_of _) (inR_of _)) (by rfl) rfl rfl (Nat.le_of_ble_eq_true rfl) ⟨Nat.le_of_ble_eq_true rfl, Nat.le_of_ble_eq_true rfl⟩ ⟨rfl, rfl⟩ ⟨Nat.le_of_ble_eq_true rfl, Nat.le_of_ble_eq_true rfl⟩ (fun g0 h0 => ?_)
  obtain ⟨A1, rfl, hX1, hH1⟩ := h0
  have hM1 := hM.hi hH1
  refine l_aloadR E dL_law_306 (lls2 i) ?_
  refine l_arg E hS0 hL (lls0 i) (lls3 i) 1 (by omega) dL_law_307 dL_law_308 dL_law_309 dL_law_310 dL_law_311 ?_
  refine l_arg E hS0 hL (lls0 i) (lls3 i) 2 (by omega) dL_law_312 dL_law_313 dL_law_314 dL_law_315 dL_law_316 ?_
  refine l_arg E hS0 hL (lls0 i) (lls3 i) 3 (by omega) dL_law_317 dL_law_318 dL_law_319 dL_law_320 dL_law_321 ?_
  refine l_callV (st := [some _]) E dL_law_322 lkL_31 (m_get hM1 (xs (i + 1)).toInt (xs (i + 2)).toInt (xs (i + 3)).toInt (inR_of _) (inR_of _) (inR_of _)) (by rfl) rfl rfl (Nat.le_of_ble_eq_true rfl) ⟨Nat.le_of_ble_eq_true rfl, Nat.le_of_ble_eq_true rfl⟩ ⟨rfl, rfl⟩ ⟨Nat.le_of_ble_eq_true rfl, Nat.le_of_ble_eq_true rfl⟩ (fun g1 h1 => ?_)
  obtain ⟨A2, rfl, hM2, hL2⟩ := h1
  refine l_eq (tgt := 1421) E dL_law_325 (by decide) ?_
  exact hN A2 _ (hX1.lo hL2) hM2
theorem law_4 (E : Ev X RL cL_law 4 room_1 nm) (hS0 : Sc X b L xs) (hL : L ≤ 3584) (hi : i + 7 ≤ L) (hX : XI A σ) (hM : MI A σ) (hN : Nxt X b i) : Zl X b (lls i) 330 [] 172 (mA A) 172 1889 := by
  refine l_aloadR E dL_law_330 (lls1 i) ?_
  refine l_arg E hS0 hL (lls0 i) (lls3 i) 1 (by omega) dL_law_331 dL_law_332 dL_law_333 dL_law_334 dL_law_335 ?_
  refine l_arg E hS0 hL (lls0 i) (lls3 i) 2 (by omega) dL_law_336 dL_law_337 dL_law_338 dL_law_339 dL_law_340 ?_
  refine l_arg E hS0 hL (lls0 i) (lls3 i) 3 (by omega) dL_law_341 dL_law_342 dL_law_343 dL_law_344 dL_law_345 ?_
  refine l_arg E hS0 hL (lls0 i) (lls3 i) 4 (by omega) dL_law_346 dL_law_347 dL_law_348 dL_law_349 dL_law_350 ?_
  refine l_arg E hS0 hL (lls0 i) (lls3 i) 5 (by omega) dL_law_351 dL_law_352 dL_law_353 dL_law_354 dL_law_355 ?_
  refine l_callV (st := []) E dL_law_356 lkL_32 (x_copy hX (xs (i + 1)).toInt (xs (i + 2)).toInt (xs (i + 3)).toInt (xs (i + 4)).toInt (xs (i + 5)).toInt (inR_of _) (inR_of _) (inR_of _) (inR_of _) (inR_of _)) (by rfl) rfl rfl (Nat.le_of_ble_eq_true rfl) ⟨Nat.le_of_ble_eq_true rfl, Nat.le_of_ble_eq_true rfl⟩ ⟨rfl, rfl⟩ ⟨Nat.le_of_ble_eq_true rfl, Nat.le_of_ble_eq_true rfl⟩ (fun g0 h0 => ?_)
  obtain ⟨A1, rfl, hX1, hH1⟩ := h0
  have hM1 := hM.hi hH1
  refine l_aloadR E dL_law_359 (lls2 i) ?_
  refine l_arg E hS0 hL (lls0 i) (lls3 i) 1 (by omega) dL_law_360 dL_law_361 dL_law_362 dL_law_363 dL_law_364 ?_
  refine l_arg E hS0 hL (lls0 i) (lls3 i) 2 (by omega) dL_law_365 dL_law_366 dL_law_367 dL_law_368 dL_law_369 ?_
  refine l_arg E hS0 hL (lls0 i) (lls3 i) 3 (by omega) dL_law_370 dL_law_371 dL_law_372 dL_law_373 dL_law_374 ?_
  refine l_arg E hS0 hL (lls0 i) (lls3 i) 4 (by omega) dL_law_375 dL_law_376 dL_law_377 dL_law_378 dL_law_379 ?_
  refine l_arg E hS0 hL (lls0 i) (lls3 i) 5 (by omega) dL_law_380 dL_law_381 dL_law_382 dL_law_383 dL_law_384 ?_
  refine l_callV (st := [some _]) E dL_law_385 lkL_36 (m_copy hM1 (xs (i + 1)).toInt (xs (i + 2)).toInt (xs (i + 3)).toInt (xs (i + 4)).toInt (xs (i + 5)).toInt (inR_of _) (inR_of _) (inR_of _) (inR_of _) (inR_of _)) (by rfl) rfl rfl (Nat.le_of_ble_eq_true rfl) ⟨Nat.le_of_ble_eq_true rfl, Nat.le_of_ble_eq_true rfl⟩ ⟨rfl, rfl⟩ ⟨Nat.le_of_ble_eq_true rfl, Nat.le_of_ble_eq_true rfl⟩ (fun g1 h1 => ?_)
  obtain ⟨A2, rfl, hM2, hL2⟩ := h1
  refine l_eq (tgt := 1421) E dL_law_388 (by decide) ?_
  exact hN A2 _ (hX1.lo hL2) hM2
theorem law_5 (E : Ev X RL cL_law 4 room_1 nm) (hS0 : Sc X b L xs) (hL : L ≤ 3584) (hi : i + 7 ≤ L) (hX : XI A σ) (hM : MI A σ) (hN : Nxt X b i) : Zl X b (lls i) 393 [] 172 (mA A) 172 1889 := by
  refine l_aloadR E dL_law_393 (lls1 i) ?_
  refine l_arg E hS0 hL (lls0 i) (lls3 i) 1 (by omega) dL_law_394 dL_law_395 dL_law_396 dL_law_397 dL_law_398 ?_
  refine l_arg E hS0 hL (lls0 i) (lls3 i) 2 (by omega) dL_law_399 dL_law_400 dL_law_401 dL_law_402 dL_law_403 ?_
  refine l_callV (st := []) E dL_law_404 lkL_37 (x_term hX (xs (i + 1)).toInt (xs (i + 2)).toInt (inR_of _) (inR_of _)) (by rfl) rfl rfl (Nat.le_of_ble_eq_true rfl) ⟨Nat.le_of_ble_eq_true rfl, Nat.le_of_ble_eq_true rfl⟩ ⟨rfl, rfl⟩ ⟨Nat.le_of_ble_eq_true rfl, Nat.le_of_ble_eq_true rfl⟩ (fun g0 h0 => ?_)
  obtain ⟨A1, rfl, hX1, hH1⟩ := h0
  have hM1 := hM.hi hH1
  refine l_aloadR E dL_law_407 (lls2 i) ?_
  refine l_arg E hS0 hL (lls0 i) (lls3 i) 1 (by omega) dL_law_408 dL_law_409 dL_law_410 dL_law_411 dL_law_412 ?_
  refine l_arg E hS0 hL (lls0 i) (lls3 i) 2 (by omega) dL_law_413 dL_law_414 dL_law_415 dL_law_416 dL_law_417 ?_
  refine l_callV (st := [some _]) E dL_law_418 lkL_41 (m_term hM1 (xs (i + 1)).toInt (xs (i + 2)).toInt (inR_of _) (inR_of _)) (by rfl) rfl rfl (Nat.le_of_ble_eq_true rfl) ⟨Nat.le_of_ble_eq_true rfl, Nat.le_of_ble_eq_true rfl⟩ ⟨rfl, rfl⟩ ⟨Nat.le_of_ble_eq_true rfl, Nat.le_of_ble_eq_true rfl⟩ (fun g1 h1 => ?_)
  obtain ⟨A2, rfl, hM2, hL2⟩ := h1
  refine l_eq (tgt := 1421) E dL_law_421 (by decide) ?_
  exact hN A2 _ (hX1.lo hL2) hM2
theorem law_6 (E : Ev X RL cL_law 4 room_1 nm) (hS0 : Sc X b L xs) (hL : L ≤ 3584) (hi : i + 7 ≤ L) (hX : XI A σ) (hM : MI A σ) (hN : Nxt X b i) : Zl X b (lls i) 426 [] 172 (mA A) 172 1889 := by
  refine l_aloadR E dL_law_426 (lls1 i) ?_
  refine l_arg E hS0 hL (lls0 i) (lls3 i) 1 (by omega) dL_law_427 dL_law_428 dL_law_429 dL_law_430 dL_law_431 ?_
  refine l_arg E hS0 hL (lls0 i) (lls3 i) 2 (by omega) dL_law_432 dL_law_433 dL_law_434 dL_law_435 dL_law_436 ?_
  refine l_arg E hS0 hL (lls0 i) (lls3 i) 3 (by omega) dL_law_437 dL_law_438 dL_law_439 dL_law_440 dL_law_441 ?_
  refine l_callV (st := []) E dL_law_442 lkL_42 (x_kind hX (xs (i + 1)).toInt (xs (i + 2)).toInt (xs (i + 3)).toInt (inR_of _) (inR_of _) (inR_of _)) (by rfl) rfl rfl (Nat.le_of_ble_eq_true rfl) ⟨Nat.le_of_ble_eq_true rfl, Nat.le_of_ble_eq_true rfl⟩ ⟨rfl, rfl⟩ ⟨Nat.le_of_ble_eq_true rfl, Nat.le_of_ble_eq_true rfl⟩ (fun g0 h0 => ?_)
  obtain ⟨A1, rfl, hX1, hH1⟩ := h0
  have hM1 := hM.hi hH1
  refine l_aloadR E dL_law_445 (lls2 i) ?_
  refine l_arg E hS0 hL (lls0 i) (lls3 i) 1 (by omega) dL_law_446 dL_law_447 dL_law_448 dL_law_449 dL_law_450 ?_
  refine l_arg E hS0 hL (lls0 i) (lls3 i) 2 (by omega) dL_law_451 dL_law_452 dL_law_453 dL_law_454 dL_law_455 ?_
  refine l_arg E hS0 hL (lls0 i) (lls3 i) 3 (by omega) dL_law_456 dL_law_457 dL_law_458 dL_law_459 dL_law_460 ?_
  refine l_callV (st := [some _]) E dL_law_461 lkL_45 (m_kind hM1 (xs (i + 1)).toInt (xs (i + 2)).toInt (xs (i + 3)).toInt (inR_of _) (inR_of _) (inR_of _)) (by rfl) rfl rfl (Nat.le_of_ble_eq_true rfl) ⟨Nat.le_of_ble_eq_true rfl, Nat.le_of_ble_eq_true rfl⟩ ⟨rfl, rfl⟩ ⟨Nat.le_of_ble_eq_true rfl, Nat.le_of_ble_eq_true rfl⟩ (fun g1 h1 => ?_)
  obtain ⟨A2, rfl, hM2, hL2⟩ := h1
  refine l_eq (tgt := 1421) E dL_law_464 (by decide) ?_
  exact hN A2 _ (hX1.lo hL2) hM2
theorem law_7 (E : Ev X RL cL_law 4 room_1 nm) (hS0 : Sc X b L xs) (hL : L ≤ 3584) (hi : i + 7 ≤ L) (hX : XI A σ) (hM : MI A σ) (hN : Nxt X b i) : Zl X b (lls i) 469 [] 172 (mA A) 172 1889 := by
  refine l_aloadR E dL_law_469 (lls1 i) ?_
  refine l_arg E hS0 hL (lls0 i) (lls3 i) 1 (by omega) dL_law_470 dL_law_471 dL_law_472 dL_law_473 dL_law_474 ?_
  refine l_arg E hS0 hL (lls0 i) (lls3 i) 2 (by omega) dL_law_475 dL_law_476 dL_law_477 dL_law_478 dL_law_479 ?_
  refine l_arg E hS0 hL (lls0 i) (lls3 i) 3 (by omega) dL_law_480 dL_law_481 dL_law_482 dL_law_483 dL_law_484 ?_
  refine l_arg E hS0 hL (lls0 i) (lls3 i) 4 (by omega) dL_law_485 dL_law_486 dL_law_487 dL_law_488 dL_law_489 ?_
  refine l_callV (st := []) E dL_law_490 lkL_46 (x_join hX (xs (i + 1)).toInt (xs (i + 2)).toInt (xs (i + 3)).toInt (xs (i + 4)).toInt (inR_of _) (inR_of _) (inR_of _) (inR_of _)) (by rfl) rfl rfl (Nat.le_of_ble_eq_true rfl) ⟨Nat.le_of_ble_eq_true rfl, Nat.le_of_ble_eq_true rfl⟩ ⟨rfl, rfl⟩ ⟨Nat.le_of_ble_eq_true rfl, Nat.le_of_ble_eq_true rfl⟩ (fun g0 h0 => ?_)
  obtain ⟨A1, rfl, hX1, hH1⟩ := h0
  have hM1 := hM.hi hH1
  refine l_aloadR E dL_law_493 (lls2 i) ?_
  refine l_arg E hS0 hL (lls0 i) (lls3 i) 1 (by omega) dL_law_494 dL_law_495 dL_law_496 dL_law_497 dL_law_498 ?_
  refine l_arg E hS0 hL (lls0 i) (lls3 i) 2 (by omega) dL_law_499 dL_law_500 dL_law_501 dL_law_502 dL_law_503 ?_
  refine l_arg E hS0 hL (lls0 i) (lls3 i) 3 (by omega) dL_law_504 dL_law_505 dL_law_506 dL_law_507 dL_law_508 ?_
  refine l_arg E hS0 hL (lls0 i) (lls3 i) 4 (by omega) dL_law_509 dL_law_510 dL_law_511 dL_law_512 dL_law_513 ?_
  refine l_callV (st := [some _]) E dL_law_514 lkL_49 (m_join hM1 (xs (i + 1)).toInt (xs (i + 2)).toInt (xs (i + 3)).toInt (xs (i + 4)).toInt (inR_of _) (inR_of _) (inR_of _) (inR_of _)) (by rfl) rfl rfl (Nat.le_of_ble_eq_true rfl) ⟨Nat.le_of_ble_eq_true rfl, Nat.le_of_ble_eq_true rfl⟩ ⟨rfl, rfl⟩ ⟨Nat.le_of_ble_eq_true rfl, Nat.le_of_ble_eq_true rfl⟩ (fun g1 h1 => ?_)
  obtain ⟨A2, rfl, hM2, hL2⟩ := h1
  refine l_eq (tgt := 1421) E dL_law_517 (by decide) ?_
  exact hN A2 _ (hX1.lo hL2) hM2
theorem law_8 (E : Ev X RL cL_law 4 room_1 nm) (hS0 : Sc X b L xs) (hL : L ≤ 3584) (hi : i + 7 ≤ L) (hX : XI A σ) (hM : MI A σ) (hN : Nxt X b i) : Zl X b (lls i) 522 [] 172 (mA A) 172 1889 := by
  refine l_aloadR E dL_law_522 (lls1 i) ?_
  refine l_arg E hS0 hL (lls0 i) (lls3 i) 1 (by omega) dL_law_523 dL_law_524 dL_law_525 dL_law_526 dL_law_527 ?_
  refine l_arg E hS0 hL (lls0 i) (lls3 i) 2 (by omega) dL_law_528 dL_law_529 dL_law_530 dL_law_531 dL_law_532 ?_
  refine l_arg E hS0 hL (lls0 i) (lls3 i) 3 (by omega) dL_law_533 dL_law_534 dL_law_535 dL_law_536 dL_law_537 ?_
  refine l_callV (st := []) E dL_law_538 lkL_50 (x_over hX (xs (i + 1)).toInt (xs (i + 2)).toInt (xs (i + 3)).toInt (inR_of _) (inR_of _) (inR_of _)) (by rfl) rfl rfl (Nat.le_of_ble_eq_true rfl) ⟨Nat.le_of_ble_eq_true rfl, Nat.le_of_ble_eq_true rfl⟩ ⟨rfl, rfl⟩ ⟨Nat.le_of_ble_eq_true rfl, Nat.le_of_ble_eq_true rfl⟩ (fun g0 h0 => ?_)
  obtain ⟨A1, rfl, hX1, hH1⟩ := h0
  have hM1 := hM.hi hH1
  refine l_aloadR E dL_law_541 (lls2 i) ?_
  refine l_arg E hS0 hL (lls0 i) (lls3 i) 1 (by omega) dL_law_542 dL_law_543 dL_law_544 dL_law_545 dL_law_546 ?_
  refine l_arg E hS0 hL (lls0 i) (lls3 i) 2 (by omega) dL_law_547 dL_law_548 dL_law_549 dL_law_550 dL_law_551 ?_
  refine l_arg E hS0 hL (lls0 i) (lls3 i) 3 (by omega) dL_law_552 dL_law_553 dL_law_554 dL_law_555 dL_law_556 ?_
  refine l_callV (st := [some _]) E dL_law_557 lkL_53 (m_over hM1 (xs (i + 1)).toInt (xs (i + 2)).toInt (xs (i + 3)).toInt (inR_of _) (inR_of _) (inR_of _)) (by rfl) rfl rfl (Nat.le_of_ble_eq_true rfl) ⟨Nat.le_of_ble_eq_true rfl, Nat.le_of_ble_eq_true rfl⟩ ⟨rfl, rfl⟩ ⟨Nat.le_of_ble_eq_true rfl, Nat.le_of_ble_eq_true rfl⟩ (fun g1 h1 => ?_)
  obtain ⟨A2, rfl, hM2, hL2⟩ := h1
  refine l_eq (tgt := 1421) E dL_law_560 (by decide) ?_
  exact hN A2 _ (hX1.lo hL2) hM2
theorem law_9 (E : Ev X RL cL_law 4 room_1 nm) (hS0 : Sc X b L xs) (hL : L ≤ 3584) (hi : i + 7 ≤ L) (hX : XI A σ) (hM : MI A σ) (hN : Nxt X b i) : Zl X b (lls i) 565 [] 172 (mA A) 172 1889 := by
  refine l_aloadR E dL_law_565 (lls1 i) ?_
  refine l_arg E hS0 hL (lls0 i) (lls3 i) 1 (by omega) dL_law_566 dL_law_567 dL_law_568 dL_law_569 dL_law_570 ?_
  refine l_arg E hS0 hL (lls0 i) (lls3 i) 2 (by omega) dL_law_571 dL_law_572 dL_law_573 dL_law_574 dL_law_575 ?_
  refine l_arg E hS0 hL (lls0 i) (lls3 i) 3 (by omega) dL_law_576 dL_law_577 dL_law_578 dL_law_579 dL_law_580 ?_
  refine l_callV (st := []) E dL_law_581 lkL_54 (x_into hX (xs (i + 1)).toInt (xs (i + 2)).toInt (xs (i + 3)).toInt (inR_of _) (inR_of _) (inR_of _)) (by rfl) rfl rfl (Nat.le_of_ble_eq_true rfl) ⟨Nat.le_of_ble_eq_true rfl, Nat.le_of_ble_eq_true rfl⟩ ⟨rfl, rfl⟩ ⟨Nat.le_of_ble_eq_true rfl, Nat.le_of_ble_eq_true rfl⟩ (fun g0 h0 => ?_)
  obtain ⟨A1, rfl, hX1, hH1⟩ := h0
  have hM1 := hM.hi hH1
  refine l_aloadR E dL_law_584 (lls2 i) ?_
  refine l_arg E hS0 hL (lls0 i) (lls3 i) 1 (by omega) dL_law_585 dL_law_586 dL_law_587 dL_law_588 dL_law_589 ?_
  refine l_arg E hS0 hL (lls0 i) (lls3 i) 2 (by omega) dL_law_590 dL_law_591 dL_law_592 dL_law_593 dL_law_594 ?_
  refine l_arg E hS0 hL (lls0 i) (lls3 i) 3 (by omega) dL_law_595 dL_law_596 dL_law_597 dL_law_598 dL_law_599 ?_
  refine l_callV (st := [some _]) E dL_law_600 lkL_57 (m_into hM1 (xs (i + 1)).toInt (xs (i + 2)).toInt (xs (i + 3)).toInt (inR_of _) (inR_of _) (inR_of _)) (by rfl) rfl rfl (Nat.le_of_ble_eq_true rfl) ⟨Nat.le_of_ble_eq_true rfl, Nat.le_of_ble_eq_true rfl⟩ ⟨rfl, rfl⟩ ⟨Nat.le_of_ble_eq_true rfl, Nat.le_of_ble_eq_true rfl⟩ (fun g1 h1 => ?_)
  obtain ⟨A2, rfl, hM2, hL2⟩ := h1
  refine l_eq (tgt := 1421) E dL_law_603 (by decide) ?_
  exact hN A2 _ (hX1.lo hL2) hM2
theorem law_10 (E : Ev X RL cL_law 4 room_1 nm) (hS0 : Sc X b L xs) (hL : L ≤ 3584) (hi : i + 7 ≤ L) (hX : XI A σ) (hM : MI A σ) (hN : Nxt X b i) : Zl X b (lls i) 608 [] 172 (mA A) 172 1889 := by
  refine l_aloadR E dL_law_608 (lls1 i) ?_
  refine l_arg E hS0 hL (lls0 i) (lls3 i) 1 (by omega) dL_law_609 dL_law_610 dL_law_611 dL_law_612 dL_law_613 ?_
  refine l_arg E hS0 hL (lls0 i) (lls3 i) 2 (by omega) dL_law_614 dL_law_615 dL_law_616 dL_law_617 dL_law_618 ?_
  refine l_callV (st := []) E dL_law_619 lkL_58 (x_turn hX (xs (i + 1)).toInt (xs (i + 2)).toInt (inR_of _) (inR_of _)) (by rfl) rfl rfl (Nat.le_of_ble_eq_true rfl) ⟨Nat.le_of_ble_eq_true rfl, Nat.le_of_ble_eq_true rfl⟩ ⟨rfl, rfl⟩ ⟨Nat.le_of_ble_eq_true rfl, Nat.le_of_ble_eq_true rfl⟩ (fun g0 h0 => ?_)
  obtain ⟨A1, rfl, hX1, hH1⟩ := h0
  have hM1 := hM.hi hH1
  refine l_aloadR E dL_law_622 (lls2 i) ?_
  refine l_arg E hS0 hL (lls0 i) (lls3 i) 1 (by omega) dL_law_623 dL_law_624 dL_law_625 dL_law_626 dL_law_627 ?_
  refine l_arg E hS0 hL (lls0 i) (lls3 i) 2 (by omega) dL_law_628 dL_law_629 dL_law_630 dL_law_631 dL_law_632 ?_
  refine l_callV (st := [some _]) E dL_law_633 lkL_61 (m_turn hM1 (xs (i + 1)).toInt (xs (i + 2)).toInt (inR_of _) (inR_of _)) (by rfl) rfl rfl (Nat.le_of_ble_eq_true rfl) ⟨Nat.le_of_ble_eq_true rfl, Nat.le_of_ble_eq_true rfl⟩ ⟨rfl, rfl⟩ ⟨Nat.le_of_ble_eq_true rfl, Nat.le_of_ble_eq_true rfl⟩ (fun g1 h1 => ?_)
  obtain ⟨A2, rfl, hM2, hL2⟩ := h1
  refine l_eq (tgt := 1421) E dL_law_636 (by decide) ?_
  exact hN A2 _ (hX1.lo hL2) hM2
theorem law_11 (E : Ev X RL cL_law 4 room_1 nm) (hS0 : Sc X b L xs) (hL : L ≤ 3584) (hi : i + 7 ≤ L) (hX : XI A σ) (hM : MI A σ) (hN : Nxt X b i) : Zl X b (lls i) 641 [] 172 (mA A) 172 1889 := by
  refine l_aloadR E dL_law_641 (lls1 i) ?_
  refine l_arg E hS0 hL (lls0 i) (lls3 i) 1 (by omega) dL_law_642 dL_law_643 dL_law_644 dL_law_645 dL_law_646 ?_
  refine l_arg E hS0 hL (lls0 i) (lls3 i) 2 (by omega) dL_law_647 dL_law_648 dL_law_649 dL_law_650 dL_law_651 ?_
  refine l_arg E hS0 hL (lls0 i) (lls3 i) 3 (by omega) dL_law_652 dL_law_653 dL_law_654 dL_law_655 dL_law_656 ?_
  refine l_callV (st := []) E dL_law_657 lkL_62 (x_power hX (xs (i + 1)).toInt (xs (i + 2)).toInt (xs (i + 3)).toInt (inR_of _) (inR_of _) (inR_of _)) (by rfl) rfl rfl (Nat.le_of_ble_eq_true rfl) ⟨Nat.le_of_ble_eq_true rfl, Nat.le_of_ble_eq_true rfl⟩ ⟨rfl, rfl⟩ ⟨Nat.le_of_ble_eq_true rfl, Nat.le_of_ble_eq_true rfl⟩ (fun g0 h0 => ?_)
  obtain ⟨A1, rfl, hX1, hH1⟩ := h0
  have hM1 := hM.hi hH1
  refine l_aloadR E dL_law_660 (lls2 i) ?_
  refine l_arg E hS0 hL (lls0 i) (lls3 i) 1 (by omega) dL_law_661 dL_law_662 dL_law_663 dL_law_664 dL_law_665 ?_
  refine l_arg E hS0 hL (lls0 i) (lls3 i) 2 (by omega) dL_law_666 dL_law_667 dL_law_668 dL_law_669 dL_law_670 ?_
  refine l_arg E hS0 hL (lls0 i) (lls3 i) 3 (by omega) dL_law_671 dL_law_672 dL_law_673 dL_law_674 dL_law_675 ?_
  refine l_callV (st := [some _]) E dL_law_676 lkL_65 (m_power hM1 (xs (i + 1)).toInt (xs (i + 2)).toInt (xs (i + 3)).toInt (inR_of _) (inR_of _) (inR_of _)) (by rfl) rfl rfl (Nat.le_of_ble_eq_true rfl) ⟨Nat.le_of_ble_eq_true rfl, Nat.le_of_ble_eq_true rfl⟩ ⟨rfl, rfl⟩ ⟨Nat.le_of_ble_eq_true rfl, Nat.le_of_ble_eq_true rfl⟩ (fun g1 h1 => ?_)
  obtain ⟨A2, rfl, hM2, hL2⟩ := h1
  refine l_eq (tgt := 1421) E dL_law_679 (by decide) ?_
  exact hN A2 _ (hX1.lo hL2) hM2
theorem law_12 (E : Ev X RL cL_law 4 room_1 nm) (hS0 : Sc X b L xs) (hL : L ≤ 3584) (hi : i + 7 ≤ L) (hX : XI A σ) (hM : MI A σ) (hN : Nxt X b i) : Zl X b (lls i) 684 [] 172 (mA A) 172 1889 := by
  refine l_aloadR E dL_law_684 (lls1 i) ?_
  refine l_arg E hS0 hL (lls0 i) (lls3 i) 1 (by omega) dL_law_685 dL_law_686 dL_law_687 dL_law_688 dL_law_689 ?_
  refine l_arg E hS0 hL (lls0 i) (lls3 i) 2 (by omega) dL_law_690 dL_law_691 dL_law_692 dL_law_693 dL_law_694 ?_
  refine l_callV (st := []) E dL_law_695 lkL_66 (x_value hX (xs (i + 1)).toInt (xs (i + 2)).toInt (inR_of _) (inR_of _)) (by rfl) rfl rfl (Nat.le_of_ble_eq_true rfl) ⟨Nat.le_of_ble_eq_true rfl, Nat.le_of_ble_eq_true rfl⟩ ⟨rfl, rfl⟩ ⟨Nat.le_of_ble_eq_true rfl, Nat.le_of_ble_eq_true rfl⟩ (fun g0 h0 => ?_)
  obtain ⟨A1, rfl, hX1, hH1⟩ := h0
  have hM1 := hM.hi hH1
  refine l_aloadR E dL_law_698 (lls2 i) ?_
  refine l_arg E hS0 hL (lls0 i) (lls3 i) 1 (by omega) dL_law_699 dL_law_700 dL_law_701 dL_law_702 dL_law_703 ?_
  refine l_arg E hS0 hL (lls0 i) (lls3 i) 2 (by omega) dL_law_704 dL_law_705 dL_law_706 dL_law_707 dL_law_708 ?_
  refine l_callV (st := [some _]) E dL_law_709 lkL_69 (m_value hM1 (xs (i + 1)).toInt (xs (i + 2)).toInt (inR_of _) (inR_of _)) (by rfl) rfl rfl (Nat.le_of_ble_eq_true rfl) ⟨Nat.le_of_ble_eq_true rfl, Nat.le_of_ble_eq_true rfl⟩ ⟨rfl, rfl⟩ ⟨Nat.le_of_ble_eq_true rfl, Nat.le_of_ble_eq_true rfl⟩ (fun g1 h1 => ?_)
  obtain ⟨A2, rfl, hM2, hL2⟩ := h1
  refine l_eq (tgt := 1421) E dL_law_712 (by decide) ?_
  exact hN A2 _ (hX1.lo hL2) hM2
theorem law_13 (E : Ev X RL cL_law 4 room_1 nm) (hS0 : Sc X b L xs) (hL : L ≤ 3584) (hi : i + 7 ≤ L) (hX : XI A σ) (hM : MI A σ) (hN : Nxt X b i) : Zl X b (lls i) 717 [] 172 (mA A) 172 1889 := by
  refine l_aloadR E dL_law_717 (lls1 i) ?_
  refine l_arg E hS0 hL (lls0 i) (lls3 i) 1 (by omega) dL_law_718 dL_law_719 dL_law_720 dL_law_721 dL_law_722 ?_
  refine l_arg E hS0 hL (lls0 i) (lls3 i) 2 (by omega) dL_law_723 dL_law_724 dL_law_725 dL_law_726 dL_law_727 ?_
  refine l_arg E hS0 hL (lls0 i) (lls3 i) 3 (by omega) dL_law_728 dL_law_729 dL_law_730 dL_law_731 dL_law_732 ?_
  refine l_callV (st := []) E dL_law_733 lkL_70 (x_apply hX (xs (i + 1)).toInt (xs (i + 2)).toInt (xs (i + 3)).toInt (inR_of _) (inR_of _) (inR_of _)) (by rfl) rfl rfl (Nat.le_of_ble_eq_true rfl) ⟨Nat.le_of_ble_eq_true rfl, Nat.le_of_ble_eq_true rfl⟩ ⟨rfl, rfl⟩ ⟨Nat.le_of_ble_eq_true rfl, Nat.le_of_ble_eq_true rfl⟩ (fun g0 h0 => ?_)
  obtain ⟨A1, rfl, hX1, hH1⟩ := h0
  have hM1 := hM.hi hH1
  refine l_aloadR E dL_law_736 (lls2 i) ?_
  refine l_arg E hS0 hL (lls0 i) (lls3 i) 1 (by omega) dL_law_737 dL_law_738 dL_law_739 dL_law_740 dL_law_741 ?_
  refine l_arg E hS0 hL (lls0 i) (lls3 i) 2 (by omega) dL_law_742 dL_law_743 dL_law_744 dL_law_745 dL_law_746 ?_
  refine l_arg E hS0 hL (lls0 i) (lls3 i) 3 (by omega) dL_law_747 dL_law_748 dL_law_749 dL_law_750 dL_law_751 ?_
  refine l_callV (st := [some _]) E dL_law_752 lkL_73 (m_apply hM1 (xs (i + 1)).toInt (xs (i + 2)).toInt (xs (i + 3)).toInt (inR_of _) (inR_of _) (inR_of _)) (by rfl) rfl rfl (Nat.le_of_ble_eq_true rfl) ⟨Nat.le_of_ble_eq_true rfl, Nat.le_of_ble_eq_true rfl⟩ ⟨rfl, rfl⟩ ⟨Nat.le_of_ble_eq_true rfl, Nat.le_of_ble_eq_true rfl⟩ (fun g1 h1 => ?_)
  obtain ⟨A2, rfl, hM2, hL2⟩ := h1
  refine l_eq (tgt := 1421) E dL_law_755 (by decide) ?_
  exact hN A2 _ (hX1.lo hL2) hM2
theorem law_14 (E : Ev X RL cL_law 4 room_1 nm) (hS0 : Sc X b L xs) (hL : L ≤ 3584) (hi : i + 7 ≤ L) (hX : XI A σ) (hM : MI A σ) (hN : Nxt X b i) : Zl X b (lls i) 760 [] 172 (mA A) 172 1889 := by
  refine l_aloadR E dL_law_760 (lls1 i) ?_
  refine l_arg E hS0 hL (lls0 i) (lls3 i) 1 (by omega) dL_law_761 dL_law_762 dL_law_763 dL_law_764 dL_law_765 ?_
  refine l_arg E hS0 hL (lls0 i) (lls3 i) 2 (by omega) dL_law_766 dL_law_767 dL_law_768 dL_law_769 dL_law_770 ?_
  refine l_arg E hS0 hL (lls0 i) (lls3 i) 3 (by omega) dL_law_771 dL_law_772 dL_law_773 dL_law_774 dL_law_775 ?_
  refine l_callV (st := []) E dL_law_776 lkL_74 (x_ladder hX (xs (i + 1)).toInt (xs (i + 2)).toInt (xs (i + 3)).toInt (inR_of _) (inR_of _) (inR_of _)) (by rfl) rfl rfl (Nat.le_of_ble_eq_true rfl) ⟨Nat.le_of_ble_eq_true rfl, Nat.le_of_ble_eq_true rfl⟩ ⟨rfl, rfl⟩ ⟨Nat.le_of_ble_eq_true rfl, Nat.le_of_ble_eq_true rfl⟩ (fun g0 h0 => ?_)
  obtain ⟨A1, rfl, hX1, hH1⟩ := h0
  have hM1 := hM.hi hH1
  refine l_aloadR E dL_law_779 (lls2 i) ?_
  refine l_arg E hS0 hL (lls0 i) (lls3 i) 1 (by omega) dL_law_780 dL_law_781 dL_law_782 dL_law_783 dL_law_784 ?_
  refine l_arg E hS0 hL (lls0 i) (lls3 i) 2 (by omega) dL_law_785 dL_law_786 dL_law_787 dL_law_788 dL_law_789 ?_
  refine l_arg E hS0 hL (lls0 i) (lls3 i) 3 (by omega) dL_law_790 dL_law_791 dL_law_792 dL_law_793 dL_law_794 ?_
  refine l_callV (st := [some _]) E dL_law_795 lkL_77 (m_ladder hM1 (xs (i + 1)).toInt (xs (i + 2)).toInt (xs (i + 3)).toInt (inR_of _) (inR_of _) (inR_of _)) (by rfl) rfl rfl (Nat.le_of_ble_eq_true rfl) ⟨Nat.le_of_ble_eq_true rfl, Nat.le_of_ble_eq_true rfl⟩ ⟨rfl, rfl⟩ ⟨Nat.le_of_ble_eq_true rfl, Nat.le_of_ble_eq_true rfl⟩ (fun g1 h1 => ?_)
  obtain ⟨A2, rfl, hM2, hL2⟩ := h1
  refine l_eq (tgt := 1421) E dL_law_798 (by decide) ?_
  exact hN A2 _ (hX1.lo hL2) hM2
theorem law_15 (E : Ev X RL cL_law 4 room_1 nm) (hS0 : Sc X b L xs) (hL : L ≤ 3584) (hi : i + 7 ≤ L) (hX : XI A σ) (hM : MI A σ) (hN : Nxt X b i) : Zl X b (lls i) 803 [] 172 (mA A) 172 1889 := by
  refine l_aloadR E dL_law_803 (lls1 i) ?_
  refine l_arg E hS0 hL (lls0 i) (lls3 i) 1 (by omega) dL_law_804 dL_law_805 dL_law_806 dL_law_807 dL_law_808 ?_
  refine l_arg E hS0 hL (lls0 i) (lls3 i) 2 (by omega) dL_law_809 dL_law_810 dL_law_811 dL_law_812 dL_law_813 ?_
  refine l_arg E hS0 hL (lls0 i) (lls3 i) 3 (by omega) dL_law_814 dL_law_815 dL_law_816 dL_law_817 dL_law_818 ?_
  refine l_callV (st := []) E dL_law_819 lkL_78 (x_step hX (xs (i + 1)).toInt (xs (i + 2)).toInt (xs (i + 3)).toInt (inR_of _) (inR_of _) (inR_of _)) (by rfl) rfl rfl (Nat.le_of_ble_eq_true rfl) ⟨Nat.le_of_ble_eq_true rfl, Nat.le_of_ble_eq_true rfl⟩ ⟨rfl, rfl⟩ ⟨Nat.le_of_ble_eq_true rfl, Nat.le_of_ble_eq_true rfl⟩ (fun g0 h0 => ?_)
  obtain ⟨A1, rfl, hX1, hH1⟩ := h0
  have hM1 := hM.hi hH1
  refine l_aloadR E dL_law_822 (lls2 i) ?_
  refine l_arg E hS0 hL (lls0 i) (lls3 i) 1 (by omega) dL_law_823 dL_law_824 dL_law_825 dL_law_826 dL_law_827 ?_
  refine l_arg E hS0 hL (lls0 i) (lls3 i) 2 (by omega) dL_law_828 dL_law_829 dL_law_830 dL_law_831 dL_law_832 ?_
  refine l_arg E hS0 hL (lls0 i) (lls3 i) 3 (by omega) dL_law_833 dL_law_834 dL_law_835 dL_law_836 dL_law_837 ?_
  refine l_callV (st := [some _]) E dL_law_838 lkL_81 (m_step hM1 (xs (i + 1)).toInt (xs (i + 2)).toInt (xs (i + 3)).toInt (inR_of _) (inR_of _) (inR_of _)) (by rfl) rfl rfl (Nat.le_of_ble_eq_true rfl) ⟨Nat.le_of_ble_eq_true rfl, Nat.le_of_ble_eq_true rfl⟩ ⟨rfl, rfl⟩ ⟨Nat.le_of_ble_eq_true rfl, Nat.le_of_ble_eq_true rfl⟩ (fun g1 h1 => ?_)
  obtain ⟨A2, rfl, hM2, hL2⟩ := h1
  refine l_eq (tgt := 1421) E dL_law_841 (by decide) ?_
  exact hN A2 _ (hX1.lo hL2) hM2
theorem law_16 (E : Ev X RL cL_law 4 room_1 nm) (hS0 : Sc X b L xs) (hL : L ≤ 3584) (hi : i + 7 ≤ L) (hX : XI A σ) (hM : MI A σ) (hN : Nxt X b i) : Zl X b (lls i) 846 [] 172 (mA A) 172 1889 := by
  refine l_aloadR E dL_law_846 (lls1 i) ?_
  refine l_arg E hS0 hL (lls0 i) (lls3 i) 1 (by omega) dL_law_847 dL_law_848 dL_law_849 dL_law_850 dL_law_851 ?_
  refine l_arg E hS0 hL (lls0 i) (lls3 i) 2 (by omega) dL_law_852 dL_law_853 dL_law_854 dL_law_855 dL_law_856 ?_
  refine l_arg E hS0 hL (lls0 i) (lls3 i) 3 (by omega) dL_law_857 dL_law_858 dL_law_859 dL_law_860 dL_law_861 ?_
  refine l_callV (st := []) E dL_law_862 lkL_82 (x_at hX (xs (i + 1)).toInt (xs (i + 2)).toInt (xs (i + 3)).toInt (inR_of _) (inR_of _) (inR_of _)) (by rfl) rfl rfl (Nat.le_of_ble_eq_true rfl) ⟨Nat.le_of_ble_eq_true rfl, Nat.le_of_ble_eq_true rfl⟩ ⟨rfl, rfl⟩ ⟨Nat.le_of_ble_eq_true rfl, Nat.le_of_ble_eq_true rfl⟩ (fun g0 h0 => ?_)
  obtain ⟨A1, rfl, hX1, hH1⟩ := h0
  have hM1 := hM.hi hH1
  refine l_aloadR E dL_law_865 (lls2 i) ?_
  refine l_arg E hS0 hL (lls0 i) (lls3 i) 1 (by omega) dL_law_866 dL_law_867 dL_law_868 dL_law_869 dL_law_870 ?_
  refine l_arg E hS0 hL (lls0 i) (lls3 i) 2 (by omega) dL_law_871 dL_law_872 dL_law_873 dL_law_874 dL_law_875 ?_
  refine l_arg E hS0 hL (lls0 i) (lls3 i) 3 (by omega) dL_law_876 dL_law_877 dL_law_878 dL_law_879 dL_law_880 ?_
  refine l_callV (st := [some _]) E dL_law_881 lkL_85 (m_at hM1 (xs (i + 1)).toInt (xs (i + 2)).toInt (xs (i + 3)).toInt (inR_of _) (inR_of _) (inR_of _)) (by rfl) rfl rfl (Nat.le_of_ble_eq_true rfl) ⟨Nat.le_of_ble_eq_true rfl, Nat.le_of_ble_eq_true rfl⟩ ⟨rfl, rfl⟩ ⟨Nat.le_of_ble_eq_true rfl, Nat.le_of_ble_eq_true rfl⟩ (fun g1 h1 => ?_)
  obtain ⟨A2, rfl, hM2, hL2⟩ := h1
  refine l_eq (tgt := 1421) E dL_law_884 (by decide) ?_
  exact hN A2 _ (hX1.lo hL2) hM2
theorem law_17 (E : Ev X RL cL_law 4 room_1 nm) (hS0 : Sc X b L xs) (hL : L ≤ 3584) (hi : i + 7 ≤ L) (hX : XI A σ) (hM : MI A σ) (hN : Nxt X b i) : Zl X b (lls i) 889 [] 172 (mA A) 172 1889 := by
  refine l_aloadR E dL_law_889 (lls1 i) ?_
  refine l_arg E hS0 hL (lls0 i) (lls3 i) 1 (by omega) dL_law_890 dL_law_891 dL_law_892 dL_law_893 dL_law_894 ?_
  refine l_arg E hS0 hL (lls0 i) (lls3 i) 2 (by omega) dL_law_895 dL_law_896 dL_law_897 dL_law_898 dL_law_899 ?_
  refine l_arg E hS0 hL (lls0 i) (lls3 i) 3 (by omega) dL_law_900 dL_law_901 dL_law_902 dL_law_903 dL_law_904 ?_
  refine l_callV (st := []) E dL_law_905 lkL_86 (x_tell hX (xs (i + 1)).toInt (xs (i + 2)).toInt (xs (i + 3)).toInt (inR_of _) (inR_of _) (inR_of _)) (by rfl) rfl rfl (Nat.le_of_ble_eq_true rfl) ⟨Nat.le_of_ble_eq_true rfl, Nat.le_of_ble_eq_true rfl⟩ ⟨rfl, rfl⟩ ⟨Nat.le_of_ble_eq_true rfl, Nat.le_of_ble_eq_true rfl⟩ (fun g0 h0 => ?_)
  obtain ⟨A1, rfl, hX1, hH1⟩ := h0
  have hM1 := hM.hi hH1
  refine l_aloadR E dL_law_908 (lls2 i) ?_
  refine l_arg E hS0 hL (lls0 i) (lls3 i) 1 (by omega) dL_law_909 dL_law_910 dL_law_911 dL_law_912 dL_law_913 ?_
  refine l_arg E hS0 hL (lls0 i) (lls3 i) 2 (by omega) dL_law_914 dL_law_915 dL_law_916 dL_law_917 dL_law_918 ?_
  refine l_arg E hS0 hL (lls0 i) (lls3 i) 3 (by omega) dL_law_919 dL_law_920 dL_law_921 dL_law_922 dL_law_923 ?_
  refine l_callV (st := [some _]) E dL_law_924 lkL_89 (m_tell hM1 (xs (i + 1)).toInt (xs (i + 2)).toInt (xs (i + 3)).toInt (inR_of _) (inR_of _) (inR_of _)) (by rfl) rfl rfl (Nat.le_of_ble_eq_true rfl) ⟨Nat.le_of_ble_eq_true rfl, Nat.le_of_ble_eq_true rfl⟩ ⟨rfl, rfl⟩ ⟨Nat.le_of_ble_eq_true rfl, Nat.le_of_ble_eq_true rfl⟩ (fun g1 h1 => ?_)
  obtain ⟨A2, rfl, hM2, hL2⟩ := h1
  refine l_eq (tgt := 1421) E dL_law_927 (by decide) ?_
  exact hN A2 _ (hX1.lo hL2) hM2
theorem law_18 (E : Ev X RL cL_law 4 room_1 nm) (hS0 : Sc X b L xs) (hL : L ≤ 3584) (hi : i + 7 ≤ L) (hX : XI A σ) (hM : MI A σ) (hN : Nxt X b i) : Zl X b (lls i) 932 [] 172 (mA A) 172 1889 := by
  refine l_aloadR E dL_law_932 (lls1 i) ?_
  refine l_arg E hS0 hL (lls0 i) (lls3 i) 1 (by omega) dL_law_933 dL_law_934 dL_law_935 dL_law_936 dL_law_937 ?_
  refine l_arg E hS0 hL (lls0 i) (lls3 i) 2 (by omega) dL_law_938 dL_law_939 dL_law_940 dL_law_941 dL_law_942 ?_
  refine l_callV (st := []) E dL_law_943 lkL_90 (x_lowers hX (xs (i + 1)).toInt (xs (i + 2)).toInt (inR_of _) (inR_of _)) (by rfl) rfl rfl (Nat.le_of_ble_eq_true rfl) ⟨Nat.le_of_ble_eq_true rfl, Nat.le_of_ble_eq_true rfl⟩ ⟨rfl, rfl⟩ ⟨Nat.le_of_ble_eq_true rfl, Nat.le_of_ble_eq_true rfl⟩ (fun g0 h0 => ?_)
  obtain ⟨A1, rfl, hX1, hH1⟩ := h0
  have hM1 := hM.hi hH1
  refine l_aloadR E dL_law_946 (lls2 i) ?_
  refine l_arg E hS0 hL (lls0 i) (lls3 i) 1 (by omega) dL_law_947 dL_law_948 dL_law_949 dL_law_950 dL_law_951 ?_
  refine l_arg E hS0 hL (lls0 i) (lls3 i) 2 (by omega) dL_law_952 dL_law_953 dL_law_954 dL_law_955 dL_law_956 ?_
  refine l_callV (st := [some _]) E dL_law_957 lkL_93 (m_lowers hM1 (xs (i + 1)).toInt (xs (i + 2)).toInt (inR_of _) (inR_of _)) (by rfl) rfl rfl (Nat.le_of_ble_eq_true rfl) ⟨Nat.le_of_ble_eq_true rfl, Nat.le_of_ble_eq_true rfl⟩ ⟨rfl, rfl⟩ ⟨Nat.le_of_ble_eq_true rfl, Nat.le_of_ble_eq_true rfl⟩ (fun g1 h1 => ?_)
  obtain ⟨A2, rfl, hM2, hL2⟩ := h1
  refine l_eq (tgt := 1421) E dL_law_960 (by decide) ?_
  exact hN A2 _ (hX1.lo hL2) hM2
theorem law_19 (E : Ev X RL cL_law 4 room_1 nm) (hS0 : Sc X b L xs) (hL : L ≤ 3584) (hi : i + 7 ≤ L) (hX : XI A σ) (hM : MI A σ) (hN : Nxt X b i) : Zl X b (lls i) 965 [] 172 (mA A) 172 1889 := by
  refine l_aloadR E dL_law_965 (lls1 i) ?_
  refine l_arg E hS0 hL (lls0 i) (lls3 i) 1 (by omega) dL_law_966 dL_law_967 dL_law_968 dL_law_969 dL_law_970 ?_
  refine l_arg E hS0 hL (lls0 i) (lls3 i) 2 (by omega) dL_law_971 dL_law_972 dL_law_973 dL_law_974 dL_law_975 ?_
  refine l_arg E hS0 hL (lls0 i) (lls3 i) 3 (by omega) dL_law_976 dL_law_977 dL_law_978 dL_law_979 dL_law_980 ?_
  refine l_arg E hS0 hL (lls0 i) (lls3 i) 4 (by omega) dL_law_981 dL_law_982 dL_law_983 dL_law_984 dL_law_985 ?_
  refine l_callV (st := []) E dL_law_986 lkL_94 (x_bound hX (xs (i + 1)).toInt (xs (i + 2)).toInt (xs (i + 3)).toInt (xs (i + 4)).toInt (inR_of _) (inR_of _) (inR_of _) (inR_of _)) (by rfl) rfl rfl (Nat.le_of_ble_eq_true rfl) ⟨Nat.le_of_ble_eq_true rfl, Nat.le_of_ble_eq_true rfl⟩ ⟨rfl, rfl⟩ ⟨Nat.le_of_ble_eq_true rfl, Nat.le_of_ble_eq_true rfl⟩ (fun g0 h0 => ?_)
  obtain ⟨A1, rfl, hX1, hH1⟩ := h0
  have hM1 := hM.hi hH1
  refine l_aloadR E dL_law_989 (lls2 i) ?_
  refine l_arg E hS0 hL (lls0 i) (lls3 i) 1 (by omega) dL_law_990 dL_law_991 dL_law_992 dL_law_993 dL_law_994 ?_
  refine l_arg E hS0 hL (lls0 i) (lls3 i) 2 (by omega) dL_law_995 dL_law_996 dL_law_997 dL_law_998 dL_law_999 ?_
  refine l_arg E hS0 hL (lls0 i) (lls3 i) 3 (by omega) dL_law_1000 dL_law_1001 dL_law_1002 dL_law_1003 dL_law_1004 ?_
  refine l_arg E hS0 hL (lls0 i) (lls3 i) 4 (by omega) dL_law_1005 dL_law_1006 dL_law_1007 dL_law_1008 dL_law_1009 ?_
  refine l_callV (st := [some _]) E dL_law_1010 lkL_97 (m_bound hM1 (xs (i + 1)).toInt (xs (i + 2)).toInt (xs (i + 3)).toInt (xs (i + 4)).toInt (inR_of _) (inR_of _) (inR_of _) (inR_of _)) (by rfl) rfl rfl (Nat.le_of_ble_eq_true rfl) ⟨Nat.le_of_ble_eq_true rfl, Nat.le_of_ble_eq_true rfl⟩ ⟨rfl, rfl⟩ ⟨Nat.le_of_ble_eq_true rfl, Nat.le_of_ble_eq_true rfl⟩ (fun g1 h1 => ?_)
  obtain ⟨A2, rfl, hM2, hL2⟩ := h1
  refine l_eq (tgt := 1421) E dL_law_1013 (by decide) ?_
  exact hN A2 _ (hX1.lo hL2) hM2
theorem law_20 (E : Ev X RL cL_law 4 room_1 nm) (hS0 : Sc X b L xs) (hL : L ≤ 3584) (hi : i + 7 ≤ L) (hX : XI A σ) (hM : MI A σ) (hN : Nxt X b i) : Zl X b (lls i) 1018 [] 172 (mA A) 172 1889 := by
  refine l_aloadR E dL_law_1018 (lls1 i) ?_
  refine l_arg E hS0 hL (lls0 i) (lls3 i) 1 (by omega) dL_law_1019 dL_law_1020 dL_law_1021 dL_law_1022 dL_law_1023 ?_
  refine l_callV (st := []) E dL_law_1024 lkL_98 (x_binomial hX (xs (i + 1)).toInt (inR_of _)) (by rfl) rfl rfl (Nat.le_of_ble_eq_true rfl) ⟨Nat.le_of_ble_eq_true rfl, Nat.le_of_ble_eq_true rfl⟩ ⟨rfl, rfl⟩ ⟨Nat.le_of_ble_eq_true rfl, Nat.le_of_ble_eq_true rfl⟩ (fun g0 h0 => ?_)
  obtain ⟨A1, rfl, hX1, hH1⟩ := h0
  have hM1 := hM.hi hH1
  refine l_aloadR E dL_law_1027 (lls2 i) ?_
  refine l_arg E hS0 hL (lls0 i) (lls3 i) 1 (by omega) dL_law_1028 dL_law_1029 dL_law_1030 dL_law_1031 dL_law_1032 ?_
  refine l_callV (st := [some _]) E dL_law_1033 lkL_101 (m_binomial hM1 (xs (i + 1)).toInt (inR_of _)) (by rfl) rfl rfl (Nat.le_of_ble_eq_true rfl) ⟨Nat.le_of_ble_eq_true rfl, Nat.le_of_ble_eq_true rfl⟩ ⟨rfl, rfl⟩ ⟨Nat.le_of_ble_eq_true rfl, Nat.le_of_ble_eq_true rfl⟩ (fun g1 h1 => ?_)
  obtain ⟨A2, rfl, hM2, hL2⟩ := h1
  refine l_eq (tgt := 1421) E dL_law_1036 (by decide) ?_
  exact hN A2 _ (hX1.lo hL2) hM2
theorem law_21 (E : Ev X RL cL_law 4 room_1 nm) (hS0 : Sc X b L xs) (hL : L ≤ 3584) (hi : i + 7 ≤ L) (hX : XI A σ) (hM : MI A σ) (hN : Nxt X b i) : Zl X b (lls i) 1041 [] 172 (mA A) 172 1889 := by
  refine l_aloadR E dL_law_1041 (lls1 i) ?_
  refine l_arg E hS0 hL (lls0 i) (lls3 i) 1 (by omega) dL_law_1042 dL_law_1043 dL_law_1044 dL_law_1045 dL_law_1046 ?_
  refine l_arg E hS0 hL (lls0 i) (lls3 i) 2 (by omega) dL_law_1047 dL_law_1048 dL_law_1049 dL_law_1050 dL_law_1051 ?_
  refine l_arg E hS0 hL (lls0 i) (lls3 i) 3 (by omega) dL_law_1052 dL_law_1053 dL_law_1054 dL_law_1055 dL_law_1056 ?_
  refine l_callV (st := []) E dL_law_1057 lkL_102 (x_sum hX (xs (i + 1)).toInt (xs (i + 2)).toInt (xs (i + 3)).toInt (inR_of _) (inR_of _) (inR_of _)) (by rfl) rfl rfl (Nat.le_of_ble_eq_true rfl) ⟨Nat.le_of_ble_eq_true rfl, Nat.le_of_ble_eq_true rfl⟩ ⟨rfl, rfl⟩ ⟨Nat.le_of_ble_eq_true rfl, Nat.le_of_ble_eq_true rfl⟩ (fun g0 h0 => ?_)
  obtain ⟨A1, rfl, hX1, hH1⟩ := h0
  have hM1 := hM.hi hH1
  refine l_aloadR E dL_law_1060 (lls2 i) ?_
  refine l_arg E hS0 hL (lls0 i) (lls3 i) 1 (by omega) dL_law_1061 dL_law_1062 dL_law_1063 dL_law_1064 dL_law_1065 ?_
  refine l_arg E hS0 hL (lls0 i) (lls3 i) 2 (by omega) dL_law_1066 dL_law_1067 dL_law_1068 dL_law_1069 dL_law_1070 ?_
  refine l_arg E hS0 hL (lls0 i) (lls3 i) 3 (by omega) dL_law_1071 dL_law_1072 dL_law_1073 dL_law_1074 dL_law_1075 ?_
  refine l_callV (st := [some _]) E dL_law_1076 lkL_105 (m_sum hM1 (xs (i + 1)).toInt (xs (i + 2)).toInt (xs (i + 3)).toInt (inR_of _) (inR_of _) (inR_of _)) (by rfl) rfl rfl (Nat.le_of_ble_eq_true rfl) ⟨Nat.le_of_ble_eq_true rfl, Nat.le_of_ble_eq_true rfl⟩ ⟨rfl, rfl⟩ ⟨Nat.le_of_ble_eq_true rfl, Nat.le_of_ble_eq_true rfl⟩ (fun g1 h1 => ?_)
  obtain ⟨A2, rfl, hM2, hL2⟩ := h1
  refine l_eq (tgt := 1421) E dL_law_1079 (by decide) ?_
  exact hN A2 _ (hX1.lo hL2) hM2
theorem law_22 (E : Ev X RL cL_law 4 room_1 nm) (hS0 : Sc X b L xs) (hL : L ≤ 3584) (hi : i + 7 ≤ L) (hX : XI A σ) (hM : MI A σ) (hN : Nxt X b i) : Zl X b (lls i) 1084 [] 172 (mA A) 172 1889 := by
  refine l_aloadR E dL_law_1084 (lls1 i) ?_
  refine l_arg E hS0 hL (lls0 i) (lls3 i) 1 (by omega) dL_law_1085 dL_law_1086 dL_law_1087 dL_law_1088 dL_law_1089 ?_
  refine l_arg E hS0 hL (lls0 i) (lls3 i) 2 (by omega) dL_law_1090 dL_law_1091 dL_law_1092 dL_law_1093 dL_law_1094 ?_
  refine l_arg E hS0 hL (lls0 i) (lls3 i) 3 (by omega) dL_law_1095 dL_law_1096 dL_law_1097 dL_law_1098 dL_law_1099 ?_
  refine l_callV (st := []) E dL_law_1100 lkL_106 (x_through hX (xs (i + 1)).toInt (xs (i + 2)).toInt (xs (i + 3)).toInt (inR_of _) (inR_of _) (inR_of _)) (by rfl) rfl rfl (Nat.le_of_ble_eq_true rfl) ⟨Nat.le_of_ble_eq_true rfl, Nat.le_of_ble_eq_true rfl⟩ ⟨rfl, rfl⟩ ⟨Nat.le_of_ble_eq_true rfl, Nat.le_of_ble_eq_true rfl⟩ (fun g0 h0 => ?_)
  obtain ⟨A1, rfl, hX1, hH1⟩ := h0
  have hM1 := hM.hi hH1
  refine l_aloadR E dL_law_1103 (lls2 i) ?_
  refine l_arg E hS0 hL (lls0 i) (lls3 i) 1 (by omega) dL_law_1104 dL_law_1105 dL_law_1106 dL_law_1107 dL_law_1108 ?_
  refine l_arg E hS0 hL (lls0 i) (lls3 i) 2 (by omega) dL_law_1109 dL_law_1110 dL_law_1111 dL_law_1112 dL_law_1113 ?_
  refine l_arg E hS0 hL (lls0 i) (lls3 i) 3 (by omega) dL_law_1114 dL_law_1115 dL_law_1116 dL_law_1117 dL_law_1118 ?_
  refine l_callV (st := [some _]) E dL_law_1119 lkL_109 (m_through hM1 (xs (i + 1)).toInt (xs (i + 2)).toInt (xs (i + 3)).toInt (inR_of _) (inR_of _) (inR_of _)) (by rfl) rfl rfl (Nat.le_of_ble_eq_true rfl) ⟨Nat.le_of_ble_eq_true rfl, Nat.le_of_ble_eq_true rfl⟩ ⟨rfl, rfl⟩ ⟨Nat.le_of_ble_eq_true rfl, Nat.le_of_ble_eq_true rfl⟩ (fun g1 h1 => ?_)
  obtain ⟨A2, rfl, hM2, hL2⟩ := h1
  refine l_eq (tgt := 1421) E dL_law_1122 (by decide) ?_
  exact hN A2 _ (hX1.lo hL2) hM2
theorem law_23 (E : Ev X RL cL_law 4 room_1 nm) (hS0 : Sc X b L xs) (hL : L ≤ 3584) (hi : i + 7 ≤ L) (hX : XI A σ) (hM : MI A σ) (hN : Nxt X b i) : Zl X b (lls i) 1127 [] 172 (mA A) 172 1889 := by
  refine l_aloadR E dL_law_1127 (lls1 i) ?_
  refine l_arg E hS0 hL (lls0 i) (lls3 i) 1 (by omega) dL_law_1128 dL_law_1129 dL_law_1130 dL_law_1131 dL_law_1132 ?_
  refine l_arg E hS0 hL (lls0 i) (lls3 i) 2 (by omega) dL_law_1133 dL_law_1134 dL_law_1135 dL_law_1136 dL_law_1137 ?_
  refine l_arg E hS0 hL (lls0 i) (lls3 i) 3 (by omega) dL_law_1138 dL_law_1139 dL_law_1140 dL_law_1141 dL_law_1142 ?_
  refine l_callV (st := []) E dL_law_1143 lkL_110 (x_difference hX (xs (i + 1)).toInt (xs (i + 2)).toInt (xs (i + 3)).toInt (inR_of _) (inR_of _) (inR_of _)) (by rfl) rfl rfl (Nat.le_of_ble_eq_true rfl) ⟨Nat.le_of_ble_eq_true rfl, Nat.le_of_ble_eq_true rfl⟩ ⟨rfl, rfl⟩ ⟨Nat.le_of_ble_eq_true rfl, Nat.le_of_ble_eq_true rfl⟩ (fun g0 h0 => ?_)
  obtain ⟨A1, rfl, hX1, hH1⟩ := h0
  have hM1 := hM.hi hH1
  refine l_aloadR E dL_law_1146 (lls2 i) ?_
  refine l_arg E hS0 hL (lls0 i) (lls3 i) 1 (by omega) dL_law_1147 dL_law_1148 dL_law_1149 dL_law_1150 dL_law_1151 ?_
  refine l_arg E hS0 hL (lls0 i) (lls3 i) 2 (by omega) dL_law_1152 dL_law_1153 dL_law_1154 dL_law_1155 dL_law_1156 ?_
  refine l_arg E hS0 hL (lls0 i) (lls3 i) 3 (by omega) dL_law_1157 dL_law_1158 dL_law_1159 dL_law_1160 dL_law_1161 ?_
  refine l_callV (st := [some _]) E dL_law_1162 lkL_113 (m_difference hM1 (xs (i + 1)).toInt (xs (i + 2)).toInt (xs (i + 3)).toInt (inR_of _) (inR_of _) (inR_of _)) (by rfl) rfl rfl (Nat.le_of_ble_eq_true rfl) ⟨Nat.le_of_ble_eq_true rfl, Nat.le_of_ble_eq_true rfl⟩ ⟨rfl, rfl⟩ ⟨Nat.le_of_ble_eq_true rfl, Nat.le_of_ble_eq_true rfl⟩ (fun g1 h1 => ?_)
  obtain ⟨A2, rfl, hM2, hL2⟩ := h1
  refine l_eq (tgt := 1421) E dL_law_1165 (by decide) ?_
  exact hN A2 _ (hX1.lo hL2) hM2
theorem law_24 (E : Ev X RL cL_law 4 room_1 nm) (hS0 : Sc X b L xs) (hL : L ≤ 3584) (hi : i + 7 ≤ L) (hX : XI A σ) (hM : MI A σ) (hN : Nxt X b i) : Zl X b (lls i) 1170 [] 172 (mA A) 172 1889 := by
  refine l_aloadR E dL_law_1170 (lls1 i) ?_
  refine l_arg E hS0 hL (lls0 i) (lls3 i) 1 (by omega) dL_law_1171 dL_law_1172 dL_law_1173 dL_law_1174 dL_law_1175 ?_
  refine l_arg E hS0 hL (lls0 i) (lls3 i) 2 (by omega) dL_law_1176 dL_law_1177 dL_law_1178 dL_law_1179 dL_law_1180 ?_
  refine l_arg E hS0 hL (lls0 i) (lls3 i) 3 (by omega) dL_law_1181 dL_law_1182 dL_law_1183 dL_law_1184 dL_law_1185 ?_
  refine l_arg E hS0 hL (lls0 i) (lls3 i) 4 (by omega) dL_law_1186 dL_law_1187 dL_law_1188 dL_law_1189 dL_law_1190 ?_
  refine l_callV (st := []) E dL_law_1191 lkL_114 (x_triangle hX (xs (i + 1)).toInt (xs (i + 2)).toInt (xs (i + 3)).toInt (xs (i + 4)).toInt (inR_of _) (inR_of _) (inR_of _) (inR_of _)) (by rfl) rfl rfl (Nat.le_of_ble_eq_true rfl) ⟨Nat.le_of_ble_eq_true rfl, Nat.le_of_ble_eq_true rfl⟩ ⟨rfl, rfl⟩ ⟨Nat.le_of_ble_eq_true rfl, Nat.le_of_ble_eq_true rfl⟩ (fun g0 h0 => ?_)
  obtain ⟨A1, rfl, hX1, hH1⟩ := h0
  have hM1 := hM.hi hH1
  refine l_aloadR E dL_law_1194 (lls2 i) ?_
  refine l_arg E hS0 hL (lls0 i) (lls3 i) 1 (by omega) dL_law_1195 dL_law_1196 dL_law_1197 dL_law_1198 dL_law_1199 ?_
  refine l_arg E hS0 hL (lls0 i) (lls3 i) 2 (by omega) dL_law_1200 dL_law_1201 dL_law_1202 dL_law_1203 dL_law_1204 ?_
  refine l_arg E hS0 hL (lls0 i) (lls3 i) 3 (by omega) dL_law_1205 dL_law_1206 dL_law_1207 dL_law_1208 dL_law_1209 ?_
  refine l_arg E hS0 hL (lls0 i) (lls3 i) 4 (by omega) dL_law_1210 dL_law_1211 dL_law_1212 dL_law_1213 dL_law_1214 ?_
  refine l_callV (st := [some _]) E dL_law_1215 lkL_117 (m_triangle hM1 (xs (i + 1)).toInt (xs (i + 2)).toInt (xs (i + 3)).toInt (xs (i + 4)).toInt (inR_of _) (inR_of _) (inR_of _) (inR_of _)) (by rfl) rfl rfl (Nat.le_of_ble_eq_true rfl) ⟨Nat.le_of_ble_eq_true rfl, Nat.le_of_ble_eq_true rfl⟩ ⟨rfl, rfl⟩ ⟨Nat.le_of_ble_eq_true rfl, Nat.le_of_ble_eq_true rfl⟩ (fun g1 h1 => ?_)
  obtain ⟨A2, rfl, hM2, hL2⟩ := h1
  refine l_eq (tgt := 1421) E dL_law_1218 (by decide) ?_
  exact hN A2 _ (hX1.lo hL2) hM2
theorem law_25 (E : Ev X RL cL_law 4 room_1 nm) (hS0 : Sc X b L xs) (hL : L ≤ 3584) (hi : i + 7 ≤ L) (hX : XI A σ) (hM : MI A σ) (hN : Nxt X b i) : Zl X b (lls i) 1223 [] 172 (mA A) 172 1889 := by
  refine l_aloadR E dL_law_1223 (lls1 i) ?_
  refine l_arg E hS0 hL (lls0 i) (lls3 i) 1 (by omega) dL_law_1224 dL_law_1225 dL_law_1226 dL_law_1227 dL_law_1228 ?_
  refine l_arg E hS0 hL (lls0 i) (lls3 i) 2 (by omega) dL_law_1229 dL_law_1230 dL_law_1231 dL_law_1232 dL_law_1233 ?_
  refine l_arg E hS0 hL (lls0 i) (lls3 i) 3 (by omega) dL_law_1234 dL_law_1235 dL_law_1236 dL_law_1237 dL_law_1238 ?_
  refine l_arg E hS0 hL (lls0 i) (lls3 i) 4 (by omega) dL_law_1239 dL_law_1240 dL_law_1241 dL_law_1242 dL_law_1243 ?_
  refine l_arg E hS0 hL (lls0 i) (lls3 i) 5 (by omega) dL_law_1244 dL_law_1245 dL_law_1246 dL_law_1247 dL_law_1248 ?_
  refine l_arg6 E hS0 hL (lls0 i) (lls3 i) 6 (by omega) (by omega) dL_law_1249 dL_law_1250 dL_law_1251 dL_law_1253 dL_law_1254 ?_
  refine l_callV (st := []) E dL_law_1255 lkL_118 (x_product hX (xs (i + 1)).toInt (xs (i + 2)).toInt (xs (i + 3)).toInt (xs (i + 4)).toInt (xs (i + 5)).toInt (xs (i + 6)).toInt (inR_of _) (inR_of _) (inR_of _) (inR_of _) (inR_of _) (inR_of _)) (by rfl) rfl rfl (Nat.le_of_ble_eq_true rfl) ⟨Nat.le_of_ble_eq_true rfl, Nat.le_of_ble_eq_true rfl⟩ ⟨rfl, rfl⟩ ⟨Nat.le_of_ble_eq_true rfl, Nat.le_of_ble_eq_true rfl⟩ (fun g0 h0 => ?_)
  obtain ⟨A1, rfl, hX1, hH1⟩ := h0
  have hM1 := hM.hi hH1
  refine l_aloadR E dL_law_1258 (lls2 i) ?_
  refine l_arg E hS0 hL (lls0 i) (lls3 i) 1 (by omega) dL_law_1259 dL_law_1260 dL_law_1261 dL_law_1262 dL_law_1263 ?_
  refine l_arg E hS0 hL (lls0 i) (lls3 i) 2 (by omega) dL_law_1264 dL_law_1265 dL_law_1266 dL_law_1267 dL_law_1268 ?_
  refine l_arg E hS0 hL (lls0 i) (lls3 i) 3 (by omega) dL_law_1269 dL_law_1270 dL_law_1271 dL_law_1272 dL_law_1273 ?_
  refine l_arg E hS0 hL (lls0 i) (lls3 i) 4 (by omega) dL_law_1274 dL_law_1275 dL_law_1276 dL_law_1277 dL_law_1278 ?_
  refine l_arg E hS0 hL (lls0 i) (lls3 i) 5 (by omega) dL_law_1279 dL_law_1280 dL_law_1281 dL_law_1282 dL_law_1283 ?_
  refine l_arg6 E hS0 hL (lls0 i) (lls3 i) 6 (by omega) (by omega) dL_law_1284 dL_law_1285 dL_law_1286 dL_law_1288 dL_law_1289 ?_
  refine l_callV (st := [some _]) E dL_law_1290 lkL_122 (m_product hM1 (xs (i + 1)).toInt (xs (i + 2)).toInt (xs (i + 3)).toInt (xs (i + 4)).toInt (xs (i + 5)).toInt (xs (i + 6)).toInt (inR_of _) (inR_of _) (inR_of _) (inR_of _) (inR_of _) (inR_of _)) (by rfl) rfl rfl (Nat.le_of_ble_eq_true rfl) ⟨Nat.le_of_ble_eq_true rfl, Nat.le_of_ble_eq_true rfl⟩ ⟨rfl, rfl⟩ ⟨Nat.le_of_ble_eq_true rfl, Nat.le_of_ble_eq_true rfl⟩ (fun g1 h1 => ?_)
  obtain ⟨A2, rfl, hM2, hL2⟩ := h1
  refine l_eq (tgt := 1421) E dL_law_1293 (by decide) ?_
  exact hN A2 _ (hX1.lo hL2) hM2
theorem law_26 (E : Ev X RL cL_law 4 room_1 nm) (hS0 : Sc X b L xs) (hL : L ≤ 3584) (hi : i + 7 ≤ L) (hX : XI A σ) (hM : MI A σ) (hN : Nxt X b i) : Zl X b (lls i) 1298 [] 172 (mA A) 172 1889 := by
  refine l_aloadR E dL_law_1298 (lls1 i) ?_
  refine l_arg E hS0 hL (lls0 i) (lls3 i) 1 (by omega) dL_law_1299 dL_law_1300 dL_law_1301 dL_law_1302 dL_law_1303 ?_
  refine l_arg E hS0 hL (lls0 i) (lls3 i) 2 (by omega) dL_law_1304 dL_law_1305 dL_law_1306 dL_law_1307 dL_law_1308 ?_
  refine l_arg E hS0 hL (lls0 i) (lls3 i) 3 (by omega) dL_law_1309 dL_law_1310 dL_law_1311 dL_law_1312 dL_law_1313 ?_
  refine l_arg E hS0 hL (lls0 i) (lls3 i) 4 (by omega) dL_law_1314 dL_law_1315 dL_law_1316 dL_law_1317 dL_law_1318 ?_
  refine l_callV (st := []) E dL_law_1319 lkL_123 (x_back hX (xs (i + 1)).toInt (xs (i + 2)).toInt (xs (i + 3)).toInt (xs (i + 4)).toInt (inR_of _) (inR_of _) (inR_of _) (inR_of _)) (by rfl) rfl rfl (Nat.le_of_ble_eq_true rfl) ⟨Nat.le_of_ble_eq_true rfl, Nat.le_of_ble_eq_true rfl⟩ ⟨rfl, rfl⟩ ⟨Nat.le_of_ble_eq_true rfl, Nat.le_of_ble_eq_true rfl⟩ (fun g0 h0 => ?_)
  obtain ⟨A1, rfl, hX1, hH1⟩ := h0
  have hM1 := hM.hi hH1
  refine l_aloadR E dL_law_1322 (lls2 i) ?_
  refine l_arg E hS0 hL (lls0 i) (lls3 i) 1 (by omega) dL_law_1323 dL_law_1324 dL_law_1325 dL_law_1326 dL_law_1327 ?_
  refine l_arg E hS0 hL (lls0 i) (lls3 i) 2 (by omega) dL_law_1328 dL_law_1329 dL_law_1330 dL_law_1331 dL_law_1332 ?_
  refine l_arg E hS0 hL (lls0 i) (lls3 i) 3 (by omega) dL_law_1333 dL_law_1334 dL_law_1335 dL_law_1336 dL_law_1337 ?_
  refine l_arg E hS0 hL (lls0 i) (lls3 i) 4 (by omega) dL_law_1338 dL_law_1339 dL_law_1340 dL_law_1341 dL_law_1342 ?_
  refine l_callV (st := [some _]) E dL_law_1343 lkL_126 (m_back hM1 (xs (i + 1)).toInt (xs (i + 2)).toInt (xs (i + 3)).toInt (xs (i + 4)).toInt (inR_of _) (inR_of _) (inR_of _) (inR_of _)) (by rfl) rfl rfl (Nat.le_of_ble_eq_true rfl) ⟨Nat.le_of_ble_eq_true rfl, Nat.le_of_ble_eq_true rfl⟩ ⟨rfl, rfl⟩ ⟨Nat.le_of_ble_eq_true rfl, Nat.le_of_ble_eq_true rfl⟩ (fun g1 h1 => ?_)
  obtain ⟨A2, rfl, hM2, hL2⟩ := h1
  refine l_eq (tgt := 1421) E dL_law_1346 (by decide) ?_
  exact hN A2 _ (hX1.lo hL2) hM2
theorem law_27 (E : Ev X RL cL_law 4 room_1 nm) (hS0 : Sc X b L xs) (hL : L ≤ 3584) (hi : i + 7 ≤ L) (hX : XI A σ) (hM : MI A σ) (hN : Nxt X b i) : Zl X b (lls i) 1351 [] 172 (mA A) 172 1889 := by
  refine l_aloadR E dL_law_1351 (lls1 i) ?_
  refine l_arg E hS0 hL (lls0 i) (lls3 i) 1 (by omega) dL_law_1352 dL_law_1353 dL_law_1354 dL_law_1355 dL_law_1356 ?_
  refine l_arg E hS0 hL (lls0 i) (lls3 i) 2 (by omega) dL_law_1357 dL_law_1358 dL_law_1359 dL_law_1360 dL_law_1361 ?_
  refine l_callV (st := []) E dL_law_1362 lkL_127 (x_aRow hX (xs (i + 1)).toInt (xs (i + 2)).toInt (inR_of _) (inR_of _)) (by rfl) rfl rfl (Nat.le_of_ble_eq_true rfl) ⟨Nat.le_of_ble_eq_true rfl, Nat.le_of_ble_eq_true rfl⟩ ⟨rfl, rfl⟩ ⟨Nat.le_of_ble_eq_true rfl, Nat.le_of_ble_eq_true rfl⟩ (fun g0 h0 => ?_)
  obtain ⟨A1, rfl, hX1, hH1⟩ := h0
  have hM1 := hM.hi hH1
  refine l_aloadR E dL_law_1365 (lls2 i) ?_
  refine l_arg E hS0 hL (lls0 i) (lls3 i) 1 (by omega) dL_law_1366 dL_law_1367 dL_law_1368 dL_law_1369 dL_law_1370 ?_
  refine l_arg E hS0 hL (lls0 i) (lls3 i) 2 (by omega) dL_law_1371 dL_law_1372 dL_law_1373 dL_law_1374 dL_law_1375 ?_
  refine l_callV (st := [some _]) E dL_law_1376 lkL_130 (m_aRow hM1 (xs (i + 1)).toInt (xs (i + 2)).toInt (inR_of _) (inR_of _)) (by rfl) rfl rfl (Nat.le_of_ble_eq_true rfl) ⟨Nat.le_of_ble_eq_true rfl, Nat.le_of_ble_eq_true rfl⟩ ⟨rfl, rfl⟩ ⟨Nat.le_of_ble_eq_true rfl, Nat.le_of_ble_eq_true rfl⟩ (fun g1 h1 => ?_)
  obtain ⟨A2, rfl, hM2, hL2⟩ := h1
  refine l_eq (tgt := 1421) E dL_law_1379 (by decide) ?_
  exact hN A2 _ (hX1.lo hL2) hM2
theorem law_28 (E : Ev X RL cL_law 4 room_1 nm) (hS0 : Sc X b L xs) (hL : L ≤ 3584) (hi : i + 7 ≤ L) (hX : XI A σ) (hM : MI A σ) (hN : Nxt X b i) : Zl X b (lls i) 1384 [] 172 (mA A) 172 1889 := by
  refine l_aloadR E dL_law_1384 (lls1 i) ?_
  refine l_arg E hS0 hL (lls0 i) (lls3 i) 1 (by omega) dL_law_1385 dL_law_1386 dL_law_1387 dL_law_1388 dL_law_1389 ?_
  refine l_callV (st := []) E dL_law_1390 lkL_131 (x_count hX (xs (i + 1)).toInt (inR_of _)) (by rfl) rfl rfl (Nat.le_of_ble_eq_true rfl) ⟨Nat.le_of_ble_eq_true rfl, Nat.le_of_ble_eq_true rfl⟩ ⟨rfl, rfl⟩ ⟨Nat.le_of_ble_eq_true rfl, Nat.le_of_ble_eq_true rfl⟩ (fun g0 h0 => ?_)
  obtain ⟨A1, rfl, hX1, hH1⟩ := h0
  have hM1 := hM.hi hH1
  refine l_aloadR E dL_law_1393 (lls2 i) ?_
  refine l_arg E hS0 hL (lls0 i) (lls3 i) 1 (by omega) dL_law_1394 dL_law_1395 dL_law_1396 dL_law_1397 dL_law_1398 ?_
  refine l_callV (Q := fun g => g = mA A1) (st := [some _]) E dL_law_1399 lkL_134 ((ok_count6 hM1 (xs (i + 1)).toInt (inR_of _) 172).weak (fun r g h => ⟨h.1, h.2⟩)) (by rfl) rfl rfl (Nat.le_of_ble_eq_true rfl) ⟨Nat.le_of_ble_eq_true rfl, Nat.le_of_ble_eq_true rfl⟩ ⟨rfl, rfl⟩ ⟨Nat.le_of_ble_eq_true rfl, Nat.le_of_ble_eq_true rfl⟩ (fun g1 h1 => ?_)
  subst h1
  refine l_eq (tgt := 1421) E dL_law_1402 (by decide) ?_
  exact hN A1 _ hX1 hM1
theorem law_29 (E : Ev X RL cL_law 4 room_1 nm) (hS0 : Sc X b L xs) (hL : L ≤ 3584) (hi : i + 7 ≤ L) (hX : XI A σ) (hM : MI A σ) (hN : Nxt X b i) : Zl X b (lls i) 1407 [] 172 (mA A) 172 1889 := by
  refine l_aloadR E dL_law_1407 (lls1 i) ?_
  refine l_callV (st := []) E dL_law_1408 lkL_135 (x_digest hX  ) (by rfl) rfl rfl (Nat.le_of_ble_eq_true rfl) ⟨Nat.le_of_ble_eq_true rfl, Nat.le_of_ble_eq_true rfl⟩ ⟨rfl, rfl⟩ ⟨Nat.le_of_ble_eq_true rfl, Nat.le_of_ble_eq_true rfl⟩ (fun g0 h0 => ?_)
  obtain ⟨A1, rfl, hX1, hH1⟩ := h0
  have hM1 := hM.hi hH1
  refine l_aloadR E dL_law_1411 (lls2 i) ?_
  refine l_callV (st := [some _]) E dL_law_1412 lkL_139 (m_digest hM1  ) (by rfl) rfl rfl (Nat.le_of_ble_eq_true rfl) ⟨Nat.le_of_ble_eq_true rfl, Nat.le_of_ble_eq_true rfl⟩ ⟨rfl, rfl⟩ ⟨Nat.le_of_ble_eq_true rfl, Nat.le_of_ble_eq_true rfl⟩ (fun g1 h1 => ?_)
  obtain ⟨A2, rfl, hM2, hL2⟩ := h1
  refine l_leq (tgt := 1421) E dL_law_1415 dL_law_1416 (by decide) ?_
  exact hN A2 _ (hX1.lo hL2) hM2
end CASES
