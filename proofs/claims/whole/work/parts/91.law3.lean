/-! THE LAW'S 46 CALLS -/
theorem lawc_0 {x : Cx} {b Ln i k n : Nat} {ys : Nat → Int32} {E : En} {σ : Sg} (h : LX x b Ln ys E) (hi : i + 6 ≤ Ln) (hk : k ≤ 900) (hn : n ≤ 3000) (hR : RelN σ) (hN : LN x E b i k n) : V x (eA E) (AP x E σ) k n 232 (LL E b i) [] := by
  obtain ⟨C, hE, -, -, -, -, hdc, h0⟩ := id h
  refine V_aload_n C dlaw_232 rfl ?_
  refine V_arg h 1 hi dlaw_233 dlaw_234 dlaw_235 dlaw_236 dlaw_237 (by decide) ?_
  refine V_cn C hE dlaw_238 (c_X8_house (p0 := ys (i + 1))) kyX8_house q266 (isoO 60 rfl rfl rfl rfl) rfl rfl (lw_hkc (by omega) (by omega)) ?_
  intro r1 u1 h1
  have hu : ∀ c, 73 ≤ c → u1 c = σ c := fun c hc => X_74 h1 hc
  have hB := MB hR.1 hu
  obtain ⟨a1, rfl⟩ : ∃ a, r1 = some (.int a) := ⟨_, h1.1⟩
  refine V_aload_n C dlaw_241 rfl ?_
  refine V_arg h 1 hi dlaw_242 dlaw_243 dlaw_244 dlaw_245 dlaw_246 (by decide) ?_
  refine V_cn C hE dlaw_247 (c_X9_house (p0 := ys (i + 1))) kyX9_house q986 (isoO 73 rfl rfl rfl rfl) rfl rfl (lw_hkc (by omega) (by omega)) ?_
  intro r2 u2 h2
  obtain ⟨rfl, hR2⟩ := K_house hR.1 h1 h2
  refine V_icmp_eq C dlaw_250 (fun _ => ?_) (fun ne => absurd rfl ne)
  exact hN u2 _ _ hR2 (by omega) (by omega)
theorem lawc_1 {x : Cx} {b Ln i k n : Nat} {ys : Nat → Int32} {E : En} {σ : Sg} (h : LX x b Ln ys E) (hi : i + 6 ≤ Ln) (hk : k ≤ 900) (hn : n ≤ 3000) (hR : RelN σ) (hN : LN x E b i k n) : V x (eA E) (AP x E σ) k n 255 (LL E b i) [] := by
  obtain ⟨C, hE, -, -, -, -, hdc, h0⟩ := id h
  refine V_aload_n C dlaw_255 rfl ?_
  refine V_arg h 1 hi dlaw_256 dlaw_257 dlaw_258 dlaw_259 dlaw_260 (by decide) ?_
  refine V_arg h 2 hi dlaw_261 dlaw_262 dlaw_263 dlaw_264 dlaw_265 (by decide) ?_
  refine V_cn C hE dlaw_266 (c_X8_of (p0 := ys (i + 1)) (p1 := ys (i + 2)) hR.1.2.1.1) kyX8_of q290 (isoO 60 rfl rfl rfl rfl) rfl rfl (lw_hkc (by omega) (by omega)) ?_
  intro r1 u1 h1
  have hu : ∀ c, 73 ≤ c → u1 c = σ c := fun c hc => X_74 h1 hc
  have hB := MB hR.1 hu
  obtain ⟨a1, rfl⟩ : ∃ a, r1 = some (.int a) := ⟨_, h1.1⟩
  refine V_aload_n C dlaw_269 rfl ?_
  refine V_arg h 1 hi dlaw_270 dlaw_271 dlaw_272 dlaw_273 dlaw_274 (by decide) ?_
  refine V_arg h 2 hi dlaw_275 dlaw_276 dlaw_277 dlaw_278 dlaw_279 (by decide) ?_
  refine V_cn C hE dlaw_280 (c_X9_of (p0 := ys (i + 1)) (p1 := ys (i + 2)) hB.1.1) kyX9_of q1007 (isoO 73 rfl rfl rfl rfl) rfl rfl (lw_hkc (by omega) (by omega)) ?_
  intro r2 u2 h2
  obtain ⟨rfl, hR2⟩ := K_of hR.1 h1 h2
  refine V_icmp_eq C dlaw_283 (fun _ => ?_) (fun ne => absurd rfl ne)
  exact hN u2 _ _ hR2 (by omega) (by omega)
theorem lawc_2 {x : Cx} {b Ln i k n : Nat} {ys : Nat → Int32} {E : En} {σ : Sg} (h : LX x b Ln ys E) (hi : i + 6 ≤ Ln) (hk : k ≤ 900) (hn : n ≤ 3000) (hR : RelN σ) (hN : LN x E b i k n) : V x (eA E) (AP x E σ) k n 288 (LL E b i) [] := by
  obtain ⟨C, hE, -, -, -, -, hdc, h0⟩ := id h
  refine V_aload_n C dlaw_288 rfl ?_
  refine V_arg h 1 hi dlaw_289 dlaw_290 dlaw_291 dlaw_292 dlaw_293 (by decide) ?_
  refine V_arg h 2 hi dlaw_294 dlaw_295 dlaw_296 dlaw_297 dlaw_298 (by decide) ?_
  refine V_arg h 3 hi dlaw_299 dlaw_300 dlaw_301 dlaw_302 dlaw_303 (by decide) ?_
  refine V_cn C hE dlaw_304 (c_X8_change (p0 := ys (i + 1)) (p1 := ys (i + 2)) (p2 := ys (i + 3))) kyX8_change q315 (isoO 60 rfl rfl rfl rfl) rfl rfl (lw_hkc (by omega) (by omega)) ?_
  intro r1 u1 h1
  have hu : ∀ c, 73 ≤ c → u1 c = σ c := fun c hc => X_74 h1 hc
  have hB := MB hR.1 hu
  obtain ⟨a1, rfl⟩ : ∃ a, r1 = some (.int a) := ⟨_, h1.1⟩
  refine V_aload_n C dlaw_307 rfl ?_
  refine V_arg h 1 hi dlaw_308 dlaw_309 dlaw_310 dlaw_311 dlaw_312 (by decide) ?_
  refine V_arg h 2 hi dlaw_313 dlaw_314 dlaw_315 dlaw_316 dlaw_317 (by decide) ?_
  refine V_arg h 3 hi dlaw_318 dlaw_319 dlaw_320 dlaw_321 dlaw_322 (by decide) ?_
  refine V_cn C hE dlaw_323 (c_X9_change (p0 := ys (i + 1)) (p1 := ys (i + 2)) (p2 := ys (i + 3))) kyX9_change q1032 (isoO 73 rfl rfl rfl rfl) rfl rfl (lw_hkc (by omega) (by omega)) ?_
  intro r2 u2 h2
  obtain ⟨rfl, hR2⟩ := K_change hR.1 h1 h2
  refine V_icmp_eq C dlaw_326 (fun _ => ?_) (fun ne => absurd rfl ne)
  exact hN u2 _ _ hR2 (by omega) (by omega)
theorem lawc_3 {x : Cx} {b Ln i k n : Nat} {ys : Nat → Int32} {E : En} {σ : Sg} (h : LX x b Ln ys E) (hi : i + 6 ≤ Ln) (hk : k ≤ 900) (hn : n ≤ 3000) (hR : RelN σ) (hN : LN x E b i k n) : V x (eA E) (AP x E σ) k n 331 (LL E b i) [] := by
  obtain ⟨C, hE, -, -, -, -, hdc, h0⟩ := id h
  refine V_aload_n C dlaw_331 rfl ?_
  refine V_arg h 1 hi dlaw_332 dlaw_333 dlaw_334 dlaw_335 dlaw_336 (by decide) ?_
  refine V_arg h 2 hi dlaw_337 dlaw_338 dlaw_339 dlaw_340 dlaw_341 (by decide) ?_
  refine V_cn C hE dlaw_342 (c_X8_steep (p0 := ys (i + 1)) (p1 := ys (i + 2))) kyX8_steep q329 (isoO 60 rfl rfl rfl rfl) rfl rfl (lw_hkc (by omega) (by omega)) ?_
  intro r1 u1 h1
  have hu : ∀ c, 73 ≤ c → u1 c = σ c := fun c hc => X_74 h1 hc
  have hB := MB hR.1 hu
  obtain ⟨a1, rfl⟩ : ∃ a, r1 = some (.int a) := ⟨_, h1.1⟩
  refine V_aload_n C dlaw_345 rfl ?_
  refine V_arg h 1 hi dlaw_346 dlaw_347 dlaw_348 dlaw_349 dlaw_350 (by decide) ?_
  refine V_arg h 2 hi dlaw_351 dlaw_352 dlaw_353 dlaw_354 dlaw_355 (by decide) ?_
  refine V_cn C hE dlaw_356 (c_X9_steep (p0 := ys (i + 1)) (p1 := ys (i + 2))) kyX9_steep q1042 (isoO 73 rfl rfl rfl rfl) rfl rfl (lw_hkc (by omega) (by omega)) ?_
  intro r2 u2 h2
  obtain ⟨rfl, hR2⟩ := K_steep hR.1 h1 h2
  refine V_icmp_eq C dlaw_359 (fun _ => ?_) (fun ne => absurd rfl ne)
  exact hN u2 _ _ hR2 (by omega) (by omega)
theorem lawc_4 {x : Cx} {b Ln i k n : Nat} {ys : Nat → Int32} {E : En} {σ : Sg} (h : LX x b Ln ys E) (hi : i + 6 ≤ Ln) (hk : k ≤ 900) (hn : n ≤ 3000) (hR : RelN σ) (hN : LN x E b i k n) : V x (eA E) (AP x E σ) k n 364 (LL E b i) [] := by
  obtain ⟨C, hE, -, -, -, -, hdc, h0⟩ := id h
  refine V_aload_n C dlaw_364 rfl ?_
  refine V_arg h 1 hi dlaw_365 dlaw_366 dlaw_367 dlaw_368 dlaw_369 (by decide) ?_
  refine V_arg h 2 hi dlaw_370 dlaw_371 dlaw_372 dlaw_373 dlaw_374 (by decide) ?_
  refine V_cn C hE dlaw_375 (c_X8_weather (p0 := ys (i + 1)) (p1 := ys (i + 2))) kyX8_weather q341 (isoO 60 rfl rfl rfl rfl) rfl rfl (lw_hkc (by omega) (by omega)) ?_
  intro r1 u1 h1
  have hu : ∀ c, 73 ≤ c → u1 c = σ c := fun c hc => X_74 h1 hc
  have hB := MB hR.1 hu
  obtain ⟨a1, rfl⟩ : ∃ a, r1 = some (.int a) := ⟨_, h1.1⟩
  refine V_aload_n C dlaw_378 rfl ?_
  refine V_arg h 1 hi dlaw_379 dlaw_380 dlaw_381 dlaw_382 dlaw_383 (by decide) ?_
  refine V_arg h 2 hi dlaw_384 dlaw_385 dlaw_386 dlaw_387 dlaw_388 (by decide) ?_
  refine V_cn C hE dlaw_389 (c_X9_weather (p0 := ys (i + 1)) (p1 := ys (i + 2))) kyX9_weather q1047 (isoO 73 rfl rfl rfl rfl) rfl rfl (lw_hkc (by omega) (by omega)) ?_
  intro r2 u2 h2
  obtain ⟨rfl, hR2⟩ := K_weather hR.1 h1 h2
  refine V_icmp_eq C dlaw_392 (fun _ => ?_) (fun ne => absurd rfl ne)
  exact hN u2 _ _ hR2 (by omega) (by omega)
theorem lawc_5 {x : Cx} {b Ln i k n : Nat} {ys : Nat → Int32} {E : En} {σ : Sg} (h : LX x b Ln ys E) (hi : i + 6 ≤ Ln) (hk : k ≤ 900) (hn : n ≤ 3000) (hR : RelN σ) (hN : LN x E b i k n) : V x (eA E) (AP x E σ) k n 397 (LL E b i) [] := by
  obtain ⟨C, hE, -, -, -, -, hdc, h0⟩ := id h
  refine V_aload_n C dlaw_397 rfl ?_
  refine V_arg h 1 hi dlaw_398 dlaw_399 dlaw_400 dlaw_401 dlaw_402 (by decide) ?_
  refine V_arg h 2 hi dlaw_403 dlaw_404 dlaw_405 dlaw_406 dlaw_407 (by decide) ?_
  refine V_arg h 3 hi dlaw_408 dlaw_409 dlaw_410 dlaw_411 dlaw_412 (by decide) ?_
  refine V_cn C hE dlaw_413 (c_X8_lend (p0 := ys (i + 1)) (p1 := ys (i + 2)) (p2 := ys (i + 3))) kyX8_lend q345 (isoO 60 rfl rfl rfl rfl) rfl rfl (lw_hkc (by omega) (by omega)) ?_
  intro r1 u1 h1
  have hu : ∀ c, 73 ≤ c → u1 c = σ c := fun c hc => X_74 h1 hc
  have hB := MB hR.1 hu
  obtain ⟨a1, rfl⟩ : ∃ a, r1 = some (.int a) := ⟨_, h1.1⟩
  refine V_aload_n C dlaw_416 rfl ?_
  refine V_arg h 1 hi dlaw_417 dlaw_418 dlaw_419 dlaw_420 dlaw_421 (by decide) ?_
  refine V_arg h 2 hi dlaw_422 dlaw_423 dlaw_424 dlaw_425 dlaw_426 (by decide) ?_
  refine V_arg h 3 hi dlaw_427 dlaw_428 dlaw_429 dlaw_430 dlaw_431 (by decide) ?_
  refine V_cn C hE dlaw_432 (c_X9_lend (p0 := ys (i + 1)) (p1 := ys (i + 2)) (p2 := ys (i + 3))) kyX9_lend q1052 (isoO 73 rfl rfl rfl rfl) rfl rfl (lw_hkc (by omega) (by omega)) ?_
  intro r2 u2 h2
  obtain ⟨rfl, hR2⟩ := K_lend hR.1 h1 h2
  refine V_icmp_eq C dlaw_435 (fun _ => ?_) (fun ne => absurd rfl ne)
  exact hN u2 _ _ hR2 (by omega) (by omega)
theorem lawc_6 {x : Cx} {b Ln i k n : Nat} {ys : Nat → Int32} {E : En} {σ : Sg} (h : LX x b Ln ys E) (hi : i + 6 ≤ Ln) (hk : k ≤ 900) (hn : n ≤ 3000) (hR : RelN σ) (hN : LN x E b i k n) : V x (eA E) (AP x E σ) k n 440 (LL E b i) [] := by
  obtain ⟨C, hE, -, -, -, -, hdc, h0⟩ := id h
  refine V_aload_n C dlaw_440 rfl ?_
  refine V_arg h 1 hi dlaw_441 dlaw_442 dlaw_443 dlaw_444 dlaw_445 (by decide) ?_
  refine V_arg h 2 hi dlaw_446 dlaw_447 dlaw_448 dlaw_449 dlaw_450 (by decide) ?_
  refine V_cn C hE dlaw_451 (c_X8_way (p0 := ys (i + 1)) (p1 := ys (i + 2))) kyX8_way q349 (isoO 60 rfl rfl rfl rfl) rfl rfl (lw_hkc (by omega) (by omega)) ?_
  intro r1 u1 h1
  have hu : ∀ c, 73 ≤ c → u1 c = σ c := fun c hc => X_74 h1 hc
  have hB := MB hR.1 hu
  obtain ⟨a1, rfl⟩ : ∃ a, r1 = some (.int a) := ⟨_, h1.1⟩
  refine V_aload_n C dlaw_454 rfl ?_
  refine V_arg h 1 hi dlaw_455 dlaw_456 dlaw_457 dlaw_458 dlaw_459 (by decide) ?_
  refine V_arg h 2 hi dlaw_460 dlaw_461 dlaw_462 dlaw_463 dlaw_464 (by decide) ?_
  refine V_cn C hE dlaw_465 (c_X9_way (p0 := ys (i + 1)) (p1 := ys (i + 2))) kyX9_way q1057 (isoO 73 rfl rfl rfl rfl) rfl rfl (lw_hkc (by omega) (by omega)) ?_
  intro r2 u2 h2
  obtain ⟨rfl, hR2⟩ := K_way hR.1 h1 h2
  refine V_icmp_eq C dlaw_468 (fun _ => ?_) (fun ne => absurd rfl ne)
  exact hN u2 _ _ hR2 (by omega) (by omega)
theorem lawc_7 {x : Cx} {b Ln i k n : Nat} {ys : Nat → Int32} {E : En} {σ : Sg} (h : LX x b Ln ys E) (hi : i + 6 ≤ Ln) (hk : k ≤ 900) (hn : n ≤ 3000) (hR : RelN σ) (hN : LN x E b i k n) : V x (eA E) (AP x E σ) k n 473 (LL E b i) [] := by
  obtain ⟨C, hE, -, -, -, -, hdc, h0⟩ := id h
  refine V_aload_n C dlaw_473 rfl ?_
  refine V_arg h 1 hi dlaw_474 dlaw_475 dlaw_476 dlaw_477 dlaw_478 (by decide) ?_
  refine V_cn C hE dlaw_479 (c_X8_send (p0 := ys (i + 1)) hR.1.2.1.1) kyX8_send q364 (isoO 60 rfl rfl rfl rfl) rfl rfl (lw_hkc (by omega) (by omega)) ?_
  intro r1 u1 h1
  have hu : ∀ c, 73 ≤ c → u1 c = σ c := fun c hc => X_74 h1 hc
  have hB := MB hR.1 hu
  obtain ⟨a1, rfl⟩ : ∃ a, r1 = some (.int a) := ⟨_, h1.1⟩
  refine V_aload_n C dlaw_482 rfl ?_
  refine V_arg h 1 hi dlaw_483 dlaw_484 dlaw_485 dlaw_486 dlaw_487 (by decide) ?_
  refine V_cn C hE dlaw_488 (c_X9_send (p0 := ys (i + 1)) hB.1.1) kyX9_send q1065 (isoO 73 rfl rfl rfl rfl) rfl rfl (lw_hkc (by omega) (by omega)) ?_
  intro r2 u2 h2
  obtain ⟨rfl, hR2⟩ := K_send hR.1 h1 h2
  refine V_icmp_eq C dlaw_491 (fun _ => ?_) (fun ne => absurd rfl ne)
  exact hN u2 _ _ hR2 (by omega) (by omega)
theorem lawc_8 {x : Cx} {b Ln i k n : Nat} {ys : Nat → Int32} {E : En} {σ : Sg} (h : LX x b Ln ys E) (hi : i + 6 ≤ Ln) (hk : k ≤ 900) (hn : n ≤ 3000) (hR : RelN σ) (hN : LN x E b i k n) : V x (eA E) (AP x E σ) k n 496 (LL E b i) [] := by
  obtain ⟨C, hE, -, -, -, -, hdc, h0⟩ := id h
  refine V_aload_n C dlaw_496 rfl ?_
  refine V_arg h 1 hi dlaw_497 dlaw_498 dlaw_499 dlaw_500 dlaw_501 (by decide) ?_
  refine V_cn C hE dlaw_502 (c_X8_quarters (p0 := ys (i + 1)) hR.1.2.1.1) kyX8_quarters q373 (isoO 60 rfl rfl rfl rfl) rfl rfl (lw_hkc (by omega) (by omega)) ?_
  intro r1 u1 h1
  have hu : ∀ c, 73 ≤ c → u1 c = σ c := fun c hc => X_74 h1 hc
  have hB := MB hR.1 hu
  obtain ⟨a1, rfl⟩ : ∃ a, r1 = some (.int a) := ⟨_, h1.1⟩
  refine V_aload_n C dlaw_505 rfl ?_
  refine V_arg h 1 hi dlaw_506 dlaw_507 dlaw_508 dlaw_509 dlaw_510 (by decide) ?_
  refine V_cn C hE dlaw_511 (c_X9_quarters (p0 := ys (i + 1)) hB.1.1 hB.1.hQ hB.2.1.1) kyX9_quarters q1077 (isoO 73 rfl rfl rfl rfl) rfl rfl (lw_hkc (by omega) (by omega)) ?_
  intro r2 u2 h2
  obtain ⟨rfl, hR2⟩ := K_quarters hR.1 h1 h2
  refine V_icmp_eq C dlaw_514 (fun _ => ?_) (fun ne => absurd rfl ne)
  exact hN u2 _ _ hR2 (by omega) (by omega)
theorem lawc_9 {x : Cx} {b Ln i k n : Nat} {ys : Nat → Int32} {E : En} {σ : Sg} (h : LX x b Ln ys E) (hi : i + 6 ≤ Ln) (hk : k ≤ 900) (hn : n ≤ 3000) (hR : RelN σ) (hN : LN x E b i k n) : V x (eA E) (AP x E σ) k n 519 (LL E b i) [] := by
  obtain ⟨C, hE, -, -, -, -, hdc, h0⟩ := id h
  refine V_aload_n C dlaw_519 rfl ?_
  refine V_arg h 1 hi dlaw_520 dlaw_521 dlaw_522 dlaw_523 dlaw_524 (by decide) ?_
  refine V_cn C hE dlaw_525 (c_X8_now (p0 := ys (i + 1))) kyX8_now q419 (isoO 60 rfl rfl rfl rfl) rfl rfl (lw_hkc (by omega) (by omega)) ?_
  intro r1 u1 h1
  have hu : ∀ c, 73 ≤ c → u1 c = σ c := fun c hc => X_74 h1 hc
  have hB := MB hR.1 hu
  obtain ⟨a1, rfl⟩ : ∃ a, r1 = some (.int a) := ⟨_, h1.1⟩
  refine V_aload_n C dlaw_528 rfl ?_
  refine V_arg h 1 hi dlaw_529 dlaw_530 dlaw_531 dlaw_532 dlaw_533 (by decide) ?_
  refine V_cn C hE dlaw_534 (c_X9_now (p0 := ys (i + 1))) kyX9_now q1106 (isoO 73 rfl rfl rfl rfl) rfl rfl (lw_hkc (by omega) (by omega)) ?_
  intro r2 u2 h2
  obtain ⟨rfl, hR2⟩ := K_now hR.1 h1 h2
  refine V_icmp_eq C dlaw_537 (fun _ => ?_) (fun ne => absurd rfl ne)
  exact hN u2 _ _ hR2 (by omega) (by omega)
theorem lawc_10 {x : Cx} {b Ln i k n : Nat} {ys : Nat → Int32} {E : En} {σ : Sg} (h : LX x b Ln ys E) (hi : i + 6 ≤ Ln) (hk : k ≤ 900) (hn : n ≤ 3000) (hR : RelN σ) (hN : LN x E b i k n) : V x (eA E) (AP x E σ) k n 542 (LL E b i) [] := by
  obtain ⟨C, hE, -, -, -, -, hdc, h0⟩ := id h
  refine V_aload_n C dlaw_542 rfl ?_
  refine V_arg h 1 hi dlaw_543 dlaw_544 dlaw_545 dlaw_546 dlaw_547 (by decide) ?_
  refine V_arg h 2 hi dlaw_548 dlaw_549 dlaw_550 dlaw_551 dlaw_552 (by decide) ?_
  refine V_cn C hE dlaw_553 (c_X8_ahead (p0 := ys (i + 1)) (p1 := ys (i + 2)) hR.1.2.1.1) kyX8_ahead q439 (isoO 60 rfl rfl rfl rfl) rfl rfl (lw_hkc (by omega) (by omega)) ?_
  intro r1 u1 h1
  have hu : ∀ c, 73 ≤ c → u1 c = σ c := fun c hc => X_74 h1 hc
  have hB := MB hR.1 hu
  obtain ⟨a1, rfl⟩ : ∃ a, r1 = some (.int a) := ⟨_, h1.1⟩
  refine V_aload_n C dlaw_556 rfl ?_
  refine V_arg h 1 hi dlaw_557 dlaw_558 dlaw_559 dlaw_560 dlaw_561 (by decide) ?_
  refine V_arg h 2 hi dlaw_562 dlaw_563 dlaw_564 dlaw_565 dlaw_566 (by decide) ?_
  refine V_cn C hE dlaw_567 (c_X9_ahead (p0 := ys (i + 1)) (p1 := ys (i + 2)) hB.1.1 hB.1.hQ hB.2.1.1) kyX9_ahead q1118 (isoO 73 rfl rfl rfl rfl) rfl rfl (lw_hkc (by omega) (by omega)) ?_
  intro r2 u2 h2
  obtain ⟨rfl, hR2⟩ := K_ahead hR.1 h1 h2
  refine V_icmp_eq C dlaw_570 (fun _ => ?_) (fun ne => absurd rfl ne)
  exact hN u2 _ _ hR2 (by omega) (by omega)
theorem lawc_11 {x : Cx} {b Ln i k n : Nat} {ys : Nat → Int32} {E : En} {σ : Sg} (h : LX x b Ln ys E) (hi : i + 6 ≤ Ln) (hk : k ≤ 900) (hn : n ≤ 3000) (hR : RelN σ) (hN : LN x E b i k n) : V x (eA E) (AP x E σ) k n 575 (LL E b i) [] := by
  obtain ⟨C, hE, -, -, -, -, hdc, h0⟩ := id h
  refine V_aload_n C dlaw_575 rfl ?_
  refine V_arg h 1 hi dlaw_576 dlaw_577 dlaw_578 dlaw_579 dlaw_580 (by decide) ?_
  refine V_cn C hE dlaw_581 (c_X8_cold (p0 := ys (i + 1)) hR.1.2.1.1) kyX8_cold q463 (isoO 60 rfl rfl rfl rfl) rfl rfl (lw_hkc (by omega) (by omega)) ?_
  intro r1 u1 h1
  have hu : ∀ c, 73 ≤ c → u1 c = σ c := fun c hc => X_74 h1 hc
  have hB := MB hR.1 hu
  obtain ⟨a1, rfl⟩ : ∃ a, r1 = some (.int a) := ⟨_, h1.1⟩
  refine V_aload_n C dlaw_584 rfl ?_
  refine V_arg h 1 hi dlaw_585 dlaw_586 dlaw_587 dlaw_588 dlaw_589 (by decide) ?_
  refine V_cn C hE dlaw_590 (c_X9_cold (p0 := ys (i + 1)) hB.1.1 hB.1.hQ hB.2.1.1) kyX9_cold q1134 (isoO 73 rfl rfl rfl rfl) rfl rfl (lw_hkc (by omega) (by omega)) ?_
  intro r2 u2 h2
  obtain ⟨rfl, hR2⟩ := K_cold hR.1 h1 h2
  refine V_icmp_eq C dlaw_593 (fun _ => ?_) (fun ne => absurd rfl ne)
  exact hN u2 _ _ hR2 (by omega) (by omega)
theorem lawc_12 {x : Cx} {b Ln i k n : Nat} {ys : Nat → Int32} {E : En} {σ : Sg} (h : LX x b Ln ys E) (hi : i + 6 ≤ Ln) (hk : k ≤ 900) (hn : n ≤ 3000) (hR : RelN σ) (hN : LN x E b i k n) : V x (eA E) (AP x E σ) k n 598 (LL E b i) [] := by
  obtain ⟨C, hE, -, -, -, -, hdc, h0⟩ := id h
  refine V_aload_n C dlaw_598 rfl ?_
  refine V_arg h 1 hi dlaw_599 dlaw_600 dlaw_601 dlaw_602 dlaw_603 (by decide) ?_
  refine V_cn C hE dlaw_604 (c_X8_bake (p0 := ys (i + 1)) hR.1.2.1.1) kyX8_bake q468 (isoO 60 rfl rfl rfl rfl) rfl rfl (lw_hkc (by omega) (by omega)) ?_
  intro r1 u1 h1
  have hu : ∀ c, 73 ≤ c → u1 c = σ c := fun c hc => X_74 h1 hc
  have hB := MB hR.1 hu
  obtain ⟨a1, rfl⟩ : ∃ a, r1 = some (.int a) := ⟨_, h1.1⟩
  refine V_aload_n C dlaw_607 rfl ?_
  refine V_arg h 1 hi dlaw_608 dlaw_609 dlaw_610 dlaw_611 dlaw_612 (by decide) ?_
  refine V_cn C hE dlaw_613 (c_X9_bake (p0 := ys (i + 1)) hB.1.1 hB.1.hQ hB.2.1.1 hB.1.hB) kyX9_bake q1139 (isoO 73 rfl rfl rfl rfl) rfl rfl (lw_hkc (by omega) (by omega)) ?_
  intro r2 u2 h2
  obtain ⟨rfl, hR2⟩ := K_bake hR.1 h1 h2
  refine V_icmp_eq C dlaw_616 (fun _ => ?_) (fun ne => absurd rfl ne)
  exact hN u2 _ _ hR2 (by omega) (by omega)
theorem lawc_13 {x : Cx} {b Ln i k n : Nat} {ys : Nat → Int32} {E : En} {σ : Sg} (h : LX x b Ln ys E) (hi : i + 6 ≤ Ln) (hk : k ≤ 900) (hn : n ≤ 3000) (hR : RelN σ) (hN : LN x E b i k n) : V x (eA E) (AP x E σ) k n 621 (LL E b i) [] := by
  obtain ⟨C, hE, -, -, -, -, hdc, h0⟩ := id h
  refine V_aload_n C dlaw_621 rfl ?_
  refine V_arg h 1 hi dlaw_622 dlaw_623 dlaw_624 dlaw_625 dlaw_626 (by decide) ?_
  refine V_cn C hE dlaw_627 (c_X8_best (p0 := ys (i + 1)) hR.1.2.1.1) kyX8_best q476 (isoO 60 rfl rfl rfl rfl) rfl rfl (lw_hkc (by omega) (by omega)) ?_
  intro r1 u1 h1
  have hu : ∀ c, 73 ≤ c → u1 c = σ c := fun c hc => X_74 h1 hc
  have hB := MB hR.1 hu
  obtain ⟨a1, rfl⟩ : ∃ a, r1 = some (.int a) := ⟨_, h1.1⟩
  refine V_aload_n C dlaw_630 rfl ?_
  refine V_arg h 1 hi dlaw_631 dlaw_632 dlaw_633 dlaw_634 dlaw_635 (by decide) ?_
  refine V_cn C hE dlaw_636 (c_X9_best (p0 := ys (i + 1)) hB.1.1 hB.1.hQ hB.2.1.1) kyX9_best q1143 (isoO 73 rfl rfl rfl rfl) rfl rfl (lw_hkc (by omega) (by omega)) ?_
  intro r2 u2 h2
  obtain ⟨rfl, hR2⟩ := K_best hR.1 h1 h2
  refine V_icmp_eq C dlaw_639 (fun _ => ?_) (fun ne => absurd rfl ne)
  exact hN u2 _ _ hR2 (by omega) (by omega)
theorem lawc_14 {x : Cx} {b Ln i k n : Nat} {ys : Nat → Int32} {E : En} {σ : Sg} (h : LX x b Ln ys E) (hi : i + 6 ≤ Ln) (hk : k ≤ 900) (hn : n ≤ 3000) (hR : RelN σ) (hN : LN x E b i k n) : V x (eA E) (AP x E σ) k n 644 (LL E b i) [] := by
  obtain ⟨C, hE, -, -, -, -, hdc, h0⟩ := id h
  refine V_aload_n C dlaw_644 rfl ?_
  refine V_arg h 1 hi dlaw_645 dlaw_646 dlaw_647 dlaw_648 dlaw_649 (by decide) ?_
  refine V_cn C hE dlaw_650 (c_X8_lost (p0 := ys (i + 1)) hR.1.2.1.1) kyX8_lost q484 (isoO 60 rfl rfl rfl rfl) rfl rfl (lw_hkc (by omega) (by omega)) ?_
  intro r1 u1 h1
  have hu : ∀ c, 73 ≤ c → u1 c = σ c := fun c hc => X_74 h1 hc
  have hB := MB hR.1 hu
  obtain ⟨a1, rfl⟩ : ∃ a, r1 = some (.int a) := ⟨_, h1.1⟩
  refine V_aload_n C dlaw_653 rfl ?_
  refine V_arg h 1 hi dlaw_654 dlaw_655 dlaw_656 dlaw_657 dlaw_658 (by decide) ?_
  refine V_cn C hE dlaw_659 (c_X9_lost (p0 := ys (i + 1)) hB.1.1 hB.1.hQ hB.2.1.1) kyX9_lost q1154 (isoO 73 rfl rfl rfl rfl) rfl rfl (lw_hkc (by omega) (by omega)) ?_
  intro r2 u2 h2
  obtain ⟨rfl, hR2⟩ := K_lost hR.1 h1 h2
  refine V_icmp_eq C dlaw_662 (fun _ => ?_) (fun ne => absurd rfl ne)
  exact hN u2 _ _ hR2 (by omega) (by omega)
theorem lawc_15 {x : Cx} {b Ln i k n : Nat} {ys : Nat → Int32} {E : En} {σ : Sg} (h : LX x b Ln ys E) (hi : i + 6 ≤ Ln) (hk : k ≤ 900) (hn : n ≤ 3000) (hR : RelN σ) (hN : LN x E b i k n) : V x (eA E) (AP x E σ) k n 667 (LL E b i) [] := by
  obtain ⟨C, hE, -, -, -, -, hdc, h0⟩ := id h
  refine V_aload_n C dlaw_667 rfl ?_
  refine V_arg h 1 hi dlaw_668 dlaw_669 dlaw_670 dlaw_671 dlaw_672 (by decide) ?_
  refine V_arg h 2 hi dlaw_673 dlaw_674 dlaw_675 dlaw_676 dlaw_677 (by decide) ?_
  refine V_cn C hE dlaw_678 (c_X8_stay (p0 := ys (i + 1)) (p1 := ys (i + 2)) hR.1.2.1.1) kyX8_stay q488 (isoO 60 rfl rfl rfl rfl) rfl rfl (lw_hkc (by omega) (by omega)) ?_
  intro r1 u1 h1
  have hu : ∀ c, 73 ≤ c → u1 c = σ c := fun c hc => X_74 h1 hc
  have hB := MB hR.1 hu
  obtain ⟨a1, rfl⟩ : ∃ a, r1 = some (.int a) := ⟨_, h1.1⟩
  refine V_aload_n C dlaw_681 rfl ?_
  refine V_arg h 1 hi dlaw_682 dlaw_683 dlaw_684 dlaw_685 dlaw_686 (by decide) ?_
  refine V_arg h 2 hi dlaw_687 dlaw_688 dlaw_689 dlaw_690 dlaw_691 (by decide) ?_
  refine V_cn C hE dlaw_692 (c_X9_stay (p0 := ys (i + 1)) (p1 := ys (i + 2)) hB.1.1 hB.1.hQ hB.2.1.1) kyX9_stay q1158 (isoO 73 rfl rfl rfl rfl) rfl rfl (lw_hkc (by omega) (by omega)) ?_
  intro r2 u2 h2
  obtain ⟨rfl, hR2⟩ := K_stay hR.1 h1 h2
  refine V_icmp_eq C dlaw_695 (fun _ => ?_) (fun ne => absurd rfl ne)
  exact hN u2 _ _ hR2 (by omega) (by omega)
theorem lawc_16 {x : Cx} {b Ln i k n : Nat} {ys : Nat → Int32} {E : En} {σ : Sg} (h : LX x b Ln ys E) (hi : i + 6 ≤ Ln) (hk : k ≤ 900) (hn : n ≤ 3000) (hR : RelN σ) (hN : LN x E b i k n) : V x (eA E) (AP x E σ) k n 700 (LL E b i) [] := by
  obtain ⟨C, hE, -, -, -, -, hdc, h0⟩ := id h
  refine V_aload_n C dlaw_700 rfl ?_
  refine V_arg h 1 hi dlaw_701 dlaw_702 dlaw_703 dlaw_704 dlaw_705 (by decide) ?_
  refine V_arg h 2 hi dlaw_706 dlaw_707 dlaw_708 dlaw_709 dlaw_710 (by decide) ?_
  refine V_cn C hE dlaw_711 (c_X8_logs (p0 := ys (i + 1)) (p1 := ys (i + 2)) hR.1.2.1.1) kyX8_logs q492 (isoO 60 rfl rfl rfl rfl) rfl rfl (lw_hkc (by omega) (by omega)) ?_
  intro r1 u1 h1
  have hu : ∀ c, 73 ≤ c → u1 c = σ c := fun c hc => X_74 h1 hc
  have hB := MB hR.1 hu
  obtain ⟨a1, rfl⟩ : ∃ a, r1 = some (.int a) := ⟨_, h1.1⟩
  refine V_aload_n C dlaw_714 rfl ?_
  refine V_arg h 1 hi dlaw_715 dlaw_716 dlaw_717 dlaw_718 dlaw_719 (by decide) ?_
  refine V_arg h 2 hi dlaw_720 dlaw_721 dlaw_722 dlaw_723 dlaw_724 (by decide) ?_
  refine V_cn C hE dlaw_725 (c_X9_logs (p0 := ys (i + 1)) (p1 := ys (i + 2)) hB.1.1 hB.1.hQ hB.2.1.1) kyX9_logs q1166 (isoO 73 rfl rfl rfl rfl) rfl rfl (lw_hkc (by omega) (by omega)) ?_
  intro r2 u2 h2
  obtain ⟨rfl, hR2⟩ := K_logs hR.1 h1 h2
  refine V_icmp_eq C dlaw_728 (fun _ => ?_) (fun ne => absurd rfl ne)
  exact hN u2 _ _ hR2 (by omega) (by omega)
theorem lawc_17 {x : Cx} {b Ln i k n : Nat} {ys : Nat → Int32} {E : En} {σ : Sg} (h : LX x b Ln ys E) (hi : i + 6 ≤ Ln) (hk : k ≤ 900) (hn : n ≤ 3000) (hR : RelN σ) (hN : LN x E b i k n) : V x (eA E) (AP x E σ) k n 733 (LL E b i) [] := by
  obtain ⟨C, hE, -, -, -, -, hdc, h0⟩ := id h
  refine V_aload_n C dlaw_733 rfl ?_
  refine V_arg h 1 hi dlaw_734 dlaw_735 dlaw_736 dlaw_737 dlaw_738 (by decide) ?_
  refine V_arg h 2 hi dlaw_739 dlaw_740 dlaw_741 dlaw_742 dlaw_743 (by decide) ?_
  refine V_cn C hE dlaw_744 (c_X8_wall (p0 := ys (i + 1)) (p1 := ys (i + 2)) hR.1.2.1.1) kyX8_wall q505 (isoO 60 rfl rfl rfl rfl) rfl rfl (lw_hkc (by omega) (by omega)) ?_
  intro r1 u1 h1
  have hu : ∀ c, 73 ≤ c → u1 c = σ c := fun c hc => X_74 h1 hc
  have hB := MB hR.1 hu
  obtain ⟨a1, rfl⟩ : ∃ a, r1 = some (.int a) := ⟨_, h1.1⟩
  refine V_aload_n C dlaw_747 rfl ?_
  refine V_arg h 1 hi dlaw_748 dlaw_749 dlaw_750 dlaw_751 dlaw_752 (by decide) ?_
  refine V_arg h 2 hi dlaw_753 dlaw_754 dlaw_755 dlaw_756 dlaw_757 (by decide) ?_
  refine V_cn C hE dlaw_758 (c_X9_wall (p0 := ys (i + 1)) (p1 := ys (i + 2)) hB.1.1 hB.1.hQ hB.2.1.1) kyX9_wall q1174 (isoO 73 rfl rfl rfl rfl) rfl rfl (lw_hkc (by omega) (by omega)) ?_
  intro r2 u2 h2
  obtain ⟨rfl, hR2⟩ := K_wall hR.1 h1 h2
  refine V_icmp_eq C dlaw_761 (fun _ => ?_) (fun ne => absurd rfl ne)
  exact hN u2 _ _ hR2 (by omega) (by omega)
theorem lawc_18 {x : Cx} {b Ln i k n : Nat} {ys : Nat → Int32} {E : En} {σ : Sg} (h : LX x b Ln ys E) (hi : i + 6 ≤ Ln) (hk : k ≤ 900) (hn : n ≤ 3000) (hR : RelN σ) (hN : LN x E b i k n) : V x (eA E) (AP x E σ) k n 766 (LL E b i) [] := by
  obtain ⟨C, hE, -, -, -, -, hdc, h0⟩ := id h
  refine V_aload_n C dlaw_766 rfl ?_
  refine V_arg h 1 hi dlaw_767 dlaw_768 dlaw_769 dlaw_770 dlaw_771 (by decide) ?_
  refine V_cn C hE dlaw_772 (c_X8_straw (p0 := ys (i + 1)) hR.1.2.1.1) kyX8_straw q509 (isoO 60 rfl rfl rfl rfl) rfl rfl (lw_hkc (by omega) (by omega)) ?_
  intro r1 u1 h1
  have hu : ∀ c, 73 ≤ c → u1 c = σ c := fun c hc => X_74 h1 hc
  have hB := MB hR.1 hu
  obtain ⟨a1, rfl⟩ : ∃ a, r1 = some (.int a) := ⟨_, h1.1⟩
  refine V_aload_n C dlaw_775 rfl ?_
  refine V_arg h 1 hi dlaw_776 dlaw_777 dlaw_778 dlaw_779 dlaw_780 (by decide) ?_
  refine V_cn C hE dlaw_781 (c_X9_straw (p0 := ys (i + 1)) hB.1.1 hB.1.hQ hB.2.1.1) kyX9_straw q1178 (isoO 73 rfl rfl rfl rfl) rfl rfl (lw_hkc (by omega) (by omega)) ?_
  intro r2 u2 h2
  obtain ⟨rfl, hR2⟩ := K_straw hR.1 h1 h2
  refine V_icmp_eq C dlaw_784 (fun _ => ?_) (fun ne => absurd rfl ne)
  exact hN u2 _ _ hR2 (by omega) (by omega)
theorem lawc_19 {x : Cx} {b Ln i k n : Nat} {ys : Nat → Int32} {E : En} {σ : Sg} (h : LX x b Ln ys E) (hi : i + 6 ≤ Ln) (hk : k ≤ 900) (hn : n ≤ 3000) (hR : RelN σ) (hN : LN x E b i k n) : V x (eA E) (AP x E σ) k n 789 (LL E b i) [] := by
  obtain ⟨C, hE, -, -, -, -, hdc, h0⟩ := id h
  refine V_aload_n C dlaw_789 rfl ?_
  refine V_arg h 1 hi dlaw_790 dlaw_791 dlaw_792 dlaw_793 dlaw_794 (by decide) ?_
  refine V_arg h 2 hi dlaw_795 dlaw_796 dlaw_797 dlaw_798 dlaw_799 (by decide) ?_
  refine V_cn C hE dlaw_800 (c_X8_kindFor (p0 := ys (i + 1)) (p1 := ys (i + 2)) hR.1.2.1.1) kyX8_kindFor q514 (isoO 60 rfl rfl rfl rfl) rfl rfl (lw_hkc (by omega) (by omega)) ?_
  intro r1 u1 h1
  have hu : ∀ c, 73 ≤ c → u1 c = σ c := fun c hc => X_74 h1 hc
  have hB := MB hR.1 hu
  obtain ⟨a1, rfl⟩ : ∃ a, r1 = some (.int a) := ⟨_, h1.1⟩
  refine V_aload_n C dlaw_803 rfl ?_
  refine V_arg h 1 hi dlaw_804 dlaw_805 dlaw_806 dlaw_807 dlaw_808 (by decide) ?_
  refine V_arg h 2 hi dlaw_809 dlaw_810 dlaw_811 dlaw_812 dlaw_813 (by decide) ?_
  refine V_cn C hE dlaw_814 (c_X9_kindFor (p0 := ys (i + 1)) (p1 := ys (i + 2)) hB.1.1 hB.1.hQ hB.2.1.1) kyX9_kindFor q1182 (isoO 73 rfl rfl rfl rfl) rfl rfl (lw_hkc (by omega) (by omega)) ?_
  intro r2 u2 h2
  obtain ⟨rfl, hR2⟩ := K_kindFor hR.1 h1 h2
  refine V_icmp_eq C dlaw_817 (fun _ => ?_) (fun ne => absurd rfl ne)
  exact hN u2 _ _ hR2 (by omega) (by omega)
theorem lawc_20 {x : Cx} {b Ln i k n : Nat} {ys : Nat → Int32} {E : En} {σ : Sg} (h : LX x b Ln ys E) (hi : i + 6 ≤ Ln) (hk : k ≤ 900) (hn : n ≤ 3000) (hR : RelN σ) (hN : LN x E b i k n) : V x (eA E) (AP x E σ) k n 822 (LL E b i) [] := by
  obtain ⟨C, hE, -, -, -, -, hdc, h0⟩ := id h
  refine V_aload_n C dlaw_822 rfl ?_
  refine V_arg h 1 hi dlaw_823 dlaw_824 dlaw_825 dlaw_826 dlaw_827 (by decide) ?_
  refine V_cn C hE dlaw_828 (c_X8_round (p0 := ys (i + 1)) hR.1.2.1.1) kyX8_round q518 (isoO 60 rfl rfl rfl rfl) rfl rfl (lw_hkc (by omega) (by omega)) ?_
  intro r1 u1 h1
  have hu : ∀ c, 73 ≤ c → u1 c = σ c := fun c hc => X_74 h1 hc
  have hB := MB hR.1 hu
  obtain ⟨a1, rfl⟩ : ∃ a, r1 = some (.int a) := ⟨_, h1.1⟩
  refine V_aload_n C dlaw_831 rfl ?_
  refine V_arg h 1 hi dlaw_832 dlaw_833 dlaw_834 dlaw_835 dlaw_836 (by decide) ?_
  refine V_cn C hE dlaw_837 (c_X9_round (p0 := ys (i + 1)) hB.1.1 hB.2.1) kyX9_round q1186 (isoO 73 rfl rfl rfl rfl) rfl rfl (lw_hkc (by omega) (by omega)) ?_
  intro r2 u2 h2
  obtain ⟨rfl, hR2⟩ := K_round hR.1 h1 h2
  refine V_icmp_eq C dlaw_840 (fun _ => ?_) (fun ne => absurd rfl ne)
  exact hN u2 _ _ hR2 (by omega) (by omega)
theorem lawc_21 {x : Cx} {b Ln i k n : Nat} {ys : Nat → Int32} {E : En} {σ : Sg} (h : LX x b Ln ys E) (hi : i + 6 ≤ Ln) (hk : k ≤ 900) (hn : n ≤ 3000) (hR : RelN σ) (hN : LN x E b i k n) : V x (eA E) (AP x E σ) k n 845 (LL E b i) [] := by
  obtain ⟨C, hE, -, -, -, -, hdc, h0⟩ := id h
  refine V_aload_n C dlaw_845 rfl ?_
  refine V_arg h 1 hi dlaw_846 dlaw_847 dlaw_848 dlaw_849 dlaw_850 (by decide) ?_
  refine V_cn C hE dlaw_851 (c_X8_takes (p0 := ys (i + 1)) hR.1.2.1.1) kyX8_takes q544 (isoO 60 rfl rfl rfl rfl) rfl rfl (lw_hkc (by omega) (by omega)) ?_
  intro r1 u1 h1
  have hu : ∀ c, 73 ≤ c → u1 c = σ c := fun c hc => X_74 h1 hc
  have hB := MB hR.1 hu
  obtain ⟨a1, rfl⟩ : ∃ a, r1 = some (.int a) := ⟨_, h1.1⟩
  refine V_aload_n C dlaw_854 rfl ?_
  refine V_arg h 1 hi dlaw_855 dlaw_856 dlaw_857 dlaw_858 dlaw_859 (by decide) ?_
  refine V_cn C hE dlaw_860 (c_X9_takes (p0 := ys (i + 1)) hB.1.1 hB.2.1) kyX9_takes q1222 (isoO 73 rfl rfl rfl rfl) rfl rfl (lw_hkc (by omega) (by omega)) ?_
  intro r2 u2 h2
  obtain ⟨rfl, hR2⟩ := K_takes hR.1 h1 h2
  refine V_icmp_eq C dlaw_863 (fun _ => ?_) (fun ne => absurd rfl ne)
  exact hN u2 _ _ hR2 (by omega) (by omega)
theorem lawc_22 {x : Cx} {b Ln i k n : Nat} {ys : Nat → Int32} {E : En} {σ : Sg} (h : LX x b Ln ys E) (hi : i + 6 ≤ Ln) (hk : k ≤ 900) (hn : n ≤ 3000) (hR : RelN σ) (hN : LN x E b i k n) : V x (eA E) (AP x E σ) k n 868 (LL E b i) [] := by
  obtain ⟨C, hE, -, -, -, -, hdc, h0⟩ := id h
  refine V_aload_n C dlaw_868 rfl ?_
  refine V_arg h 1 hi dlaw_869 dlaw_870 dlaw_871 dlaw_872 dlaw_873 (by decide) ?_
  refine V_to (P' := fun H => PT E σ (xs x) H) (fun _ hP => ⟨hP, hdc⟩) rfl rfl ?_
  refine V_call C hE dlaw_874 (c_X8_three (p0 := ys (i + 1)) h0 hR.1.2.1.1 hR.1.2.1.q4) kyX8_three q548 (fun H hP => isoO (x := x) 60 rfl rfl rfl rfl H hP.1) ⟨Nat.le_of_ble_eq_true rfl, Nat.le_of_ble_eq_true rfl⟩ ⟨rfl, rfl⟩ rfl (lw_hcc (by omega) (by omega) (by decide) (by decide)) rfl (Nat.le_of_ble_eq_true rfl) PM_T (fun _ => PM_A) ?_
  intro r1 u1 h1
  have hu : ∀ c, 73 ≤ c → u1 c = σ c := fun c hc => X_74 h1 hc
  have hB := MB hR.1 hu
  obtain ⟨a1, rfl⟩ : ∃ a, r1 = some (.int a) := ⟨_, h1.1⟩
  refine V_aload_n C dlaw_877 rfl ?_
  refine V_arg h 1 hi dlaw_878 dlaw_879 dlaw_880 dlaw_881 dlaw_882 (by decide) ?_
  refine V_cn C hE dlaw_883 (c_X9_three (p0 := ys (i + 1)) hB.1.1 hB.2.1) kyX9_three q1226 (isoO 73 rfl rfl rfl rfl) rfl rfl (lw_hkc (by omega) (by omega)) ?_
  intro r2 u2 h2
  obtain ⟨rfl, hR2⟩ := K_three hR.1 h1 h2
  refine V_icmp_eq C dlaw_886 (fun _ => ?_) (fun ne => absurd rfl ne)
  exact hN u2 _ _ hR2 (by omega) (by omega)
theorem lawc_23 {x : Cx} {b Ln i k n : Nat} {ys : Nat → Int32} {E : En} {σ : Sg} (h : LX x b Ln ys E) (hi : i + 6 ≤ Ln) (hk : k ≤ 900) (hn : n ≤ 3000) (hR : RelN σ) (hN : LN x E b i k n) : V x (eA E) (AP x E σ) k n 891 (LL E b i) [] := by
  obtain ⟨C, hE, -, -, -, -, hdc, h0⟩ := id h
  refine V_aload_n C dlaw_891 rfl ?_
  refine V_arg h 1 hi dlaw_892 dlaw_893 dlaw_894 dlaw_895 dlaw_896 (by decide) ?_
  refine V_to (P' := fun H => PT E σ (xs x) H) (fun _ hP => ⟨hP, hdc⟩) rfl rfl ?_
  refine V_call C hE dlaw_897 (c_X8_least (p0 := ys (i + 1)) h0 hR.1.2.1.1 hR.1.2.1.q4) kyX8_least q605 (fun H hP => isoO (x := x) 60 rfl rfl rfl rfl H hP.1) ⟨Nat.le_of_ble_eq_true rfl, Nat.le_of_ble_eq_true rfl⟩ ⟨rfl, rfl⟩ rfl (lw_hcc (by omega) (by omega) (by decide) (by decide)) rfl (Nat.le_of_ble_eq_true rfl) PM_T (fun _ => PM_A) ?_
  intro r1 u1 h1
  have hu : ∀ c, 73 ≤ c → u1 c = σ c := fun c hc => X_74 h1 hc
  have hB := MB hR.1 hu
  obtain ⟨a1, rfl⟩ : ∃ a, r1 = some (.int a) := ⟨_, h1.1⟩
  refine V_aload_n C dlaw_900 rfl ?_
  refine V_arg h 1 hi dlaw_901 dlaw_902 dlaw_903 dlaw_904 dlaw_905 (by decide) ?_
  refine V_cn C hE dlaw_906 (c_X9_least (p0 := ys (i + 1)) hB.1.1 hB.2.1) kyX9_least q1254 (isoO 73 rfl rfl rfl rfl) rfl rfl (lw_hkc (by omega) (by omega)) ?_
  intro r2 u2 h2
  obtain ⟨rfl, hR2⟩ := K_least hR.1 h1 h2
  refine V_icmp_eq C dlaw_909 (fun _ => ?_) (fun ne => absurd rfl ne)
  exact hN u2 _ _ hR2 (by omega) (by omega)
theorem lawc_24 {x : Cx} {b Ln i k n : Nat} {ys : Nat → Int32} {E : En} {σ : Sg} (h : LX x b Ln ys E) (hi : i + 6 ≤ Ln) (hk : k ≤ 900) (hn : n ≤ 3000) (hR : RelN σ) (hN : LN x E b i k n) : V x (eA E) (AP x E σ) k n 914 (LL E b i) [] := by
  obtain ⟨C, hE, -, -, -, -, hdc, h0⟩ := id h
  refine V_aload_n C dlaw_914 rfl ?_
  refine V_cn C hE dlaw_915 (c_X8_pace hR.1.2.1.1) kyX8_pace q609 (isoO 60 rfl rfl rfl rfl) rfl rfl (lw_hkc (by omega) (by omega)) ?_
  intro r1 u1 h1
  have hu : ∀ c, 73 ≤ c → u1 c = σ c := fun c hc => X_74 h1 hc
  have hB := MB hR.1 hu
  obtain ⟨a1, rfl⟩ : ∃ a, r1 = some (.int a) := ⟨_, h1.1⟩
  refine V_aload_n C dlaw_918 rfl ?_
  refine V_cn C hE dlaw_919 (c_X9_pace hB.1.1 hB.2.1) kyX9_pace q1258 (isoO 73 rfl rfl rfl rfl) rfl rfl (lw_hkc (by omega) (by omega)) ?_
  intro r2 u2 h2
  obtain ⟨rfl, hR2⟩ := K_pace hR.1 h1 h2
  refine V_icmp_eq C dlaw_922 (fun _ => ?_) (fun ne => absurd rfl ne)
  exact hN u2 _ _ hR2 (by omega) (by omega)
theorem lawc_25 {x : Cx} {b Ln i k n : Nat} {ys : Nat → Int32} {E : En} {σ : Sg} (h : LX x b Ln ys E) (hi : i + 6 ≤ Ln) (hk : k ≤ 900) (hn : n ≤ 3000) (hR : RelN σ) (hN : LN x E b i k n) : V x (eA E) (AP x E σ) k n 927 (LL E b i) [] := by
  obtain ⟨C, hE, -, -, -, -, hdc, h0⟩ := id h
  refine V_aload_n C dlaw_927 rfl ?_
  refine V_arg h 1 hi dlaw_928 dlaw_929 dlaw_930 dlaw_931 dlaw_932 (by decide) ?_
  refine V_to (P' := fun H => PT E σ (xs x) H) (fun _ hP => ⟨hP, hdc⟩) rfl rfl ?_
  refine V_call C hE dlaw_933 (c_X8_thrift (p0 := ys (i + 1)) h0 hR.1.2.1.1 hR.1.2.1.q4) kyX8_thrift q613 (fun H hP => isoO (x := x) 60 rfl rfl rfl rfl H hP.1) ⟨Nat.le_of_ble_eq_true rfl, Nat.le_of_ble_eq_true rfl⟩ ⟨rfl, rfl⟩ rfl (lw_hcc (by omega) (by omega) (by decide) (by decide)) rfl (Nat.le_of_ble_eq_true rfl) PM_T (fun _ => PM_A) ?_
  intro r1 u1 h1
  have hu : ∀ c, 73 ≤ c → u1 c = σ c := fun c hc => X_74 h1 hc
  have hB := MB hR.1 hu
  obtain ⟨a1, rfl⟩ : ∃ a, r1 = some (.int a) := ⟨_, h1.1⟩
  refine V_aload_n C dlaw_936 rfl ?_
  refine V_arg h 1 hi dlaw_937 dlaw_938 dlaw_939 dlaw_940 dlaw_941 (by decide) ?_
  refine V_cn C hE dlaw_942 (c_X9_thrift (p0 := ys (i + 1)) hB.1.1 hB.2.1) kyX9_thrift q1262 (isoO 73 rfl rfl rfl rfl) rfl rfl (lw_hkc (by omega) (by omega)) ?_
  intro r2 u2 h2
  obtain ⟨rfl, hR2⟩ := K_thrift hR.1 h1 h2
  refine V_icmp_eq C dlaw_945 (fun _ => ?_) (fun ne => absurd rfl ne)
  exact hN u2 _ _ hR2 (by omega) (by omega)
theorem lawc_26 {x : Cx} {b Ln i k n : Nat} {ys : Nat → Int32} {E : En} {σ : Sg} (h : LX x b Ln ys E) (hi : i + 6 ≤ Ln) (hk : k ≤ 900) (hn : n ≤ 3000) (hR : RelN σ) (hN : LN x E b i k n) : V x (eA E) (AP x E σ) k n 950 (LL E b i) [] := by
  obtain ⟨C, hE, -, -, -, -, hdc, h0⟩ := id h
  refine V_aload_n C dlaw_950 rfl ?_
  refine V_cn C hE dlaw_951 (c_X8_middle) kyX8_middle q631 (isoO 60 rfl rfl rfl rfl) rfl rfl (lw_hkc (by omega) (by omega)) ?_
  intro r1 u1 h1
  have hu : ∀ c, 73 ≤ c → u1 c = σ c := fun c hc => X_74 h1 hc
  have hB := MB hR.1 hu
  obtain ⟨a1, rfl⟩ : ∃ a, r1 = some (.int a) := ⟨_, h1.1⟩
  refine V_aload_n C dlaw_954 rfl ?_
  refine V_cn C hE dlaw_955 (c_X9_middle hB.1.1) kyX9_middle q1266 (isoO 73 rfl rfl rfl rfl) rfl rfl (lw_hkc (by omega) (by omega)) ?_
  intro r2 u2 h2
  obtain ⟨rfl, hR2⟩ := K_middle hR.1 h1 h2
  refine V_icmp_eq C dlaw_958 (fun _ => ?_) (fun ne => absurd rfl ne)
  exact hN u2 _ _ hR2 (by omega) (by omega)
theorem lawc_27 {x : Cx} {b Ln i k n : Nat} {ys : Nat → Int32} {E : En} {σ : Sg} (h : LX x b Ln ys E) (hi : i + 6 ≤ Ln) (hk : k ≤ 900) (hn : n ≤ 3000) (hR : RelN σ) (hN : LN x E b i k n) : V x (eA E) (AP x E σ) k n 963 (LL E b i) [] := by
  obtain ⟨C, hE, -, -, -, -, hdc, h0⟩ := id h
  refine V_aload_n C dlaw_963 rfl ?_
  refine V_arg h 1 hi dlaw_964 dlaw_965 dlaw_966 dlaw_967 dlaw_968 (by decide) ?_
  refine V_cn C hE dlaw_969 (c_X8_calls (p0 := ys (i + 1)) hR.1.2.1.1) kyX8_calls q635 (isoO 60 rfl rfl rfl rfl) rfl rfl (lw_hkc (by omega) (by omega)) ?_
  intro r1 u1 h1
  have hu : ∀ c, 73 ≤ c → u1 c = σ c := fun c hc => X_74 h1 hc
  have hB := MB hR.1 hu
  obtain ⟨a1, rfl⟩ : ∃ a, r1 = some (.int a) := ⟨_, h1.1⟩
  refine V_aload_n C dlaw_972 rfl ?_
  refine V_arg h 1 hi dlaw_973 dlaw_974 dlaw_975 dlaw_976 dlaw_977 (by decide) ?_
  refine V_cn C hE dlaw_978 (c_X9_calls (p0 := ys (i + 1)) hB.1.1 hB.2.1.1) kyX9_calls q1270 (isoO 73 rfl rfl rfl rfl) rfl rfl (lw_hkc (by omega) (by omega)) ?_
  intro r2 u2 h2
  obtain ⟨rfl, hR2⟩ := K_calls hR.1 h1 h2
  refine V_icmp_eq C dlaw_981 (fun _ => ?_) (fun ne => absurd rfl ne)
  exact hN u2 _ _ hR2 (by omega) (by omega)
theorem lawc_28 {x : Cx} {b Ln i k n : Nat} {ys : Nat → Int32} {E : En} {σ : Sg} (h : LX x b Ln ys E) (hi : i + 6 ≤ Ln) (hk : k ≤ 900) (hn : n ≤ 3000) (hR : RelN σ) (hN : LN x E b i k n) : V x (eA E) (AP x E σ) k n 986 (LL E b i) [] := by
  obtain ⟨C, hE, -, -, -, -, hdc, h0⟩ := id h
  refine V_aload_n C dlaw_986 rfl ?_
  refine V_arg h 1 hi dlaw_987 dlaw_988 dlaw_989 dlaw_990 dlaw_991 (by decide) ?_
  refine V_cn C hE dlaw_992 (c_X8_seed (p0 := ys (i + 1))) kyX8_seed q650 (isoO 60 rfl rfl rfl rfl) rfl rfl (lw_hkc (by omega) (by omega)) ?_
  intro r1 u1 h1
  have hu : ∀ c, 73 ≤ c → u1 c = σ c := fun c hc => by rw [h1.2, us_n (by omega)]
  have hB := MB hR.1 hu
  obtain ⟨a1, rfl⟩ : ∃ a, r1 = some (.int a) := ⟨_, h1.1⟩
  refine V_aload_n C dlaw_995 rfl ?_
  refine V_arg h 1 hi dlaw_996 dlaw_997 dlaw_998 dlaw_999 dlaw_1000 (by decide) ?_
  refine V_cn C hE dlaw_1001 (c_X9_seed (p0 := ys (i + 1))) kyX9_seed q1282 (isoO 73 rfl rfl rfl rfl) rfl rfl (lw_hkc (by omega) (by omega)) ?_
  intro r2 u2 h2
  obtain ⟨rfl, hR2⟩ := K_seed hR.1 h1 h2
  refine V_icmp_eq C dlaw_1004 (fun _ => ?_) (fun ne => absurd rfl ne)
  exact hN u2 _ _ hR2 (by omega) (by omega)
theorem lawc_29 {x : Cx} {b Ln i k n : Nat} {ys : Nat → Int32} {E : En} {σ : Sg} (h : LX x b Ln ys E) (hi : i + 6 ≤ Ln) (hk : k ≤ 900) (hn : n ≤ 3000) (hR : RelN σ) (hN : LN x E b i k n) : V x (eA E) (AP x E σ) k n 1009 (LL E b i) [] := by
  obtain ⟨C, hE, -, -, -, -, hdc, h0⟩ := id h
  have hlf : ∃ n, n ≤ 120 ∧ σ 60 9 = nI n := by obtain ⟨n, hn, e, -⟩ := hR.1.len; exact ⟨n, hn, e⟩
  refine V_aload_n C dlaw_1009 rfl ?_
  refine V_arg h 1 hi dlaw_1010 dlaw_1011 dlaw_1012 dlaw_1013 dlaw_1014 (by decide) ?_
  refine V_arg h 2 hi dlaw_1015 dlaw_1016 dlaw_1017 dlaw_1018 dlaw_1019 (by decide) ?_
  refine V_cn C hE dlaw_1020 (c_X8_feed (p0 := ys (i + 1)) (p1 := ys (i + 2)) hlf) kyX8_feed q654 (isoO 60 rfl rfl rfl rfl) rfl rfl (lw_hkc (by omega) (by omega)) ?_
  intro r1 u1 h1
  have hu : ∀ c, 73 ≤ c → u1 c = σ c := Z_feed h1
  have hB := MB hR.1 hu
  obtain ⟨a1, rfl⟩ : ∃ a, r1 = some (.int a) := ⟨_, h1.1⟩
  refine V_aload_n C dlaw_1023 rfl ?_
  refine V_arg h 1 hi dlaw_1024 dlaw_1025 dlaw_1026 dlaw_1027 dlaw_1028 (by decide) ?_
  refine V_arg h 2 hi dlaw_1029 dlaw_1030 dlaw_1031 dlaw_1032 dlaw_1033 (by decide) ?_
  refine V_cn C hE dlaw_1034 (c_X9_feed (p0 := ys (i + 1)) (p1 := ys (i + 2)) hB.2.2.2) kyX9_feed q1286 (isoO 73 rfl rfl rfl rfl) rfl rfl (lw_hkc (by omega) (by omega)) ?_
  intro r2 u2 h2
  obtain ⟨rfl, hR2⟩ := K_feed hR.1 h1 h2 hu
  refine V_icmp_eq C dlaw_1037 (fun _ => ?_) (fun ne => absurd rfl ne)
  exact hN u2 _ _ hR2 (by omega) (by omega)
theorem lawc_30 {x : Cx} {b Ln i k n : Nat} {ys : Nat → Int32} {E : En} {σ : Sg} (h : LX x b Ln ys E) (hi : i + 6 ≤ Ln) (hk : k ≤ 900) (hn : n ≤ 3000) (hR : RelN σ) (hN : LN x E b i k n) : V x (eA E) (AP x E σ) k n 1042 (LL E b i) [] := by
  obtain ⟨C, hE, -, -, -, -, hdc, h0⟩ := id h
  refine V_aload_n C dlaw_1042 rfl ?_
  refine V_cn C hE dlaw_1043 (c_X8_wipe) kyX8_wipe q658 (isoO 60 rfl rfl rfl rfl) rfl rfl (lw_hkc (by omega) (by omega)) ?_
  intro r1 u1 h1
  have hu : ∀ c, 73 ≤ c → u1 c = σ c := fun c hc => by rw [h1.2, us_n (by omega)]
  have hB := MB hR.1 hu
  obtain ⟨a1, rfl⟩ : ∃ a, r1 = some (.int a) := ⟨_, h1.1⟩
  refine V_aload_n C dlaw_1046 rfl ?_
  refine V_cn C hE dlaw_1047 (c_X9_wipe) kyX9_wipe q1291 (isoO 73 rfl rfl rfl rfl) rfl rfl (lw_hkc (by omega) (by omega)) ?_
  intro r2 u2 h2
  obtain ⟨rfl, hR2⟩ := K_wipe hR.1 h1 h2
  refine V_icmp_eq C dlaw_1050 (fun _ => ?_) (fun ne => absurd rfl ne)
  exact hN u2 _ _ hR2 (by omega) (by omega)
theorem lawc_31 {x : Cx} {b Ln i k n : Nat} {ys : Nat → Int32} {E : En} {σ : Sg} (h : LX x b Ln ys E) (hi : i + 6 ≤ Ln) (hk : k ≤ 900) (hn : n ≤ 3000) (hR : RelN σ) (hN : LN x E b i k n) : V x (eA E) (AP x E σ) k n 1055 (LL E b i) [] := by
  obtain ⟨C, hE, -, -, -, -, hdc, h0⟩ := id h
  obtain ⟨nn, hnn, e9, e17⟩ := hR.1.len
  refine V_aload_n C dlaw_1055 rfl ?_
  refine V_cn C hE dlaw_1056 (c_X8_text e9 hnn) kyX8_text q662 (isoO 60 rfl rfl rfl rfl) rfl rfl (lw_hkc (by omega) (by omega)) ?_
  intro r1 u1 h1
  have hu : ∀ c, 73 ≤ c → u1 c = σ c := Z_text h1
  have hB := MB hR.1 hu
  have e17u : u1 73 17 = nI nn := by rw [hu 73 (by omega)]; exact e17
  obtain ⟨a1, rfl⟩ : ∃ a, r1 = some (.int a) := ⟨_, h1.1⟩
  refine V_aload_n C dlaw_1059 rfl ?_
  refine V_cn C hE dlaw_1060 (c_X9_text e17u hnn) kyX9_text q1295 (isoO 73 rfl rfl rfl rfl) rfl rfl (lw_hkc (by omega) (by omega)) ?_
  intro r2 u2 h2
  obtain ⟨rfl, hR2⟩ := K_text hR.1 e17 h1 h2 hu
  refine V_icmp_eq C dlaw_1063 (fun _ => ?_) (fun ne => absurd rfl ne)
  exact hN u2 _ _ hR2 (by omega) (by omega)
theorem lawc_32 {x : Cx} {b Ln i k n : Nat} {ys : Nat → Int32} {E : En} {σ : Sg} (h : LX x b Ln ys E) (hi : i + 6 ≤ Ln) (hk : k ≤ 900) (hn : n ≤ 3000) (hR : RelN σ) (hN : LN x E b i k n) : V x (eA E) (AP x E σ) k n 1068 (LL E b i) [] := by
  obtain ⟨C, hE, -, -, -, -, hdc, h0⟩ := id h
  refine V_aload_n C dlaw_1068 rfl ?_
  refine V_arg h 1 hi dlaw_1069 dlaw_1070 dlaw_1071 dlaw_1072 dlaw_1073 (by decide) ?_
  refine V_arg h 2 hi dlaw_1074 dlaw_1075 dlaw_1076 dlaw_1077 dlaw_1078 (by decide) ?_
  refine V_cn C hE dlaw_1079 (c_X8_hold (p0 := ys (i + 1)) (p1 := ys (i + 2))) kyX8_hold q789 (isoO 60 rfl rfl rfl rfl) rfl rfl (lw_hkc (by omega) (by omega)) ?_
  intro r1 u1 h1
  have hu : ∀ c, 73 ≤ c → u1 c = σ c := fun c hc => X_74 h1 hc
  have hB := MB hR.1 hu
  obtain ⟨a1, rfl⟩ : ∃ a, r1 = some (.int a) := ⟨_, h1.1⟩
  refine V_aload_n C dlaw_1082 rfl ?_
  refine V_arg h 1 hi dlaw_1083 dlaw_1084 dlaw_1085 dlaw_1086 dlaw_1087 (by decide) ?_
  refine V_arg h 2 hi dlaw_1088 dlaw_1089 dlaw_1090 dlaw_1091 dlaw_1092 (by decide) ?_
  refine V_cn C hE dlaw_1093 (c_X9_hold (p0 := ys (i + 1)) (p1 := ys (i + 2))) kyX9_hold q1366 (isoO 73 rfl rfl rfl rfl) rfl rfl (lw_hkc (by omega) (by omega)) ?_
  intro r2 u2 h2
  obtain ⟨rfl, hR2⟩ := K_hold hR.1 h1 h2
  refine V_icmp_eq C dlaw_1096 (fun _ => ?_) (fun ne => absurd rfl ne)
  exact hN u2 _ _ hR2 (by omega) (by omega)
theorem lawc_33 {x : Cx} {b Ln i k n : Nat} {ys : Nat → Int32} {E : En} {σ : Sg} (h : LX x b Ln ys E) (hi : i + 6 ≤ Ln) (hk : k ≤ 900) (hn : n ≤ 3000) (hR : RelN σ) (hN : LN x E b i k n) : V x (eA E) (AP x E σ) k n 1101 (LL E b i) [] := by
  obtain ⟨C, hE, -, -, -, -, hdc, h0⟩ := id h
  refine V_aload_n C dlaw_1101 rfl ?_
  refine V_arg h 1 hi dlaw_1102 dlaw_1103 dlaw_1104 dlaw_1105 dlaw_1106 (by decide) ?_
  refine V_arg h 2 hi dlaw_1107 dlaw_1108 dlaw_1109 dlaw_1110 dlaw_1111 (by decide) ?_
  refine V_cn C hE dlaw_1112 (c_X8_as (p0 := ys (i + 1)) (p1 := ys (i + 2))) kyX8_as q797 (isoO 60 rfl rfl rfl rfl) rfl rfl (lw_hkc (by omega) (by omega)) ?_
  intro r1 u1 h1
  have hu : ∀ c, 73 ≤ c → u1 c = σ c := fun c hc => X_74 h1 hc
  have hB := MB hR.1 hu
  obtain ⟨a1, rfl⟩ : ∃ a, r1 = some (.int a) := ⟨_, h1.1⟩
  refine V_aload_n C dlaw_1115 rfl ?_
  refine V_arg h 1 hi dlaw_1116 dlaw_1117 dlaw_1118 dlaw_1119 dlaw_1120 (by decide) ?_
  refine V_arg h 2 hi dlaw_1121 dlaw_1122 dlaw_1123 dlaw_1124 dlaw_1125 (by decide) ?_
  refine V_cn C hE dlaw_1126 (c_X9_as (p0 := ys (i + 1)) (p1 := ys (i + 2)) hB.1.2.2) kyX9_as q1370 (isoO 73 rfl rfl rfl rfl) rfl rfl (lw_hkc (by omega) (by omega)) ?_
  intro r2 u2 h2
  obtain ⟨rfl, hR2⟩ := K_as hR.1 h1 h2
  refine V_icmp_eq C dlaw_1129 (fun _ => ?_) (fun ne => absurd rfl ne)
  exact hN u2 _ _ hR2 (by omega) (by omega)
theorem lawc_34 {x : Cx} {b Ln i k n : Nat} {ys : Nat → Int32} {E : En} {σ : Sg} (h : LX x b Ln ys E) (hi : i + 6 ≤ Ln) (hk : k ≤ 900) (hn : n ≤ 3000) (hR : RelN σ) (hN : LN x E b i k n) : V x (eA E) (AP x E σ) k n 1134 (LL E b i) [] := by
  obtain ⟨C, hE, -, -, -, -, hdc, h0⟩ := id h
  refine V_aload_n C dlaw_1134 rfl ?_
  refine V_arg h 1 hi dlaw_1135 dlaw_1136 dlaw_1137 dlaw_1138 dlaw_1139 (by decide) ?_
  refine V_arg h 2 hi dlaw_1140 dlaw_1141 dlaw_1142 dlaw_1143 dlaw_1144 (by decide) ?_
  refine V_arg h 3 hi dlaw_1145 dlaw_1146 dlaw_1147 dlaw_1148 dlaw_1149 (by decide) ?_
  refine V_cn C hE dlaw_1150 (c_X8_sheet (p0 := ys (i + 1)) (p1 := ys (i + 2)) (p2 := ys (i + 3))) kyX8_sheet q806 (isoO 60 rfl rfl rfl rfl) rfl rfl (lw_hkc (by omega) (by omega)) ?_
  intro r1 u1 h1
  have hu : ∀ c, 73 ≤ c → u1 c = σ c := Z_sheet h1
  have hB := MB hR.1 hu
  obtain ⟨a1, rfl⟩ : ∃ a, r1 = some (.int a) := ⟨_, h1.1⟩
  refine V_aload_n C dlaw_1153 rfl ?_
  refine V_arg h 1 hi dlaw_1154 dlaw_1155 dlaw_1156 dlaw_1157 dlaw_1158 (by decide) ?_
  refine V_arg h 2 hi dlaw_1159 dlaw_1160 dlaw_1161 dlaw_1162 dlaw_1163 (by decide) ?_
  refine V_arg h 3 hi dlaw_1164 dlaw_1165 dlaw_1166 dlaw_1167 dlaw_1168 (by decide) ?_
  refine V_cn C hE dlaw_1169 (c_X9_sheet (p0 := ys (i + 1)) (p1 := ys (i + 2)) (p2 := ys (i + 3))) kyX9_sheet q1376 (isoO 73 rfl rfl rfl rfl) rfl rfl (lw_hkc (by omega) (by omega)) ?_
  intro r2 u2 h2
  obtain ⟨rfl, hR2⟩ := K_sheet hR.1 h1 h2 hu
  refine V_icmp_eq C dlaw_1172 (fun _ => ?_) (fun ne => absurd rfl ne)
  exact hN u2 _ _ hR2 (by omega) (by omega)
theorem lawc_35 {x : Cx} {b Ln i k n : Nat} {ys : Nat → Int32} {E : En} {σ : Sg} (h : LX x b Ln ys E) (hi : i + 6 ≤ Ln) (hk : k ≤ 900) (hn : n ≤ 3000) (hR : RelN σ) (hN : LN x E b i k n) : V x (eA E) (AP x E σ) k n 1177 (LL E b i) [] := by
  obtain ⟨C, hE, -, -, -, -, hdc, h0⟩ := id h
  refine V_aload_n C dlaw_1177 rfl ?_
  refine V_arg h 1 hi dlaw_1178 dlaw_1179 dlaw_1180 dlaw_1181 dlaw_1182 (by decide) ?_
  refine V_arg h 2 hi dlaw_1183 dlaw_1184 dlaw_1185 dlaw_1186 dlaw_1187 (by decide) ?_
  refine V_arg h 3 hi dlaw_1188 dlaw_1189 dlaw_1190 dlaw_1191 dlaw_1192 (by decide) ?_
  refine V_cn C hE dlaw_1193 (c_X8_write (p0 := ys (i + 1)) (p1 := ys (i + 2)) (p2 := ys (i + 3)) (ln_le hR.1)) kyX8_write q818 (isoO 60 rfl rfl rfl rfl) rfl rfl (lw_hkc (by omega) (by omega)) ?_
  intro r1 u1 h1
  have hu : ∀ c, 73 ≤ c → u1 c = σ c := Z_write h1
  have hB := MB hR.1 hu
  obtain ⟨a1, rfl⟩ : ∃ a, r1 = some (.int a) := ⟨_, h1.1⟩
  refine V_aload_n C dlaw_1196 rfl ?_
  refine V_arg h 1 hi dlaw_1197 dlaw_1198 dlaw_1199 dlaw_1200 dlaw_1201 (by decide) ?_
  refine V_arg h 2 hi dlaw_1202 dlaw_1203 dlaw_1204 dlaw_1205 dlaw_1206 (by decide) ?_
  refine V_arg h 3 hi dlaw_1207 dlaw_1208 dlaw_1209 dlaw_1210 dlaw_1211 (by decide) ?_
  refine V_cn C hE dlaw_1212 (c_X9_write (p0 := ys (i + 1)) (p1 := ys (i + 2)) (p2 := ys (i + 3)) hB.2.2.1) kyX9_write q1385 (isoO 73 rfl rfl rfl rfl) rfl rfl (lw_hkc (by omega) (by omega)) ?_
  intro r2 u2 h2
  obtain ⟨rfl, hR2⟩ := K_write hR h1 h2 hu
  refine V_icmp_eq C dlaw_1215 (fun _ => ?_) (fun ne => absurd rfl ne)
  exact hN u2 _ _ hR2 (by omega) (by omega)
theorem lawc_36 {x : Cx} {b Ln i k n : Nat} {ys : Nat → Int32} {E : En} {σ : Sg} (h : LX x b Ln ys E) (hi : i + 6 ≤ Ln) (hk : k ≤ 900) (hn : n ≤ 3000) (hR : RelN σ) (hN : LN x E b i k n) : V x (eA E) (AP x E σ) k n 1220 (LL E b i) [] := by
  obtain ⟨C, hE, -, -, -, -, hdc, h0⟩ := id h
  refine V_aload_n C dlaw_1220 rfl ?_
  refine V_arg h 1 hi dlaw_1221 dlaw_1222 dlaw_1223 dlaw_1224 dlaw_1225 (by decide) ?_
  refine V_arg h 2 hi dlaw_1226 dlaw_1227 dlaw_1228 dlaw_1229 dlaw_1230 (by decide) ?_
  refine V_arg h 3 hi dlaw_1231 dlaw_1232 dlaw_1233 dlaw_1234 dlaw_1235 (by decide) ?_
  refine V_arg h 4 hi dlaw_1236 dlaw_1237 dlaw_1238 dlaw_1239 dlaw_1240 (by decide) ?_
  refine V_arg h 5 hi dlaw_1241 dlaw_1242 dlaw_1243 dlaw_1244 dlaw_1245 (by decide) ?_
  refine V_cn C hE dlaw_1246 (c_X8_copy (p0 := ys (i + 1)) (p1 := ys (i + 2)) (p2 := ys (i + 3)) (p3 := ys (i + 4)) (p4 := ys (i + 5)) hR.1.ln8) kyX8_copy q834 (isoO 60 rfl rfl rfl rfl) rfl rfl (lw_hkc (by omega) (by omega)) ?_
  intro r1 u1 h1
  have hu : ∀ c, 73 ≤ c → u1 c = σ c := Z_copy h1
  have hB := MB hR.1 hu
  obtain ⟨a1, rfl⟩ : ∃ a, r1 = some (.int a) := ⟨_, h1.1⟩
  refine V_aload_n C dlaw_1249 rfl ?_
  refine V_arg h 1 hi dlaw_1250 dlaw_1251 dlaw_1252 dlaw_1253 dlaw_1254 (by decide) ?_
  refine V_arg h 2 hi dlaw_1255 dlaw_1256 dlaw_1257 dlaw_1258 dlaw_1259 (by decide) ?_
  refine V_arg h 3 hi dlaw_1260 dlaw_1261 dlaw_1262 dlaw_1263 dlaw_1264 (by decide) ?_
  refine V_arg h 4 hi dlaw_1265 dlaw_1266 dlaw_1267 dlaw_1268 dlaw_1269 (by decide) ?_
  refine V_arg h 5 hi dlaw_1270 dlaw_1271 dlaw_1272 dlaw_1273 dlaw_1274 (by decide) ?_
  refine V_cn C hE dlaw_1275 (c_X9_copy (p0 := ys (i + 1)) (p1 := ys (i + 2)) (p2 := ys (i + 3)) (p3 := ys (i + 4)) (p4 := ys (i + 5)) hB.2.2.1) kyX9_copy q1396 (isoO 73 rfl rfl rfl rfl) rfl rfl (lw_hkc (by omega) (by omega)) ?_
  intro r2 u2 h2
  obtain ⟨rfl, hR2⟩ := K_copy hR h1 h2 hu
  refine V_icmp_eq C dlaw_1278 (fun _ => ?_) (fun ne => absurd rfl ne)
  exact hN u2 _ _ hR2 (by omega) (by omega)
theorem lawc_37 {x : Cx} {b Ln i k n : Nat} {ys : Nat → Int32} {E : En} {σ : Sg} (h : LX x b Ln ys E) (hi : i + 6 ≤ Ln) (hk : k ≤ 900) (hn : n ≤ 3000) (hR : RelN σ) (hN : LN x E b i k n) : V x (eA E) (AP x E σ) k n 1283 (LL E b i) [] := by
  obtain ⟨C, hE, -, -, -, -, hdc, h0⟩ := id h
  refine V_aload_n C dlaw_1283 rfl ?_
  refine V_arg h 1 hi dlaw_1284 dlaw_1285 dlaw_1286 dlaw_1287 dlaw_1288 (by decide) ?_
  refine V_cn C hE dlaw_1289 (c_X8_load (p0 := ys (i + 1)) hR.1.ln8) kyX8_load q843 (isoO 60 rfl rfl rfl rfl) rfl rfl (lw_hkc (by omega) (by omega)) ?_
  intro r1 u1 h1
  have hu : ∀ c, 73 ≤ c → u1 c = σ c := fun c hc => X_74 h1 hc
  have hB := MB hR.1 hu
  obtain ⟨a1, rfl⟩ : ∃ a, r1 = some (.int a) := ⟨_, h1.1⟩
  refine V_aload_n C dlaw_1292 rfl ?_
  refine V_arg h 1 hi dlaw_1293 dlaw_1294 dlaw_1295 dlaw_1296 dlaw_1297 (by decide) ?_
  refine V_cn C hE dlaw_1298 (c_X9_load (p0 := ys (i + 1)) hB.2.2.1) kyX9_load q1400 (isoO 73 rfl rfl rfl rfl) rfl rfl (lw_hkc (by omega) (by omega)) ?_
  intro r2 u2 h2
  obtain ⟨rfl, hR2⟩ := K_load hR h1 h2
  refine V_icmp_eq C dlaw_1301 (fun _ => ?_) (fun ne => absurd rfl ne)
  exact hN u2 _ _ hR2 (by omega) (by omega)
theorem lawc_38 {x : Cx} {b Ln i k n : Nat} {ys : Nat → Int32} {E : En} {σ : Sg} (h : LX x b Ln ys E) (hi : i + 6 ≤ Ln) (hk : k ≤ 900) (hn : n ≤ 3000) (hR : RelN σ) (hN : LN x E b i k n) : V x (eA E) (AP x E σ) k n 1306 (LL E b i) [] := by
  obtain ⟨C, hE, -, -, -, -, hdc, h0⟩ := id h
  refine V_aload_n C dlaw_1306 rfl ?_
  refine V_arg h 1 hi dlaw_1307 dlaw_1308 dlaw_1309 dlaw_1310 dlaw_1311 (by decide) ?_
  refine V_arg h 2 hi dlaw_1312 dlaw_1313 dlaw_1314 dlaw_1315 dlaw_1316 (by decide) ?_
  refine V_cn C hE dlaw_1317 (c_X8_rounds (p0 := ys (i + 1)) (p1 := ys (i + 2)) hR.1.2.1.1 hR.1.ln8) kyX8_rounds q847 (isoO 60 rfl rfl rfl rfl) rfl rfl (lw_hkc (by omega) (by omega)) ?_
  intro r1 u1 h1
  have hu : ∀ c, 73 ≤ c → u1 c = σ c := fun c hc => X_74 h1 hc
  have hB := MB hR.1 hu
  obtain ⟨a1, rfl⟩ : ∃ a, r1 = some (.int a) := ⟨_, h1.1⟩
  refine V_aload_n C dlaw_1320 rfl ?_
  refine V_arg h 1 hi dlaw_1321 dlaw_1322 dlaw_1323 dlaw_1324 dlaw_1325 (by decide) ?_
  refine V_arg h 2 hi dlaw_1326 dlaw_1327 dlaw_1328 dlaw_1329 dlaw_1330 (by decide) ?_
  refine V_cn C hE dlaw_1331 (c_X9_rounds (p0 := ys (i + 1)) (p1 := ys (i + 2)) hB.1.1 hB.2.1 hB.2.2.1) kyX9_rounds q1404 (isoO 73 rfl rfl rfl rfl) rfl rfl (lw_hkc (by omega) (by omega)) ?_
  intro r2 u2 h2
  obtain ⟨rfl, hR2⟩ := K_rounds hR h1 h2
  refine V_icmp_eq C dlaw_1334 (fun _ => ?_) (fun ne => absurd rfl ne)
  exact hN u2 _ _ hR2 (by omega) (by omega)
theorem lawc_39 {x : Cx} {b Ln i k n : Nat} {ys : Nat → Int32} {E : En} {σ : Sg} (h : LX x b Ln ys E) (hi : i + 6 ≤ Ln) (hk : k ≤ 900) (hn : n ≤ 3000) (hR : RelN σ) (hN : LN x E b i k n) : V x (eA E) (AP x E σ) k n 1339 (LL E b i) [] := by
  obtain ⟨C, hE, -, -, -, -, hdc, h0⟩ := id h
  refine V_aload_n C dlaw_1339 rfl ?_
  refine V_arg h 1 hi dlaw_1340 dlaw_1341 dlaw_1342 dlaw_1343 dlaw_1344 (by decide) ?_
  refine V_arg h 2 hi dlaw_1345 dlaw_1346 dlaw_1347 dlaw_1348 dlaw_1349 (by decide) ?_
  refine V_to (P' := fun H => PT E σ (xs x) H) (fun _ hP => ⟨hP, hdc⟩) rfl rfl ?_
  refine V_call C hE dlaw_1350 (c_X8_diary (p0 := ys (i + 1)) (p1 := ys (i + 2)) h0 hR.1.2.1.1 hR.1.2.1.q4 hR.1.ln8) kyX8_diary q855 (fun H hP => isoO (x := x) 60 rfl rfl rfl rfl H hP.1) ⟨Nat.le_of_ble_eq_true rfl, Nat.le_of_ble_eq_true rfl⟩ ⟨rfl, rfl⟩ rfl (lw_hcc (by omega) (by omega) (by decide) (by decide)) rfl (Nat.le_of_ble_eq_true rfl) PM_T (fun _ => PM_A) ?_
  intro r1 u1 h1
  have hu : ∀ c, 73 ≤ c → u1 c = σ c := fun c hc => X_74 h1 hc
  have hB := MB hR.1 hu
  obtain ⟨a1, rfl⟩ : ∃ a, r1 = some (.int a) := ⟨_, h1.1⟩
  refine V_aload_n C dlaw_1353 rfl ?_
  refine V_arg h 1 hi dlaw_1354 dlaw_1355 dlaw_1356 dlaw_1357 dlaw_1358 (by decide) ?_
  refine V_arg h 2 hi dlaw_1359 dlaw_1360 dlaw_1361 dlaw_1362 dlaw_1363 (by decide) ?_
  refine V_cn C hE dlaw_1364 (c_X9_diary (p0 := ys (i + 1)) (p1 := ys (i + 2)) hB.1.1 hB.2.1 hB.2.2.1) kyX9_diary q1408 (isoO 73 rfl rfl rfl rfl) rfl rfl (lw_hkc (by omega) (by omega)) ?_
  intro r2 u2 h2
  obtain ⟨rfl, hR2⟩ := K_diary hR h1 h2
  refine V_icmp_eq C dlaw_1367 (fun _ => ?_) (fun ne => absurd rfl ne)
  exact hN u2 _ _ hR2 (by omega) (by omega)
theorem lawc_40 {x : Cx} {b Ln i k n : Nat} {ys : Nat → Int32} {E : En} {σ : Sg} (h : LX x b Ln ys E) (hi : i + 6 ≤ Ln) (hk : k ≤ 900) (hn : n ≤ 3000) (hR : RelN σ) (hN : LN x E b i k n) : V x (eA E) (AP x E σ) k n 1372 (LL E b i) [] := by
  obtain ⟨C, hE, -, -, -, -, hdc, h0⟩ := id h
  refine V_aload_n C dlaw_1372 rfl ?_
  refine V_arg h 1 hi dlaw_1373 dlaw_1374 dlaw_1375 dlaw_1376 dlaw_1377 (by decide) ?_
  refine V_arg h 2 hi dlaw_1378 dlaw_1379 dlaw_1380 dlaw_1381 dlaw_1382 (by decide) ?_
  refine V_cn C hE dlaw_1383 (c_X8_judge (p0 := ys (i + 1)) (p1 := ys (i + 2)) hR.1.2.1.1 hR.1.ln8) kyX8_judge q873 (isoO 60 rfl rfl rfl rfl) rfl rfl (lw_hkc (by omega) (by omega)) ?_
  intro r1 u1 h1
  have hu : ∀ c, 73 ≤ c → u1 c = σ c := fun c hc => X_74 h1 hc
  have hB := MB hR.1 hu
  obtain ⟨a1, rfl⟩ : ∃ a, r1 = some (.int a) := ⟨_, h1.1⟩
  refine V_aload_n C dlaw_1386 rfl ?_
  refine V_arg h 1 hi dlaw_1387 dlaw_1388 dlaw_1389 dlaw_1390 dlaw_1391 (by decide) ?_
  refine V_arg h 2 hi dlaw_1392 dlaw_1393 dlaw_1394 dlaw_1395 dlaw_1396 (by decide) ?_
  refine V_cn C hE dlaw_1397 (c_X9_judge (p0 := ys (i + 1)) (p1 := ys (i + 2)) hB.1.1 hB.1.hQ hB.2.1.1 hB.2.2.1) kyX9_judge q1412 (isoO 73 rfl rfl rfl rfl) rfl rfl (lw_hkc (by omega) (by omega)) ?_
  intro r2 u2 h2
  obtain ⟨rfl, hR2⟩ := K_judge hR h1 h2
  refine V_icmp_eq C dlaw_1400 (fun _ => ?_) (fun ne => absurd rfl ne)
  exact hN u2 _ _ hR2 (by omega) (by omega)
theorem lawc_41 {x : Cx} {b Ln i k n : Nat} {ys : Nat → Int32} {E : En} {σ : Sg} (h : LX x b Ln ys E) (hi : i + 6 ≤ Ln) (hk : k ≤ 900) (hn : n ≤ 3000) (hR : RelN σ) (hN : LN x E b i k n) : V x (eA E) (AP x E σ) k n 1405 (LL E b i) [] := by
  obtain ⟨C, hE, -, -, -, -, hdc, h0⟩ := id h
  refine V_aload_n C dlaw_1405 rfl ?_
  refine V_cn C hE dlaw_1406 (c_X8_image) kyX8_image q877 (isoO 60 rfl rfl rfl rfl) rfl rfl (lw_hkc (by omega) (by omega)) ?_
  intro r1 u1 h1
  have hu : ∀ c, 73 ≤ c → u1 c = σ c := fun c hc => by rw [h1.2 c (by omega), us_n (by omega), us_n (by omega)]
  have hB := MB hR.1 hu
  obtain ⟨a1, rfl⟩ : ∃ a, r1 = some (.int a) := ⟨_, h1.1⟩
  refine V_aload_n C dlaw_1409 rfl ?_
  refine V_cn C hE dlaw_1410 (c_X9_image) kyX9_image q1416 (isoO 73 rfl rfl rfl rfl) rfl rfl (lw_hkc (by omega) (by omega)) ?_
  intro r2 u2 h2
  obtain ⟨rfl, hR2⟩ := K_image hR.1 h1 h2
  refine V_icmp_eq C dlaw_1413 (fun _ => ?_) (fun ne => absurd rfl ne)
  exact hN u2 _ _ hR2 (by omega) (by omega)
theorem lawc_42 {x : Cx} {b Ln i k n : Nat} {ys : Nat → Int32} {E : En} {σ : Sg} (h : LX x b Ln ys E) (hi : i + 6 ≤ Ln) (hk : k ≤ 900) (hn : n ≤ 3000) (hR : RelN σ) (hN : LN x E b i k n) : V x (eA E) (AP x E σ) k n 1418 (LL E b i) [] := by
  obtain ⟨C, hE, -, -, -, -, hdc, h0⟩ := id h
  refine V_aload_n C dlaw_1418 rfl ?_
  refine V_cn C hE dlaw_1419 (c_X8_undo) kyX8_undo q881 (isoO 60 rfl rfl rfl rfl) rfl rfl (lw_hkc (by omega) (by omega)) ?_
  intro r1 u1 h1
  have hu : ∀ c, 73 ≤ c → u1 c = σ c := Z_undo h1
  have hB := MB hR.1 hu
  obtain ⟨a1, rfl⟩ : ∃ a, r1 = some (.int a) := ⟨_, h1.1⟩
  refine V_aload_n C dlaw_1422 rfl ?_
  refine V_cn C hE dlaw_1423 (c_X9_undo) kyX9_undo q1420 (isoO 73 rfl rfl rfl rfl) rfl rfl (lw_hkc (by omega) (by omega)) ?_
  intro r2 u2 h2
  obtain ⟨rfl, hR2⟩ := K_undo hR.1 h1 h2 hu
  refine V_icmp_eq C dlaw_1426 (fun _ => ?_) (fun ne => absurd rfl ne)
  exact hN u2 _ _ hR2 (by omega) (by omega)
theorem lawc_43 {x : Cx} {b Ln i k n : Nat} {ys : Nat → Int32} {E : En} {σ : Sg} (h : LX x b Ln ys E) (hi : i + 6 ≤ Ln) (hk : k ≤ 900) (hn : n ≤ 3000) (hR : RelN σ) (hN : LN x E b i k n) : V x (eA E) (AP x E σ) k n 1431 (LL E b i) [] := by
  obtain ⟨C, hE, -, -, -, -, hdc, h0⟩ := id h
  refine V_aload_n C dlaw_1431 rfl ?_
  refine V_cn C hE dlaw_1432 (c_X8_tear) kyX8_tear q885 (isoO 60 rfl rfl rfl rfl) rfl rfl (lw_hkc (by omega) (by omega)) ?_
  intro r1 u1 h1
  have hu : ∀ c, 73 ≤ c → u1 c = σ c := fun c hc => by rw [h1.2 c (by omega), us_n (by omega)]
  have hB := MB hR.1 hu
  obtain ⟨a1, rfl⟩ : ∃ a, r1 = some (.int a) := ⟨_, h1.1⟩
  refine V_aload_n C dlaw_1435 rfl ?_
  refine V_cn C hE dlaw_1436 (c_X9_tear) kyX9_tear q1424 (isoO 73 rfl rfl rfl rfl) rfl rfl (lw_hkc (by omega) (by omega)) ?_
  intro r2 u2 h2
  obtain ⟨rfl, hR2⟩ := K_tear hR.1 h1 h2
  refine V_icmp_eq C dlaw_1439 (fun _ => ?_) (fun ne => absurd rfl ne)
  exact hN u2 _ _ hR2 (by omega) (by omega)
theorem lawc_44 {x : Cx} {b Ln i k n : Nat} {ys : Nat → Int32} {E : En} {σ : Sg} (h : LX x b Ln ys E) (hi : i + 6 ≤ Ln) (hk : k ≤ 900) (hn : n ≤ 3000) (hR : RelN σ) (hN : LN x E b i k n) : V x (eA E) (AP x E σ) k n 1444 (LL E b i) [] := by
  obtain ⟨C, hE, -, -, -, -, hdc, h0⟩ := id h
  refine V_aload_n C dlaw_1444 rfl ?_
  refine V_arg h 1 hi dlaw_1445 dlaw_1446 dlaw_1447 dlaw_1448 dlaw_1449 (by decide) ?_
  refine V_cn C hE dlaw_1450 (c_X8_count (p0 := ys (i + 1))) kyX8_count q889 (isoO 60 rfl rfl rfl rfl) rfl rfl (lw_hkc (by omega) (by omega)) ?_
  intro r1 u1 h1
  have hu : ∀ c, 73 ≤ c → u1 c = σ c := fun c hc => X_74 h1 hc
  have hB := MB hR.1 hu
  obtain ⟨a1, rfl⟩ : ∃ a, r1 = some (.int a) := ⟨_, h1.1⟩
  refine V_aload_n C dlaw_1453 rfl ?_
  refine V_arg h 1 hi dlaw_1454 dlaw_1455 dlaw_1456 dlaw_1457 dlaw_1458 (by decide) ?_
  refine V_cn C hE dlaw_1459 (c_X9_count (p0 := ys (i + 1)) hB.1.2.2) kyX9_count q1428 (isoO 73 rfl rfl rfl rfl) rfl rfl (lw_hkc (by omega) (by omega)) ?_
  intro r2 u2 h2
  obtain ⟨rfl, hR2⟩ := K_count hR.1 h1 h2
  refine V_icmp_eq C dlaw_1462 (fun _ => ?_) (fun ne => absurd rfl ne)
  exact hN u2 _ _ hR2 (by omega) (by omega)
theorem lawc_45 {x : Cx} {b Ln i k n : Nat} {ys : Nat → Int32} {E : En} {σ : Sg} (h : LX x b Ln ys E) (hi : i + 6 ≤ Ln) (hk : k ≤ 900) (hn : n ≤ 3000) (hR : RelN σ) (hN : LN x E b i k n) : V x (eA E) (AP x E σ) k n 1467 (LL E b i) [] := by
  obtain ⟨C, hE, -, -, -, -, hdc, h0⟩ := id h
  refine V_aload_n C dlaw_1467 rfl ?_
  refine V_arg h 1 hi dlaw_1468 dlaw_1469 dlaw_1470 dlaw_1471 dlaw_1472 (by decide) ?_
  refine V_cn C hE dlaw_1473 (c_X8_status (p0 := ys (i + 1))) kyX8_status q897 (isoO 60 rfl rfl rfl rfl) rfl rfl (lw_hkc (by omega) (by omega)) ?_
  intro r1 u1 h1
  have hu : ∀ c, 73 ≤ c → u1 c = σ c := fun c hc => X_74 h1 hc
  have hB := MB hR.1 hu
  obtain ⟨a1, rfl⟩ : ∃ a, r1 = some (.int a) := ⟨_, h1.1⟩
  refine V_aload_n C dlaw_1476 rfl ?_
  refine V_arg h 1 hi dlaw_1477 dlaw_1478 dlaw_1479 dlaw_1480 dlaw_1481 (by decide) ?_
  refine V_cn C hE dlaw_1482 (c_X9_status (p0 := ys (i + 1))) kyX9_status q1436 (isoO 73 rfl rfl rfl rfl) rfl rfl (lw_hkc (by omega) (by omega)) ?_
  intro r2 u2 h2
  obtain ⟨rfl, hR2⟩ := K_status hR.1 h1 h2
  refine V_icmp_eq C dlaw_1485 (fun _ => ?_) (fun ne => absurd rfl ne)
  exact hN u2 _ _ hR2 (by omega) (by omega)
