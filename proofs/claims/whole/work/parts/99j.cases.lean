/-! ===== the law's cases ===== -/
theorem lcmp_self (v : Int64) : lg_cmp v v = 0 := by
  unfold lg_cmp
  rw [if_neg (by simp), if_pos rfl]
theorem lc_0 {G : GT} {b L : Nat} {xs : Nat → Int32} {d N : Nat} {σ : ST} {μ : SL} (hL : L ≤ 3072) (hN : 6 * N + 6 ≤ L) (hI : INV σ μ N) (K : ∀ (s : ST) (m : SL), INV s m (N + 1) → BL G b L xs (d + 41) 1699 (lN0 G b N) [] (sh G s m)) : BL G b L xs (d + 41) 248 (lN0 G b N) [] (sh G σ μ) := by
  refine b_aload_n (kk := 1) dL_law_248 rfl ?_
  refine l_arg 1 dL_law_249 dL_law_250 dL_law_251 (by decide) dL_law_252 dL_law_253 (by omega) hL ?_
  refine l_arg 2 dL_law_254 dL_law_255 dL_law_256 (by decide) dL_law_257 dL_law_258 (by omega) hL ?_
  refine l_arg 3 dL_law_259 dL_law_260 dL_law_261 (by decide) dL_law_262 dL_law_263 (by omega) hL ?_
  refine l_arg 4 dL_law_264 dL_law_265 dL_law_266 (by decide) dL_law_267 dL_law_268 (by omega) hL ?_
  refine l_arg 5 dL_law_269 dL_law_270 dL_law_271 (by decide) dL_law_272 dL_law_273 (by omega) hL ?_
  refine g_callVp [.int (xs (6 * N + 1)), .int (xs (6 * N + 2)), .int (xs (6 * N + 3)), .int (xs (6 * N + 4)), .int (xs (6 * N + 5))] dL_law_274 kX11_feed lL_13 a0 rfl rfl (p_feed (d := d) hI) rfl rfl (Nat.le_of_ble_eq_true rfl) (fun r h' hp => ?_)
  obtain ⟨v, s1, μ1, rfl, rfl, h2⟩ := hp
  refine b_aload_n (kk := 2) dL_law_277 rfl ?_
  refine l_arg 1 dL_law_278 dL_law_279 dL_law_280 (by decide) dL_law_281 dL_law_282 (by omega) hL ?_
  refine l_arg 2 dL_law_283 dL_law_284 dL_law_285 (by decide) dL_law_286 dL_law_287 (by omega) hL ?_
  refine l_arg 3 dL_law_288 dL_law_289 dL_law_290 (by decide) dL_law_291 dL_law_292 (by omega) hL ?_
  refine l_arg 4 dL_law_293 dL_law_294 dL_law_295 (by decide) dL_law_296 dL_law_297 (by omega) hL ?_
  refine l_arg 5 dL_law_298 dL_law_299 dL_law_300 (by decide) dL_law_301 dL_law_302 (by omega) hL ?_
  refine g_callVp [.int (xs (6 * N + 1)), .int (xs (6 * N + 2)), .int (xs (6 * N + 3)), .int (xs (6 * N + 4)), .int (xs (6 * N + 5))] dL_law_303 kX12_feed lL_17 a77 rfl rfl h2 rfl rfl (Nat.le_of_ble_eq_true rfl) (fun r h' hp => ?_)
  obtain ⟨rfl, s2, μ2, rfl, hI2⟩ := hp
  exact b_icmp_eq_t 1699 dL_law_306 (by decide) rfl (K s2 μ2 hI2)
theorem lc_1 {G : GT} {b L : Nat} {xs : Nat → Int32} {d N : Nat} {σ : ST} {μ : SL} (hL : L ≤ 3072) (hN : 6 * N + 6 ≤ L) (hI : INV σ μ N) (K : ∀ (s : ST) (m : SL), INV s m (N + 1) → BL G b L xs (d + 41) 1699 (lN0 G b N) [] (sh G s m)) : BL G b L xs (d + 41) 311 (lN0 G b N) [] (sh G σ μ) := by
  refine b_aload_n (kk := 1) dL_law_311 rfl ?_
  refine l_arg 1 dL_law_312 dL_law_313 dL_law_314 (by decide) dL_law_315 dL_law_316 (by omega) hL ?_
  refine g_callVp [.int (xs (6 * N + 1))] dL_law_317 kX11_land lL_18 a0 rfl rfl (p_land (d := d) hI) rfl rfl (Nat.le_of_ble_eq_true rfl) (fun r h' hp => ?_)
  obtain ⟨v, s1, μ1, rfl, rfl, h2⟩ := hp
  refine b_aload_n (kk := 2) dL_law_320 rfl ?_
  refine l_arg 1 dL_law_321 dL_law_322 dL_law_323 (by decide) dL_law_324 dL_law_325 (by omega) hL ?_
  refine g_callVp [.int (xs (6 * N + 1))] dL_law_326 kX12_land lL_22 a77 rfl rfl h2 rfl rfl (Nat.le_of_ble_eq_true rfl) (fun r h' hp => ?_)
  obtain ⟨rfl, s2, μ2, rfl, hI2⟩ := hp
  exact b_icmp_eq_t 1699 dL_law_329 (by decide) rfl (K s2 μ2 hI2)
theorem lc_2 {G : GT} {b L : Nat} {xs : Nat → Int32} {d N : Nat} {σ : ST} {μ : SL} (hL : L ≤ 3072) (hN : 6 * N + 6 ≤ L) (hI : INV σ μ N) (K : ∀ (s : ST) (m : SL), INV s m (N + 1) → BL G b L xs (d + 41) 1699 (lN0 G b N) [] (sh G s m)) : BL G b L xs (d + 41) 334 (lN0 G b N) [] (sh G σ μ) := by
  refine b_aload_n (kk := 1) dL_law_334 rfl ?_
  refine l_arg 1 dL_law_335 dL_law_336 dL_law_337 (by decide) dL_law_338 dL_law_339 (by omega) hL ?_
  refine g_callVp [.int (xs (6 * N + 1))] dL_law_340 kX11_fault lL_23 a0 rfl rfl (p_fault (d := d) hI) rfl rfl (Nat.le_of_ble_eq_true rfl) (fun r h' hp => ?_)
  obtain ⟨v, s1, μ1, rfl, rfl, h2⟩ := hp
  refine b_aload_n (kk := 2) dL_law_343 rfl ?_
  refine l_arg 1 dL_law_344 dL_law_345 dL_law_346 (by decide) dL_law_347 dL_law_348 (by omega) hL ?_
  refine g_callVp [.int (xs (6 * N + 1))] dL_law_349 kX12_fault lL_26 a77 rfl rfl h2 rfl rfl (Nat.le_of_ble_eq_true rfl) (fun r h' hp => ?_)
  obtain ⟨rfl, s2, μ2, rfl, hI2⟩ := hp
  exact b_icmp_eq_t 1699 dL_law_352 (by decide) rfl (K s2 μ2 hI2)
theorem lc_3 {G : GT} {b L : Nat} {xs : Nat → Int32} {d N : Nat} {σ : ST} {μ : SL} (hL : L ≤ 3072) (hN : 6 * N + 6 ≤ L) (hI : INV σ μ N) (K : ∀ (s : ST) (m : SL), INV s m (N + 1) → BL G b L xs (d + 41) 1699 (lN0 G b N) [] (sh G s m)) : BL G b L xs (d + 41) 357 (lN0 G b N) [] (sh G σ μ) := by
  refine b_aload_n (kk := 1) dL_law_357 rfl ?_
  refine l_arg 1 dL_law_358 dL_law_359 dL_law_360 (by decide) dL_law_361 dL_law_362 (by omega) hL ?_
  refine l_arg 2 dL_law_363 dL_law_364 dL_law_365 (by decide) dL_law_366 dL_law_367 (by omega) hL ?_
  refine g_callVp [.int (xs (6 * N + 1)), .int (xs (6 * N + 2))] dL_law_368 kX11_world lL_27 a0 rfl rfl (p_world (d := d) hI) rfl rfl (Nat.le_of_ble_eq_true rfl) (fun r h' hp => ?_)
  obtain ⟨v, s1, μ1, rfl, rfl, h2⟩ := hp
  refine b_aload_n (kk := 2) dL_law_371 rfl ?_
  refine l_arg 1 dL_law_372 dL_law_373 dL_law_374 (by decide) dL_law_375 dL_law_376 (by omega) hL ?_
  refine l_arg 2 dL_law_377 dL_law_378 dL_law_379 (by decide) dL_law_380 dL_law_381 (by omega) hL ?_
  refine g_callVp [.int (xs (6 * N + 1)), .int (xs (6 * N + 2))] dL_law_382 kX12_world lL_31 a77 rfl rfl h2 rfl rfl (Nat.le_of_ble_eq_true rfl) (fun r h' hp => ?_)
  obtain ⟨rfl, s2, μ2, rfl, hI2⟩ := hp
  exact b_icmp_eq_t 1699 dL_law_385 (by decide) rfl (K s2 μ2 hI2)
theorem lc_4 {G : GT} {b L : Nat} {xs : Nat → Int32} {d N : Nat} {σ : ST} {μ : SL} (hL : L ≤ 3072) (hN : 6 * N + 6 ≤ L) (hI : INV σ μ N) (K : ∀ (s : ST) (m : SL), INV s m (N + 1) → BL G b L xs (d + 41) 1699 (lN0 G b N) [] (sh G s m)) : BL G b L xs (d + 41) 390 (lN0 G b N) [] (sh G σ μ) := by
  refine b_aload_n (kk := 1) dL_law_390 rfl ?_
  refine l_arg 1 dL_law_391 dL_law_392 dL_law_393 (by decide) dL_law_394 dL_law_395 (by omega) hL ?_
  refine g_callVp [.int (xs (6 * N + 1))] dL_law_396 kX11_fact lL_32 a0 rfl rfl (p_fact (d := d) hI) rfl rfl (Nat.le_of_ble_eq_true rfl) (fun r h' hp => ?_)
  obtain ⟨v, s1, μ1, rfl, rfl, h2⟩ := hp
  refine b_aload_n (kk := 2) dL_law_399 rfl ?_
  refine l_arg 1 dL_law_400 dL_law_401 dL_law_402 (by decide) dL_law_403 dL_law_404 (by omega) hL ?_
  refine g_callVp [.int (xs (6 * N + 1))] dL_law_405 kX12_fact lL_35 a77 rfl rfl h2 rfl rfl (Nat.le_of_ble_eq_true rfl) (fun r h' hp => ?_)
  obtain ⟨rfl, s2, μ2, rfl, hI2⟩ := hp
  exact b_icmp_eq_t 1699 dL_law_408 (by decide) rfl (K s2 μ2 hI2)
theorem lc_5 {G : GT} {b L : Nat} {xs : Nat → Int32} {d N : Nat} {σ : ST} {μ : SL} (hL : L ≤ 3072) (hN : 6 * N + 6 ≤ L) (hI : INV σ μ N) (K : ∀ (s : ST) (m : SL), INV s m (N + 1) → BL G b L xs (d + 41) 1699 (lN0 G b N) [] (sh G s m)) : BL G b L xs (d + 41) 413 (lN0 G b N) [] (sh G σ μ) := by
  refine b_aload_n (kk := 1) dL_law_413 rfl ?_
  refine l_arg 1 dL_law_414 dL_law_415 dL_law_416 (by decide) dL_law_417 dL_law_418 (by omega) hL ?_
  refine l_arg 2 dL_law_419 dL_law_420 dL_law_421 (by decide) dL_law_422 dL_law_423 (by omega) hL ?_
  refine g_callVp [.int (xs (6 * N + 1)), .int (xs (6 * N + 2))] dL_law_424 kX11_person lL_36 a0 rfl rfl (p_person (d := d) hI) rfl rfl (Nat.le_of_ble_eq_true rfl) (fun r h' hp => ?_)
  obtain ⟨v, s1, μ1, rfl, rfl, h2⟩ := hp
  refine b_aload_n (kk := 2) dL_law_427 rfl ?_
  refine l_arg 1 dL_law_428 dL_law_429 dL_law_430 (by decide) dL_law_431 dL_law_432 (by omega) hL ?_
  refine l_arg 2 dL_law_433 dL_law_434 dL_law_435 (by decide) dL_law_436 dL_law_437 (by omega) hL ?_
  refine g_callVp [.int (xs (6 * N + 1)), .int (xs (6 * N + 2))] dL_law_438 kX12_person lL_39 a77 rfl rfl h2 rfl rfl (Nat.le_of_ble_eq_true rfl) (fun r h' hp => ?_)
  obtain ⟨rfl, s2, μ2, rfl, hI2⟩ := hp
  exact b_icmp_eq_t 1699 dL_law_441 (by decide) rfl (K s2 μ2 hI2)
theorem lc_6 {G : GT} {b L : Nat} {xs : Nat → Int32} {d N : Nat} {σ : ST} {μ : SL} (hL : L ≤ 3072) (hN : 6 * N + 6 ≤ L) (hI : INV σ μ N) (K : ∀ (s : ST) (m : SL), INV s m (N + 1) → BL G b L xs (d + 41) 1699 (lN0 G b N) [] (sh G s m)) : BL G b L xs (d + 41) 446 (lN0 G b N) [] (sh G σ μ) := by
  refine b_aload_n (kk := 1) dL_law_446 rfl ?_
  refine l_arg 1 dL_law_447 dL_law_448 dL_law_449 (by decide) dL_law_450 dL_law_451 (by omega) hL ?_
  refine g_callVp [.int (xs (6 * N + 1))] dL_law_452 kX11_hints lL_40 a0 rfl rfl (p_hints (d := d) hI) rfl rfl (Nat.le_of_ble_eq_true rfl) (fun r h' hp => ?_)
  obtain ⟨v, s1, μ1, rfl, rfl, h2⟩ := hp
  refine b_aload_n (kk := 2) dL_law_455 rfl ?_
  refine l_arg 1 dL_law_456 dL_law_457 dL_law_458 (by decide) dL_law_459 dL_law_460 (by omega) hL ?_
  refine g_callVp [.int (xs (6 * N + 1))] dL_law_461 kX12_hints lL_43 a77 rfl rfl h2 rfl rfl (Nat.le_of_ble_eq_true rfl) (fun r h' hp => ?_)
  obtain ⟨rfl, s2, μ2, rfl, hI2⟩ := hp
  exact b_icmp_eq_t 1699 dL_law_464 (by decide) rfl (K s2 μ2 hI2)
theorem lc_7 {G : GT} {b L : Nat} {xs : Nat → Int32} {d N : Nat} {σ : ST} {μ : SL} (hL : L ≤ 3072) (hN : 6 * N + 6 ≤ L) (hI : INV σ μ N) (K : ∀ (s : ST) (m : SL), INV s m (N + 1) → BL G b L xs (d + 41) 1699 (lN0 G b N) [] (sh G s m)) : BL G b L xs (d + 41) 469 (lN0 G b N) [] (sh G σ μ) := by
  refine b_aload_n (kk := 1) dL_law_469 rfl ?_
  refine l_arg 1 dL_law_470 dL_law_471 dL_law_472 (by decide) dL_law_473 dL_law_474 (by omega) hL ?_
  refine l_arg 2 dL_law_475 dL_law_476 dL_law_477 (by decide) dL_law_478 dL_law_479 (by omega) hL ?_
  refine g_callVp [.int (xs (6 * N + 1)), .int (xs (6 * N + 2))] dL_law_480 kX11_knows lL_44 a0 rfl rfl (p_knows (d := d) hI) rfl rfl (Nat.le_of_ble_eq_true rfl) (fun r h' hp => ?_)
  obtain ⟨v, s1, μ1, rfl, rfl, h2⟩ := hp
  refine b_aload_n (kk := 2) dL_law_483 rfl ?_
  refine l_arg 1 dL_law_484 dL_law_485 dL_law_486 (by decide) dL_law_487 dL_law_488 (by omega) hL ?_
  refine l_arg 2 dL_law_489 dL_law_490 dL_law_491 (by decide) dL_law_492 dL_law_493 (by omega) hL ?_
  refine g_callVp [.int (xs (6 * N + 1)), .int (xs (6 * N + 2))] dL_law_494 kX12_knows lL_47 a77 rfl rfl h2 rfl rfl (Nat.le_of_ble_eq_true rfl) (fun r h' hp => ?_)
  obtain ⟨rfl, s2, μ2, rfl, hI2⟩ := hp
  exact b_icmp_eq_t 1699 dL_law_497 (by decide) rfl (K s2 μ2 hI2)
theorem lc_8 {G : GT} {b L : Nat} {xs : Nat → Int32} {d N : Nat} {σ : ST} {μ : SL} (hL : L ≤ 3072) (hN : 6 * N + 6 ≤ L) (hI : INV σ μ N) (K : ∀ (s : ST) (m : SL), INV s m (N + 1) → BL G b L xs (d + 41) 1699 (lN0 G b N) [] (sh G s m)) : BL G b L xs (d + 41) 502 (lN0 G b N) [] (sh G σ μ) := by
  refine b_aload_n (kk := 1) dL_law_502 rfl ?_
  refine l_arg 1 dL_law_503 dL_law_504 dL_law_505 (by decide) dL_law_506 dL_law_507 (by omega) hL ?_
  refine l_arg 2 dL_law_508 dL_law_509 dL_law_510 (by decide) dL_law_511 dL_law_512 (by omega) hL ?_
  refine g_callVp [.int (xs (6 * N + 1)), .int (xs (6 * N + 2))] dL_law_513 kX11_cell lL_48 a0 rfl rfl (p_cell (d := d) hI) rfl rfl (Nat.le_of_ble_eq_true rfl) (fun r h' hp => ?_)
  obtain ⟨v, s1, μ1, rfl, rfl, h2⟩ := hp
  refine b_aload_n (kk := 2) dL_law_516 rfl ?_
  refine l_arg 1 dL_law_517 dL_law_518 dL_law_519 (by decide) dL_law_520 dL_law_521 (by omega) hL ?_
  refine l_arg 2 dL_law_522 dL_law_523 dL_law_524 (by decide) dL_law_525 dL_law_526 (by omega) hL ?_
  refine g_callVp [.int (xs (6 * N + 1)), .int (xs (6 * N + 2))] dL_law_527 kX12_cell lL_51 a77 rfl rfl h2 rfl rfl (Nat.le_of_ble_eq_true rfl) (fun r h' hp => ?_)
  obtain ⟨rfl, s2, μ2, rfl, hI2⟩ := hp
  exact b_icmp_eq_t 1699 dL_law_530 (by decide) rfl (K s2 μ2 hI2)
theorem lc_9 {G : GT} {b L : Nat} {xs : Nat → Int32} {d N : Nat} {σ : ST} {μ : SL} (hL : L ≤ 3072) (hN : 6 * N + 6 ≤ L) (hI : INV σ μ N) (K : ∀ (s : ST) (m : SL), INV s m (N + 1) → BL G b L xs (d + 41) 1699 (lN0 G b N) [] (sh G s m)) : BL G b L xs (d + 41) 535 (lN0 G b N) [] (sh G σ μ) := by
  refine b_aload_n (kk := 1) dL_law_535 rfl ?_
  refine l_arg 1 dL_law_536 dL_law_537 dL_law_538 (by decide) dL_law_539 dL_law_540 (by omega) hL ?_
  refine l_arg 2 dL_law_541 dL_law_542 dL_law_543 (by decide) dL_law_544 dL_law_545 (by omega) hL ?_
  refine g_callVp [.int (xs (6 * N + 1)), .int (xs (6 * N + 2))] dL_law_546 kX11_tell lL_52 a0 rfl rfl (p_tell (d := d) hI) rfl rfl (Nat.le_of_ble_eq_true rfl) (fun r h' hp => ?_)
  obtain ⟨v, s1, μ1, rfl, rfl, h2⟩ := hp
  refine b_aload_n (kk := 2) dL_law_549 rfl ?_
  refine l_arg 1 dL_law_550 dL_law_551 dL_law_552 (by decide) dL_law_553 dL_law_554 (by omega) hL ?_
  refine l_arg 2 dL_law_555 dL_law_556 dL_law_557 (by decide) dL_law_558 dL_law_559 (by omega) hL ?_
  refine g_callVp [.int (xs (6 * N + 1)), .int (xs (6 * N + 2))] dL_law_560 kX12_tell lL_55 a77 rfl rfl h2 rfl rfl (Nat.le_of_ble_eq_true rfl) (fun r h' hp => ?_)
  obtain ⟨rfl, s2, μ2, rfl, hI2⟩ := hp
  exact b_icmp_eq_t 1699 dL_law_563 (by decide) rfl (K s2 μ2 hI2)
theorem lc_10 {G : GT} {b L : Nat} {xs : Nat → Int32} {d N : Nat} {σ : ST} {μ : SL} (hL : L ≤ 3072) (hN : 6 * N + 6 ≤ L) (hI : INV σ μ N) (K : ∀ (s : ST) (m : SL), INV s m (N + 1) → BL G b L xs (d + 41) 1699 (lN0 G b N) [] (sh G s m)) : BL G b L xs (d + 41) 568 (lN0 G b N) [] (sh G σ μ) := by
  refine b_aload_n (kk := 1) dL_law_568 rfl ?_
  refine l_arg 1 dL_law_569 dL_law_570 dL_law_571 (by decide) dL_law_572 dL_law_573 (by omega) hL ?_
  refine l_arg 2 dL_law_574 dL_law_575 dL_law_576 (by decide) dL_law_577 dL_law_578 (by omega) hL ?_
  refine g_callVp [.int (xs (6 * N + 1)), .int (xs (6 * N + 2))] dL_law_579 kX11_ask lL_56 a0 rfl rfl (p_ask (d := d) hI) rfl rfl (Nat.le_of_ble_eq_true rfl) (fun r h' hp => ?_)
  obtain ⟨v, s1, μ1, rfl, rfl, h2⟩ := hp
  refine b_aload_n (kk := 2) dL_law_582 rfl ?_
  refine l_arg 1 dL_law_583 dL_law_584 dL_law_585 (by decide) dL_law_586 dL_law_587 (by omega) hL ?_
  refine l_arg 2 dL_law_588 dL_law_589 dL_law_590 (by decide) dL_law_591 dL_law_592 (by omega) hL ?_
  refine g_callVp [.int (xs (6 * N + 1)), .int (xs (6 * N + 2))] dL_law_593 kX12_ask lL_59 a77 rfl rfl h2 rfl rfl (Nat.le_of_ble_eq_true rfl) (fun r h' hp => ?_)
  obtain ⟨rfl, s2, μ2, rfl, hI2⟩ := hp
  exact b_icmp_eq_t 1699 dL_law_596 (by decide) rfl (K s2 μ2 hI2)
theorem lc_11 {G : GT} {b L : Nat} {xs : Nat → Int32} {d N : Nat} {σ : ST} {μ : SL} (hL : L ≤ 3072) (hN : 6 * N + 6 ≤ L) (hI : INV σ μ N) (K : ∀ (s : ST) (m : SL), INV s m (N + 1) → BL G b L xs (d + 41) 1699 (lN0 G b N) [] (sh G s m)) : BL G b L xs (d + 41) 601 (lN0 G b N) [] (sh G σ μ) := by
  refine b_aload_n (kk := 1) dL_law_601 rfl ?_
  refine l_arg 1 dL_law_602 dL_law_603 dL_law_604 (by decide) dL_law_605 dL_law_606 (by omega) hL ?_
  refine g_callVp [.int (xs (6 * N + 1))] dL_law_607 kX11_days lL_60 a0 rfl rfl (p_days (d := d) hI) rfl rfl (Nat.le_of_ble_eq_true rfl) (fun r h' hp => ?_)
  obtain ⟨v, s1, μ1, rfl, rfl, h2⟩ := hp
  refine b_aload_n (kk := 2) dL_law_610 rfl ?_
  refine l_arg 1 dL_law_611 dL_law_612 dL_law_613 (by decide) dL_law_614 dL_law_615 (by omega) hL ?_
  refine g_callVp [.int (xs (6 * N + 1))] dL_law_616 kX12_days lL_63 a77 rfl rfl h2 rfl rfl (Nat.le_of_ble_eq_true rfl) (fun r h' hp => ?_)
  obtain ⟨rfl, s2, μ2, rfl, hI2⟩ := hp
  exact b_icmp_eq_t 1699 dL_law_619 (by decide) rfl (K s2 μ2 hI2)
theorem lc_12 {G : GT} {b L : Nat} {xs : Nat → Int32} {d N : Nat} {σ : ST} {μ : SL} (hL : L ≤ 3072) (hN : 6 * N + 6 ≤ L) (hI : INV σ μ N) (K : ∀ (s : ST) (m : SL), INV s m (N + 1) → BL G b L xs (d + 41) 1699 (lN0 G b N) [] (sh G s m)) : BL G b L xs (d + 41) 624 (lN0 G b N) [] (sh G σ μ) := by
  refine b_aload_n (kk := 1) dL_law_624 rfl ?_
  refine l_arg 1 dL_law_625 dL_law_626 dL_law_627 (by decide) dL_law_628 dL_law_629 (by omega) hL ?_
  refine g_callVp [.int (xs (6 * N + 1))] dL_law_630 kX11_isTrue lL_64 a0 rfl rfl (p_isTrue (d := d) hI) rfl rfl (Nat.le_of_ble_eq_true rfl) (fun r h' hp => ?_)
  obtain ⟨v, s1, μ1, rfl, rfl, h2⟩ := hp
  refine b_aload_n (kk := 2) dL_law_633 rfl ?_
  refine l_arg 1 dL_law_634 dL_law_635 dL_law_636 (by decide) dL_law_637 dL_law_638 (by omega) hL ?_
  refine g_callVp [.int (xs (6 * N + 1))] dL_law_639 kX12_isTrue lL_67 a77 rfl rfl h2 rfl rfl (Nat.le_of_ble_eq_true rfl) (fun r h' hp => ?_)
  obtain ⟨rfl, s2, μ2, rfl, hI2⟩ := hp
  exact b_icmp_eq_t 1699 dL_law_642 (by decide) rfl (K s2 μ2 hI2)
theorem lc_13 {G : GT} {b L : Nat} {xs : Nat → Int32} {d N : Nat} {σ : ST} {μ : SL} (hL : L ≤ 3072) (hN : 6 * N + 6 ≤ L) (hI : INV σ μ N) (K : ∀ (s : ST) (m : SL), INV s m (N + 1) → BL G b L xs (d + 41) 1699 (lN0 G b N) [] (sh G s m)) : BL G b L xs (d + 41) 647 (lN0 G b N) [] (sh G σ μ) := by
  refine b_aload_n (kk := 1) dL_law_647 rfl ?_
  refine l_arg 1 dL_law_648 dL_law_649 dL_law_650 (by decide) dL_law_651 dL_law_652 (by omega) hL ?_
  refine g_callVp [.int (xs (6 * N + 1))] dL_law_653 kX11_undo lL_68 a0 rfl rfl (p_undo (d := d) hI) rfl rfl (Nat.le_of_ble_eq_true rfl) (fun r h' hp => ?_)
  obtain ⟨v, s1, μ1, rfl, rfl, h2⟩ := hp
  refine b_aload_n (kk := 2) dL_law_656 rfl ?_
  refine l_arg 1 dL_law_657 dL_law_658 dL_law_659 (by decide) dL_law_660 dL_law_661 (by omega) hL ?_
  refine g_callVp [.int (xs (6 * N + 1))] dL_law_662 kX12_undo lL_71 a77 rfl rfl h2 rfl rfl (Nat.le_of_ble_eq_true rfl) (fun r h' hp => ?_)
  obtain ⟨rfl, s2, μ2, rfl, hI2⟩ := hp
  exact b_icmp_eq_t 1699 dL_law_665 (by decide) rfl (K s2 μ2 hI2)
theorem lc_14 {G : GT} {b L : Nat} {xs : Nat → Int32} {d N : Nat} {σ : ST} {μ : SL} (hL : L ≤ 3072) (hN : 6 * N + 6 ≤ L) (hI : INV σ μ N) (K : ∀ (s : ST) (m : SL), INV s m (N + 1) → BL G b L xs (d + 41) 1699 (lN0 G b N) [] (sh G s m)) : BL G b L xs (d + 41) 670 (lN0 G b N) [] (sh G σ μ) := by
  refine b_aload_n (kk := 1) dL_law_670 rfl ?_
  refine l_arg 1 dL_law_671 dL_law_672 dL_law_673 (by decide) dL_law_674 dL_law_675 (by omega) hL ?_
  refine l_arg 2 dL_law_676 dL_law_677 dL_law_678 (by decide) dL_law_679 dL_law_680 (by omega) hL ?_
  refine g_callVp [.int (xs (6 * N + 1)), .int (xs (6 * N + 2))] dL_law_681 kX11_judge lL_72 a0 rfl rfl (p_judge (d := d) hI) rfl rfl (Nat.le_of_ble_eq_true rfl) (fun r h' hp => ?_)
  obtain ⟨v, s1, μ1, rfl, rfl, h2⟩ := hp
  refine b_aload_n (kk := 2) dL_law_684 rfl ?_
  refine l_arg 1 dL_law_685 dL_law_686 dL_law_687 (by decide) dL_law_688 dL_law_689 (by omega) hL ?_
  refine l_arg 2 dL_law_690 dL_law_691 dL_law_692 (by decide) dL_law_693 dL_law_694 (by omega) hL ?_
  refine g_callVp [.int (xs (6 * N + 1)), .int (xs (6 * N + 2))] dL_law_695 kX12_judge lL_75 a77 rfl rfl h2 rfl rfl (Nat.le_of_ble_eq_true rfl) (fun r h' hp => ?_)
  obtain ⟨rfl, s2, μ2, rfl, hI2⟩ := hp
  exact b_icmp_eq_t 1699 dL_law_698 (by decide) rfl (K s2 μ2 hI2)
theorem lc_15 {G : GT} {b L : Nat} {xs : Nat → Int32} {d N : Nat} {σ : ST} {μ : SL} (hL : L ≤ 3072) (hN : 6 * N + 6 ≤ L) (hI : INV σ μ N) (K : ∀ (s : ST) (m : SL), INV s m (N + 1) → BL G b L xs (d + 41) 1699 (lN0 G b N) [] (sh G s m)) : BL G b L xs (d + 41) 703 (lN0 G b N) [] (sh G σ μ) := by
  refine b_aload_n (kk := 1) dL_law_703 rfl ?_
  refine l_arg 1 dL_law_704 dL_law_705 dL_law_706 (by decide) dL_law_707 dL_law_708 (by omega) hL ?_
  refine g_callVp [.int (xs (6 * N + 1))] dL_law_709 kX11_perform lL_76 a0 rfl rfl (p_perform (d := d) hI) rfl rfl (Nat.le_of_ble_eq_true rfl) (fun r h' hp => ?_)
  obtain ⟨v, s1, μ1, rfl, rfl, h2⟩ := hp
  refine b_aload_n (kk := 2) dL_law_712 rfl ?_
  refine l_arg 1 dL_law_713 dL_law_714 dL_law_715 (by decide) dL_law_716 dL_law_717 (by omega) hL ?_
  refine g_callVp [.int (xs (6 * N + 1))] dL_law_718 kX12_perform lL_79 a77 rfl rfl h2 rfl rfl (Nat.le_of_ble_eq_true rfl) (fun r h' hp => ?_)
  obtain ⟨rfl, s2, μ2, rfl, hI2⟩ := hp
  exact b_icmp_eq_t 1699 dL_law_721 (by decide) rfl (K s2 μ2 hI2)
theorem lc_16 {G : GT} {b L : Nat} {xs : Nat → Int32} {d N : Nat} {σ : ST} {μ : SL} (hL : L ≤ 3072) (hN : 6 * N + 6 ≤ L) (hI : INV σ μ N) (K : ∀ (s : ST) (m : SL), INV s m (N + 1) → BL G b L xs (d + 41) 1699 (lN0 G b N) [] (sh G s m)) : BL G b L xs (d + 41) 726 (lN0 G b N) [] (sh G σ μ) := by
  refine b_aload_n (kk := 1) dL_law_726 rfl ?_
  refine l_arg 1 dL_law_727 dL_law_728 dL_law_729 (by decide) dL_law_730 dL_law_731 (by omega) hL ?_
  refine l_arg 2 dL_law_732 dL_law_733 dL_law_734 (by decide) dL_law_735 dL_law_736 (by omega) hL ?_
  refine g_callVp [.int (xs (6 * N + 1)), .int (xs (6 * N + 2))] dL_law_737 kX11_year lL_80 a0 rfl rfl (p_year (d := d) hI) rfl rfl (Nat.le_of_ble_eq_true rfl) (fun r h' hp => ?_)
  obtain ⟨v, s1, μ1, rfl, rfl, h2⟩ := hp
  refine b_aload_n (kk := 2) dL_law_740 rfl ?_
  refine l_arg 1 dL_law_741 dL_law_742 dL_law_743 (by decide) dL_law_744 dL_law_745 (by omega) hL ?_
  refine l_arg 2 dL_law_746 dL_law_747 dL_law_748 (by decide) dL_law_749 dL_law_750 (by omega) hL ?_
  refine g_callVp [.int (xs (6 * N + 1)), .int (xs (6 * N + 2))] dL_law_751 kX12_year lL_83 a77 rfl rfl h2 rfl rfl (Nat.le_of_ble_eq_true rfl) (fun r h' hp => ?_)
  obtain ⟨rfl, s2, μ2, rfl, hI2⟩ := hp
  exact b_icmp_eq_t 1699 dL_law_754 (by decide) rfl (K s2 μ2 hI2)
theorem lc_17 {G : GT} {b L : Nat} {xs : Nat → Int32} {d N : Nat} {σ : ST} {μ : SL} (hL : L ≤ 3072) (hN : 6 * N + 6 ≤ L) (hI : INV σ μ N) (K : ∀ (s : ST) (m : SL), INV s m (N + 1) → BL G b L xs (d + 41) 1699 (lN0 G b N) [] (sh G s m)) : BL G b L xs (d + 41) 759 (lN0 G b N) [] (sh G σ μ) := by
  refine b_aload_n (kk := 1) dL_law_759 rfl ?_
  refine l_arg 1 dL_law_760 dL_law_761 dL_law_762 (by decide) dL_law_763 dL_law_764 (by omega) hL ?_
  refine g_callVp [.int (xs (6 * N + 1))] dL_law_765 kX11_everyone lL_84 a0 rfl rfl (p_everyone (d := d) hI) rfl rfl (Nat.le_of_ble_eq_true rfl) (fun r h' hp => ?_)
  obtain ⟨v, s1, μ1, rfl, rfl, h2⟩ := hp
  refine b_aload_n (kk := 2) dL_law_768 rfl ?_
  refine l_arg 1 dL_law_769 dL_law_770 dL_law_771 (by decide) dL_law_772 dL_law_773 (by omega) hL ?_
  refine g_callVp [.int (xs (6 * N + 1))] dL_law_774 kX12_everyone lL_87 a77 rfl rfl h2 rfl rfl (Nat.le_of_ble_eq_true rfl) (fun r h' hp => ?_)
  obtain ⟨rfl, s2, μ2, rfl, hI2⟩ := hp
  exact b_icmp_eq_t 1699 dL_law_777 (by decide) rfl (K s2 μ2 hI2)
theorem lc_18 {G : GT} {b L : Nat} {xs : Nat → Int32} {d N : Nat} {σ : ST} {μ : SL} (hL : L ≤ 3072) (hN : 6 * N + 6 ≤ L) (hI : INV σ μ N) (K : ∀ (s : ST) (m : SL), INV s m (N + 1) → BL G b L xs (d + 41) 1699 (lN0 G b N) [] (sh G s m)) : BL G b L xs (d + 41) 782 (lN0 G b N) [] (sh G σ μ) := by
  refine b_aload_n (kk := 1) dL_law_782 rfl ?_
  refine l_arg 1 dL_law_783 dL_law_784 dL_law_785 (by decide) dL_law_786 dL_law_787 (by omega) hL ?_
  refine g_callVp [.int (xs (6 * N + 1))] dL_law_788 kX11_depth lL_88 a0 rfl rfl (p_depth (d := d) hI) rfl rfl (Nat.le_of_ble_eq_true rfl) (fun r h' hp => ?_)
  obtain ⟨v, s1, μ1, rfl, rfl, h2⟩ := hp
  refine b_aload_n (kk := 2) dL_law_791 rfl ?_
  refine l_arg 1 dL_law_792 dL_law_793 dL_law_794 (by decide) dL_law_795 dL_law_796 (by omega) hL ?_
  refine g_callVp [.int (xs (6 * N + 1))] dL_law_797 kX12_depth lL_91 a77 rfl rfl h2 rfl rfl (Nat.le_of_ble_eq_true rfl) (fun r h' hp => ?_)
  obtain ⟨rfl, s2, μ2, rfl, hI2⟩ := hp
  exact b_icmp_eq_t 1699 dL_law_800 (by decide) rfl (K s2 μ2 hI2)
theorem lc_19 {G : GT} {b L : Nat} {xs : Nat → Int32} {d N : Nat} {σ : ST} {μ : SL} (hL : L ≤ 3072) (hN : 6 * N + 6 ≤ L) (hI : INV σ μ N) (K : ∀ (s : ST) (m : SL), INV s m (N + 1) → BL G b L xs (d + 41) 1699 (lN0 G b N) [] (sh G s m)) : BL G b L xs (d + 41) 805 (lN0 G b N) [] (sh G σ μ) := by
  refine b_aload_n (kk := 1) dL_law_805 rfl ?_
  refine g_callVp [] dL_law_806 kX11_common lL_92 a0 rfl rfl (p_common (d := d) hI) rfl rfl (Nat.le_of_ble_eq_true rfl) (fun r h' hp => ?_)
  obtain ⟨v, s1, μ1, rfl, rfl, h2⟩ := hp
  refine b_aload_n (kk := 2) dL_law_809 rfl ?_
  refine g_callVp [] dL_law_810 kX12_common lL_96 a77 rfl rfl h2 rfl rfl (Nat.le_of_ble_eq_true rfl) (fun r h' hp => ?_)
  obtain ⟨rfl, s2, μ2, rfl, hI2⟩ := hp
  exact b_icmp_eq_t 1699 dL_law_813 (by decide) rfl (K s2 μ2 hI2)
theorem lc_20 {G : GT} {b L : Nat} {xs : Nat → Int32} {d N : Nat} {σ : ST} {μ : SL} (hL : L ≤ 3072) (hN : 6 * N + 6 ≤ L) (hI : INV σ μ N) (K : ∀ (s : ST) (m : SL), INV s m (N + 1) → BL G b L xs (d + 41) 1699 (lN0 G b N) [] (sh G s m)) : BL G b L xs (d + 41) 818 (lN0 G b N) [] (sh G σ μ) := by
  refine b_aload_n (kk := 1) dL_law_818 rfl ?_
  refine l_arg 1 dL_law_819 dL_law_820 dL_law_821 (by decide) dL_law_822 dL_law_823 (by omega) hL ?_
  refine g_callVp [.int (xs (6 * N + 1))] dL_law_824 kX11_reach lL_97 a0 rfl rfl (p_reach (d := d) hI) rfl rfl (Nat.le_of_ble_eq_true rfl) (fun r h' hp => ?_)
  obtain ⟨v, s1, μ1, rfl, rfl, h2⟩ := hp
  refine b_aload_n (kk := 2) dL_law_827 rfl ?_
  refine l_arg 1 dL_law_828 dL_law_829 dL_law_830 (by decide) dL_law_831 dL_law_832 (by omega) hL ?_
  refine g_callVp [.int (xs (6 * N + 1))] dL_law_833 kX12_reach lL_100 a77 rfl rfl h2 rfl rfl (Nat.le_of_ble_eq_true rfl) (fun r h' hp => ?_)
  obtain ⟨rfl, s2, μ2, rfl, hI2⟩ := hp
  exact b_icmp_eq_t 1699 dL_law_836 (by decide) rfl (K s2 μ2 hI2)
theorem lc_21 {G : GT} {b L : Nat} {xs : Nat → Int32} {d N : Nat} {σ : ST} {μ : SL} (hL : L ≤ 3072) (hN : 6 * N + 6 ≤ L) (hI : INV σ μ N) (K : ∀ (s : ST) (m : SL), INV s m (N + 1) → BL G b L xs (d + 41) 1699 (lN0 G b N) [] (sh G s m)) : BL G b L xs (d + 41) 841 (lN0 G b N) [] (sh G σ μ) := by
  refine b_aload_n (kk := 1) dL_law_841 rfl ?_
  refine l_arg 1 dL_law_842 dL_law_843 dL_law_844 (by decide) dL_law_845 dL_law_846 (by omega) hL ?_
  refine g_callVp [.int (xs (6 * N + 1))] dL_law_847 kX11_together lL_101 a0 rfl rfl (p_together (d := d) hI) rfl rfl (Nat.le_of_ble_eq_true rfl) (fun r h' hp => ?_)
  obtain ⟨v, s1, μ1, rfl, rfl, h2⟩ := hp
  refine b_aload_n (kk := 2) dL_law_850 rfl ?_
  refine l_arg 1 dL_law_851 dL_law_852 dL_law_853 (by decide) dL_law_854 dL_law_855 (by omega) hL ?_
  refine g_callVp [.int (xs (6 * N + 1))] dL_law_856 kX12_together lL_104 a77 rfl rfl h2 rfl rfl (Nat.le_of_ble_eq_true rfl) (fun r h' hp => ?_)
  obtain ⟨rfl, s2, μ2, rfl, hI2⟩ := hp
  exact b_icmp_eq_t 1699 dL_law_859 (by decide) rfl (K s2 μ2 hI2)
theorem lc_22 {G : GT} {b L : Nat} {xs : Nat → Int32} {d N : Nat} {σ : ST} {μ : SL} (hL : L ≤ 3072) (hN : 6 * N + 6 ≤ L) (hI : INV σ μ N) (K : ∀ (s : ST) (m : SL), INV s m (N + 1) → BL G b L xs (d + 41) 1699 (lN0 G b N) [] (sh G s m)) : BL G b L xs (d + 41) 864 (lN0 G b N) [] (sh G σ μ) := by
  refine b_aload_n (kk := 1) dL_law_864 rfl ?_
  refine g_callVp [] dL_law_865 kX11_witnesses lL_105 a0 rfl rfl (p_witnesses (d := d) hI) rfl rfl (Nat.le_of_ble_eq_true rfl) (fun r h' hp => ?_)
  obtain ⟨v, s1, μ1, rfl, rfl, h2⟩ := hp
  refine b_aload_n (kk := 2) dL_law_868 rfl ?_
  refine g_callVp [] dL_law_869 kX12_witnesses lL_108 a77 rfl rfl h2 rfl rfl (Nat.le_of_ble_eq_true rfl) (fun r h' hp => ?_)
  obtain ⟨rfl, s2, μ2, rfl, hI2⟩ := hp
  exact b_icmp_eq_t 1699 dL_law_872 (by decide) rfl (K s2 μ2 hI2)
theorem lc_23 {G : GT} {b L : Nat} {xs : Nat → Int32} {d N : Nat} {σ : ST} {μ : SL} (hL : L ≤ 3072) (hN : 6 * N + 6 ≤ L) (hI : INV σ μ N) (K : ∀ (s : ST) (m : SL), INV s m (N + 1) → BL G b L xs (d + 41) 1699 (lN0 G b N) [] (sh G s m)) : BL G b L xs (d + 41) 877 (lN0 G b N) [] (sh G σ μ) := by
  refine b_aload_n (kk := 1) dL_law_877 rfl ?_
  refine l_arg 1 dL_law_878 dL_law_879 dL_law_880 (by decide) dL_law_881 dL_law_882 (by omega) hL ?_
  refine l_arg 2 dL_law_883 dL_law_884 dL_law_885 (by decide) dL_law_886 dL_law_887 (by omega) hL ?_
  refine g_callVp [.int (xs (6 * N + 1)), .int (xs (6 * N + 2))] dL_law_888 kX11_parting lL_109 a0 rfl rfl (p_parting (d := d) hI) rfl rfl (Nat.le_of_ble_eq_true rfl) (fun r h' hp => ?_)
  obtain ⟨v, s1, μ1, rfl, rfl, h2⟩ := hp
  refine b_aload_n (kk := 2) dL_law_891 rfl ?_
  refine l_arg 1 dL_law_892 dL_law_893 dL_law_894 (by decide) dL_law_895 dL_law_896 (by omega) hL ?_
  refine l_arg 2 dL_law_897 dL_law_898 dL_law_899 (by decide) dL_law_900 dL_law_901 (by omega) hL ?_
  refine g_callVp [.int (xs (6 * N + 1)), .int (xs (6 * N + 2))] dL_law_902 kX12_parting lL_112 a77 rfl rfl h2 rfl rfl (Nat.le_of_ble_eq_true rfl) (fun r h' hp => ?_)
  obtain ⟨rfl, s2, μ2, rfl, hI2⟩ := hp
  exact b_icmp_eq_t 1699 dL_law_905 (by decide) rfl (K s2 μ2 hI2)
theorem lc_24 {G : GT} {b L : Nat} {xs : Nat → Int32} {d N : Nat} {σ : ST} {μ : SL} (hL : L ≤ 3072) (hN : 6 * N + 6 ≤ L) (hI : INV σ μ N) (K : ∀ (s : ST) (m : SL), INV s m (N + 1) → BL G b L xs (d + 41) 1699 (lN0 G b N) [] (sh G s m)) : BL G b L xs (d + 41) 910 (lN0 G b N) [] (sh G σ μ) := by
  refine b_aload_n (kk := 1) dL_law_910 rfl ?_
  refine l_arg 1 dL_law_911 dL_law_912 dL_law_913 (by decide) dL_law_914 dL_law_915 (by omega) hL ?_
  refine l_arg 2 dL_law_916 dL_law_917 dL_law_918 (by decide) dL_law_919 dL_law_920 (by omega) hL ?_
  refine g_callVp [.int (xs (6 * N + 1)), .int (xs (6 * N + 2))] dL_law_921 kX11_measure lL_113 a0 rfl rfl (p_measure (d := d) hI) rfl rfl (Nat.le_of_ble_eq_true rfl) (fun r h' hp => ?_)
  obtain ⟨v, s1, μ1, rfl, rfl, h2⟩ := hp
  refine b_aload_n (kk := 2) dL_law_924 rfl ?_
  refine l_arg 1 dL_law_925 dL_law_926 dL_law_927 (by decide) dL_law_928 dL_law_929 (by omega) hL ?_
  refine l_arg 2 dL_law_930 dL_law_931 dL_law_932 (by decide) dL_law_933 dL_law_934 (by omega) hL ?_
  refine g_callVp [.int (xs (6 * N + 1)), .int (xs (6 * N + 2))] dL_law_935 kX12_measure lL_116 a77 rfl rfl h2 rfl rfl (Nat.le_of_ble_eq_true rfl) (fun r h' hp => ?_)
  obtain ⟨rfl, s2, μ2, rfl, hI2⟩ := hp
  exact b_icmp_eq_t 1699 dL_law_938 (by decide) rfl (K s2 μ2 hI2)
theorem lc_25 {G : GT} {b L : Nat} {xs : Nat → Int32} {d N : Nat} {σ : ST} {μ : SL} (hL : L ≤ 3072) (hN : 6 * N + 6 ≤ L) (hI : INV σ μ N) (K : ∀ (s : ST) (m : SL), INV s m (N + 1) → BL G b L xs (d + 41) 1699 (lN0 G b N) [] (sh G s m)) : BL G b L xs (d + 41) 943 (lN0 G b N) [] (sh G σ μ) := by
  refine b_aload_n (kk := 1) dL_law_943 rfl ?_
  refine l_arg 1 dL_law_944 dL_law_945 dL_law_946 (by decide) dL_law_947 dL_law_948 (by omega) hL ?_
  refine g_callVp [.int (xs (6 * N + 1))] dL_law_949 kX11_least lL_117 a0 rfl rfl (p_least (d := d) hI) rfl rfl (Nat.le_of_ble_eq_true rfl) (fun r h' hp => ?_)
  obtain ⟨v, s1, μ1, rfl, rfl, h2⟩ := hp
  refine b_aload_n (kk := 2) dL_law_952 rfl ?_
  refine l_arg 1 dL_law_953 dL_law_954 dL_law_955 (by decide) dL_law_956 dL_law_957 (by omega) hL ?_
  refine g_callVp [.int (xs (6 * N + 1))] dL_law_958 kX12_least lL_120 a77 rfl rfl h2 rfl rfl (Nat.le_of_ble_eq_true rfl) (fun r h' hp => ?_)
  obtain ⟨rfl, s2, μ2, rfl, hI2⟩ := hp
  exact b_icmp_eq_t 1699 dL_law_961 (by decide) rfl (K s2 μ2 hI2)
theorem lc_26 {G : GT} {b L : Nat} {xs : Nat → Int32} {d N : Nat} {σ : ST} {μ : SL} (hL : L ≤ 3072) (hN : 6 * N + 6 ≤ L) (hI : INV σ μ N) (K : ∀ (s : ST) (m : SL), INV s m (N + 1) → BL G b L xs (d + 41) 1699 (lN0 G b N) [] (sh G s m)) : BL G b L xs (d + 41) 966 (lN0 G b N) [] (sh G σ μ) := by
  refine b_aload_n (kk := 1) dL_law_966 rfl ?_
  refine l_arg 1 dL_law_967 dL_law_968 dL_law_969 (by decide) dL_law_970 dL_law_971 (by omega) hL ?_
  refine l_arg 2 dL_law_972 dL_law_973 dL_law_974 (by decide) dL_law_975 dL_law_976 (by omega) hL ?_
  refine g_callVp [.int (xs (6 * N + 1)), .int (xs (6 * N + 2))] dL_law_977 kX11_seats lL_121 a0 rfl rfl (p_seats (d := d) hI) rfl rfl (Nat.le_of_ble_eq_true rfl) (fun r h' hp => ?_)
  obtain ⟨v, s1, μ1, rfl, rfl, h2⟩ := hp
  refine b_aload_n (kk := 2) dL_law_980 rfl ?_
  refine l_arg 1 dL_law_981 dL_law_982 dL_law_983 (by decide) dL_law_984 dL_law_985 (by omega) hL ?_
  refine l_arg 2 dL_law_986 dL_law_987 dL_law_988 (by decide) dL_law_989 dL_law_990 (by omega) hL ?_
  refine g_callVp [.int (xs (6 * N + 1)), .int (xs (6 * N + 2))] dL_law_991 kX12_seats lL_124 a77 rfl rfl h2 rfl rfl (Nat.le_of_ble_eq_true rfl) (fun r h' hp => ?_)
  obtain ⟨rfl, s2, μ2, rfl, hI2⟩ := hp
  exact b_icmp_eq_t 1699 dL_law_994 (by decide) rfl (K s2 μ2 hI2)
theorem lc_27 {G : GT} {b L : Nat} {xs : Nat → Int32} {d N : Nat} {σ : ST} {μ : SL} (hL : L ≤ 3072) (hN : 6 * N + 6 ≤ L) (hI : INV σ μ N) (K : ∀ (s : ST) (m : SL), INV s m (N + 1) → BL G b L xs (d + 41) 1699 (lN0 G b N) [] (sh G s m)) : BL G b L xs (d + 41) 999 (lN0 G b N) [] (sh G σ μ) := by
  refine b_aload_n (kk := 1) dL_law_999 rfl ?_
  refine l_arg 1 dL_law_1000 dL_law_1001 dL_law_1002 (by decide) dL_law_1003 dL_law_1004 (by omega) hL ?_
  refine l_arg 2 dL_law_1005 dL_law_1006 dL_law_1007 (by decide) dL_law_1008 dL_law_1009 (by omega) hL ?_
  refine g_callVp [.int (xs (6 * N + 1)), .int (xs (6 * N + 2))] dL_law_1010 kX11_differ lL_125 a0 rfl rfl (p_differ (d := d) hI) rfl rfl (Nat.le_of_ble_eq_true rfl) (fun r h' hp => ?_)
  obtain ⟨v, s1, μ1, rfl, rfl, h2⟩ := hp
  refine b_aload_n (kk := 2) dL_law_1013 rfl ?_
  refine l_arg 1 dL_law_1014 dL_law_1015 dL_law_1016 (by decide) dL_law_1017 dL_law_1018 (by omega) hL ?_
  refine l_arg 2 dL_law_1019 dL_law_1020 dL_law_1021 (by decide) dL_law_1022 dL_law_1023 (by omega) hL ?_
  refine g_callVp [.int (xs (6 * N + 1)), .int (xs (6 * N + 2))] dL_law_1024 kX12_differ lL_128 a77 rfl rfl h2 rfl rfl (Nat.le_of_ble_eq_true rfl) (fun r h' hp => ?_)
  obtain ⟨rfl, s2, μ2, rfl, hI2⟩ := hp
  exact b_icmp_eq_t 1699 dL_law_1027 (by decide) rfl (K s2 μ2 hI2)
theorem lc_28 {G : GT} {b L : Nat} {xs : Nat → Int32} {d N : Nat} {σ : ST} {μ : SL} (hL : L ≤ 3072) (hN : 6 * N + 6 ≤ L) (hI : INV σ μ N) (K : ∀ (s : ST) (m : SL), INV s m (N + 1) → BL G b L xs (d + 41) 1699 (lN0 G b N) [] (sh G s m)) : BL G b L xs (d + 41) 1032 (lN0 G b N) [] (sh G σ μ) := by
  refine b_aload_n (kk := 1) dL_law_1032 rfl ?_
  refine l_arg 1 dL_law_1033 dL_law_1034 dL_law_1035 (by decide) dL_law_1036 dL_law_1037 (by omega) hL ?_
  refine l_arg 2 dL_law_1038 dL_law_1039 dL_law_1040 (by decide) dL_law_1041 dL_law_1042 (by omega) hL ?_
  refine g_callVp [.int (xs (6 * N + 1)), .int (xs (6 * N + 2))] dL_law_1043 kX11_shown lL_129 a0 rfl rfl (p_shown (d := d) hI) rfl rfl (Nat.le_of_ble_eq_true rfl) (fun r h' hp => ?_)
  obtain ⟨v, s1, μ1, rfl, rfl, h2⟩ := hp
  refine b_aload_n (kk := 2) dL_law_1046 rfl ?_
  refine l_arg 1 dL_law_1047 dL_law_1048 dL_law_1049 (by decide) dL_law_1050 dL_law_1051 (by omega) hL ?_
  refine l_arg 2 dL_law_1052 dL_law_1053 dL_law_1054 (by decide) dL_law_1055 dL_law_1056 (by omega) hL ?_
  refine g_callVp [.int (xs (6 * N + 1)), .int (xs (6 * N + 2))] dL_law_1057 kX12_shown lL_132 a77 rfl rfl h2 rfl rfl (Nat.le_of_ble_eq_true rfl) (fun r h' hp => ?_)
  obtain ⟨rfl, s2, μ2, rfl, hI2⟩ := hp
  exact b_icmp_eq_t 1699 dL_law_1060 (by decide) rfl (K s2 μ2 hI2)
theorem lc_29 {G : GT} {b L : Nat} {xs : Nat → Int32} {d N : Nat} {σ : ST} {μ : SL} (hL : L ≤ 3072) (hN : 6 * N + 6 ≤ L) (hI : INV σ μ N) (K : ∀ (s : ST) (m : SL), INV s m (N + 1) → BL G b L xs (d + 41) 1699 (lN0 G b N) [] (sh G s m)) : BL G b L xs (d + 41) 1065 (lN0 G b N) [] (sh G σ μ) := by
  refine b_aload_n (kk := 1) dL_law_1065 rfl ?_
  refine l_arg 1 dL_law_1066 dL_law_1067 dL_law_1068 (by decide) dL_law_1069 dL_law_1070 (by omega) hL ?_
  refine l_arg 2 dL_law_1071 dL_law_1072 dL_law_1073 (by decide) dL_law_1074 dL_law_1075 (by omega) hL ?_
  refine l_arg 3 dL_law_1076 dL_law_1077 dL_law_1078 (by decide) dL_law_1079 dL_law_1080 (by omega) hL ?_
  refine g_callVp [.int (xs (6 * N + 1)), .int (xs (6 * N + 2)), .int (xs (6 * N + 3))] dL_law_1081 kX11_appeals lL_133 a0 rfl rfl (p_appeals (d := d) hI) rfl rfl (Nat.le_of_ble_eq_true rfl) (fun r h' hp => ?_)
  obtain ⟨v, s1, μ1, rfl, rfl, h2⟩ := hp
  refine b_aload_n (kk := 2) dL_law_1084 rfl ?_
  refine l_arg 1 dL_law_1085 dL_law_1086 dL_law_1087 (by decide) dL_law_1088 dL_law_1089 (by omega) hL ?_
  refine l_arg 2 dL_law_1090 dL_law_1091 dL_law_1092 (by decide) dL_law_1093 dL_law_1094 (by omega) hL ?_
  refine l_arg 3 dL_law_1095 dL_law_1096 dL_law_1097 (by decide) dL_law_1098 dL_law_1099 (by omega) hL ?_
  refine g_callVp [.int (xs (6 * N + 1)), .int (xs (6 * N + 2)), .int (xs (6 * N + 3))] dL_law_1100 kX12_appeals lL_137 a77 rfl rfl h2 rfl rfl (Nat.le_of_ble_eq_true rfl) (fun r h' hp => ?_)
  obtain ⟨rfl, s2, μ2, rfl, hI2⟩ := hp
  exact b_icmp_eq_t 1699 dL_law_1103 (by decide) rfl (K s2 μ2 hI2)
theorem lc_30 {G : GT} {b L : Nat} {xs : Nat → Int32} {d N : Nat} {σ : ST} {μ : SL} (hL : L ≤ 3072) (hN : 6 * N + 6 ≤ L) (hI : INV σ μ N) (K : ∀ (s : ST) (m : SL), INV s m (N + 1) → BL G b L xs (d + 41) 1699 (lN0 G b N) [] (sh G s m)) : BL G b L xs (d + 41) 1108 (lN0 G b N) [] (sh G σ μ) := by
  refine b_aload_n (kk := 1) dL_law_1108 rfl ?_
  refine l_arg 1 dL_law_1109 dL_law_1110 dL_law_1111 (by decide) dL_law_1112 dL_law_1113 (by omega) hL ?_
  refine l_arg 2 dL_law_1114 dL_law_1115 dL_law_1116 (by decide) dL_law_1117 dL_law_1118 (by omega) hL ?_
  refine l_arg 3 dL_law_1119 dL_law_1120 dL_law_1121 (by decide) dL_law_1122 dL_law_1123 (by omega) hL ?_
  refine l_arg 4 dL_law_1124 dL_law_1125 dL_law_1126 (by decide) dL_law_1127 dL_law_1128 (by omega) hL ?_
  refine g_callVp [.int (xs (6 * N + 1)), .int (xs (6 * N + 2)), .int (xs (6 * N + 3)), .int (xs (6 * N + 4))] dL_law_1129 kX11_parties lL_138 a0 rfl rfl (p_parties (d := d) hI) rfl rfl (Nat.le_of_ble_eq_true rfl) (fun r h' hp => ?_)
  obtain ⟨v, s1, μ1, rfl, rfl, h2⟩ := hp
  refine b_aload_n (kk := 2) dL_law_1132 rfl ?_
  refine l_arg 1 dL_law_1133 dL_law_1134 dL_law_1135 (by decide) dL_law_1136 dL_law_1137 (by omega) hL ?_
  refine l_arg 2 dL_law_1138 dL_law_1139 dL_law_1140 (by decide) dL_law_1141 dL_law_1142 (by omega) hL ?_
  refine l_arg 3 dL_law_1143 dL_law_1144 dL_law_1145 (by decide) dL_law_1146 dL_law_1147 (by omega) hL ?_
  refine l_arg 4 dL_law_1148 dL_law_1149 dL_law_1150 (by decide) dL_law_1151 dL_law_1152 (by omega) hL ?_
  refine g_callVp [.int (xs (6 * N + 1)), .int (xs (6 * N + 2)), .int (xs (6 * N + 3)), .int (xs (6 * N + 4))] dL_law_1153 kX12_parties lL_142 a77 rfl rfl h2 rfl rfl (Nat.le_of_ble_eq_true rfl) (fun r h' hp => ?_)
  obtain ⟨rfl, s2, μ2, rfl, hI2⟩ := hp
  exact b_icmp_eq_t 1699 dL_law_1156 (by decide) rfl (K s2 μ2 hI2)
theorem lc_31 {G : GT} {b L : Nat} {xs : Nat → Int32} {d N : Nat} {σ : ST} {μ : SL} (hL : L ≤ 3072) (hN : 6 * N + 6 ≤ L) (hI : INV σ μ N) (K : ∀ (s : ST) (m : SL), INV s m (N + 1) → BL G b L xs (d + 41) 1699 (lN0 G b N) [] (sh G s m)) : BL G b L xs (d + 41) 1161 (lN0 G b N) [] (sh G σ μ) := by
  refine b_aload_n (kk := 1) dL_law_1161 rfl ?_
  refine l_arg 1 dL_law_1162 dL_law_1163 dL_law_1164 (by decide) dL_law_1165 dL_law_1166 (by omega) hL ?_
  refine l_arg 2 dL_law_1167 dL_law_1168 dL_law_1169 (by decide) dL_law_1170 dL_law_1171 (by omega) hL ?_
  refine g_callVp [.int (xs (6 * N + 1)), .int (xs (6 * N + 2))] dL_law_1172 kX11_inform lL_143 a0 rfl rfl (p_inform (d := d) hI) rfl rfl (Nat.le_of_ble_eq_true rfl) (fun r h' hp => ?_)
  obtain ⟨v, s1, μ1, rfl, rfl, h2⟩ := hp
  refine b_aload_n (kk := 2) dL_law_1175 rfl ?_
  refine l_arg 1 dL_law_1176 dL_law_1177 dL_law_1178 (by decide) dL_law_1179 dL_law_1180 (by omega) hL ?_
  refine l_arg 2 dL_law_1181 dL_law_1182 dL_law_1183 (by decide) dL_law_1184 dL_law_1185 (by omega) hL ?_
  refine g_callVp [.int (xs (6 * N + 1)), .int (xs (6 * N + 2))] dL_law_1186 kX12_inform lL_146 a77 rfl rfl h2 rfl rfl (Nat.le_of_ble_eq_true rfl) (fun r h' hp => ?_)
  obtain ⟨rfl, s2, μ2, rfl, hI2⟩ := hp
  exact b_icmp_eq_t 1699 dL_law_1189 (by decide) rfl (K s2 μ2 hI2)
theorem lc_32 {G : GT} {b L : Nat} {xs : Nat → Int32} {d N : Nat} {σ : ST} {μ : SL} (hL : L ≤ 3072) (hN : 6 * N + 6 ≤ L) (hI : INV σ μ N) (K : ∀ (s : ST) (m : SL), INV s m (N + 1) → BL G b L xs (d + 41) 1699 (lN0 G b N) [] (sh G s m)) : BL G b L xs (d + 41) 1194 (lN0 G b N) [] (sh G σ μ) := by
  refine b_aload_n (kk := 1) dL_law_1194 rfl ?_
  refine l_arg 1 dL_law_1195 dL_law_1196 dL_law_1197 (by decide) dL_law_1198 dL_law_1199 (by omega) hL ?_
  refine l_arg 2 dL_law_1200 dL_law_1201 dL_law_1202 (by decide) dL_law_1203 dL_law_1204 (by omega) hL ?_
  refine g_callVp [.int (xs (6 * N + 1)), .int (xs (6 * N + 2))] dL_law_1205 kX11_trial lL_147 a0 rfl rfl (p_trial (d := d) hI (by omega)) rfl rfl (Nat.le_of_ble_eq_true rfl) (fun r h' hp => ?_)
  obtain ⟨v, s1, μ1, rfl, rfl, h2⟩ := hp
  refine b_aload_n (kk := 2) dL_law_1208 rfl ?_
  refine l_arg 1 dL_law_1209 dL_law_1210 dL_law_1211 (by decide) dL_law_1212 dL_law_1213 (by omega) hL ?_
  refine l_arg 2 dL_law_1214 dL_law_1215 dL_law_1216 (by decide) dL_law_1217 dL_law_1218 (by omega) hL ?_
  refine g_callVp [.int (xs (6 * N + 1)), .int (xs (6 * N + 2))] dL_law_1219 kX12_trial lL_150 a77 rfl rfl h2 rfl rfl (Nat.le_of_ble_eq_true rfl) (fun r h' hp => ?_)
  obtain ⟨rfl, s2, μ2, rfl, hI2⟩ := hp
  exact b_icmp_eq_t 1699 dL_law_1222 (by decide) rfl (K s2 μ2 hI2)
theorem lc_33 {G : GT} {b L : Nat} {xs : Nat → Int32} {d N : Nat} {σ : ST} {μ : SL} (hL : L ≤ 3072) (hN : 6 * N + 6 ≤ L) (hI : INV σ μ N) (K : ∀ (s : ST) (m : SL), INV s m (N + 1) → BL G b L xs (d + 41) 1699 (lN0 G b N) [] (sh G s m)) : BL G b L xs (d + 41) 1227 (lN0 G b N) [] (sh G σ μ) := by
  refine b_aload_n (kk := 1) dL_law_1227 rfl ?_
  refine l_arg 1 dL_law_1228 dL_law_1229 dL_law_1230 (by decide) dL_law_1231 dL_law_1232 (by omega) hL ?_
  refine g_callVp [.int (xs (6 * N + 1))] dL_law_1233 kX11_brief lL_151 a0 rfl rfl (p_brief (d := d) hI) rfl rfl (Nat.le_of_ble_eq_true rfl) (fun r h' hp => ?_)
  obtain ⟨v, s1, μ1, rfl, rfl, h2⟩ := hp
  refine b_aload_n (kk := 2) dL_law_1236 rfl ?_
  refine l_arg 1 dL_law_1237 dL_law_1238 dL_law_1239 (by decide) dL_law_1240 dL_law_1241 (by omega) hL ?_
  refine g_callVp [.int (xs (6 * N + 1))] dL_law_1242 kX12_brief lL_154 a77 rfl rfl h2 rfl rfl (Nat.le_of_ble_eq_true rfl) (fun r h' hp => ?_)
  obtain ⟨rfl, s2, μ2, rfl, hI2⟩ := hp
  exact b_icmp_eq_t 1699 dL_law_1245 (by decide) rfl (K s2 μ2 hI2)
theorem lc_34 {G : GT} {b L : Nat} {xs : Nat → Int32} {d N : Nat} {σ : ST} {μ : SL} (hL : L ≤ 3072) (hN : 6 * N + 6 ≤ L) (hI : INV σ μ N) (K : ∀ (s : ST) (m : SL), INV s m (N + 1) → BL G b L xs (d + 41) 1699 (lN0 G b N) [] (sh G s m)) : BL G b L xs (d + 41) 1250 (lN0 G b N) [] (sh G σ μ) := by
  refine b_aload_n (kk := 1) dL_law_1250 rfl ?_
  refine l_arg 1 dL_law_1251 dL_law_1252 dL_law_1253 (by decide) dL_law_1254 dL_law_1255 (by omega) hL ?_
  refine g_callVp [.int (xs (6 * N + 1))] dL_law_1256 kX11_right lL_155 a0 rfl rfl (p_right (d := d) hI) rfl rfl (Nat.le_of_ble_eq_true rfl) (fun r h' hp => ?_)
  obtain ⟨v, s1, μ1, rfl, rfl, h2⟩ := hp
  refine b_aload_n (kk := 2) dL_law_1259 rfl ?_
  refine l_arg 1 dL_law_1260 dL_law_1261 dL_law_1262 (by decide) dL_law_1263 dL_law_1264 (by omega) hL ?_
  refine g_callVp [.int (xs (6 * N + 1))] dL_law_1265 kX12_right lL_158 a77 rfl rfl h2 rfl rfl (Nat.le_of_ble_eq_true rfl) (fun r h' hp => ?_)
  obtain ⟨rfl, s2, μ2, rfl, hI2⟩ := hp
  exact b_icmp_eq_t 1699 dL_law_1268 (by decide) rfl (K s2 μ2 hI2)
theorem lc_35 {G : GT} {b L : Nat} {xs : Nat → Int32} {d N : Nat} {σ : ST} {μ : SL} (hL : L ≤ 3072) (hN : 6 * N + 6 ≤ L) (hI : INV σ μ N) (K : ∀ (s : ST) (m : SL), INV s m (N + 1) → BL G b L xs (d + 41) 1699 (lN0 G b N) [] (sh G s m)) : BL G b L xs (d + 41) 1273 (lN0 G b N) [] (sh G σ μ) := by
  refine b_aload_n (kk := 1) dL_law_1273 rfl ?_
  refine l_arg 1 dL_law_1274 dL_law_1275 dL_law_1276 (by decide) dL_law_1277 dL_law_1278 (by omega) hL ?_
  refine g_callVp [.int (xs (6 * N + 1))] dL_law_1279 kX11_justice lL_159 a0 rfl rfl (p_justice (d := d) hI) rfl rfl (Nat.le_of_ble_eq_true rfl) (fun r h' hp => ?_)
  obtain ⟨v, s1, μ1, rfl, rfl, h2⟩ := hp
  refine b_aload_n (kk := 2) dL_law_1282 rfl ?_
  refine l_arg 1 dL_law_1283 dL_law_1284 dL_law_1285 (by decide) dL_law_1286 dL_law_1287 (by omega) hL ?_
  refine g_callVp [.int (xs (6 * N + 1))] dL_law_1288 kX12_justice lL_162 a77 rfl rfl h2 rfl rfl (Nat.le_of_ble_eq_true rfl) (fun r h' hp => ?_)
  obtain ⟨rfl, s2, μ2, rfl, hI2⟩ := hp
  exact b_icmp_eq_t 1699 dL_law_1291 (by decide) rfl (K s2 μ2 hI2)
theorem lc_36 {G : GT} {b L : Nat} {xs : Nat → Int32} {d N : Nat} {σ : ST} {μ : SL} (hL : L ≤ 3072) (hN : 6 * N + 6 ≤ L) (hI : INV σ μ N) (K : ∀ (s : ST) (m : SL), INV s m (N + 1) → BL G b L xs (d + 41) 1699 (lN0 G b N) [] (sh G s m)) : BL G b L xs (d + 41) 1296 (lN0 G b N) [] (sh G σ μ) := by
  refine b_aload_n (kk := 1) dL_law_1296 rfl ?_
  refine g_callVp [] dL_law_1297 kX11_bestLaw lL_163 a0 rfl rfl (p_bestLaw (d := d) hI) rfl rfl (Nat.le_of_ble_eq_true rfl) (fun r h' hp => ?_)
  obtain ⟨v, s1, μ1, rfl, rfl, h2⟩ := hp
  refine b_aload_n (kk := 2) dL_law_1300 rfl ?_
  refine g_callVp [] dL_law_1301 kX12_bestLaw lL_166 a77 rfl rfl h2 rfl rfl (Nat.le_of_ble_eq_true rfl) (fun r h' hp => ?_)
  obtain ⟨rfl, s2, μ2, rfl, hI2⟩ := hp
  exact b_icmp_eq_t 1699 dL_law_1304 (by decide) rfl (K s2 μ2 hI2)
theorem lc_37 {G : GT} {b L : Nat} {xs : Nat → Int32} {d N : Nat} {σ : ST} {μ : SL} (hL : L ≤ 3072) (hN : 6 * N + 6 ≤ L) (hI : INV σ μ N) (K : ∀ (s : ST) (m : SL), INV s m (N + 1) → BL G b L xs (d + 41) 1699 (lN0 G b N) [] (sh G s m)) : BL G b L xs (d + 41) 1309 (lN0 G b N) [] (sh G σ μ) := by
  refine b_aload_n (kk := 1) dL_law_1309 rfl ?_
  refine l_arg 1 dL_law_1310 dL_law_1311 dL_law_1312 (by decide) dL_law_1313 dL_law_1314 (by omega) hL ?_
  refine l_arg 2 dL_law_1315 dL_law_1316 dL_law_1317 (by decide) dL_law_1318 dL_law_1319 (by omega) hL ?_
  refine g_callVp [.int (xs (6 * N + 1)), .int (xs (6 * N + 2))] dL_law_1320 kX11_news lL_167 a0 rfl rfl (p_news (d := d) hI) rfl rfl (Nat.le_of_ble_eq_true rfl) (fun r h' hp => ?_)
  obtain ⟨v, s1, μ1, rfl, rfl, h2⟩ := hp
  refine b_aload_n (kk := 2) dL_law_1323 rfl ?_
  refine l_arg 1 dL_law_1324 dL_law_1325 dL_law_1326 (by decide) dL_law_1327 dL_law_1328 (by omega) hL ?_
  refine l_arg 2 dL_law_1329 dL_law_1330 dL_law_1331 (by decide) dL_law_1332 dL_law_1333 (by omega) hL ?_
  refine g_callVp [.int (xs (6 * N + 1)), .int (xs (6 * N + 2))] dL_law_1334 kX12_news lL_170 a77 rfl rfl h2 rfl rfl (Nat.le_of_ble_eq_true rfl) (fun r h' hp => ?_)
  obtain ⟨rfl, s2, μ2, rfl, hI2⟩ := hp
  exact b_icmp_eq_t 1699 dL_law_1337 (by decide) rfl (K s2 μ2 hI2)
theorem lc_38 {G : GT} {b L : Nat} {xs : Nat → Int32} {d N : Nat} {σ : ST} {μ : SL} (hL : L ≤ 3072) (hN : 6 * N + 6 ≤ L) (hI : INV σ μ N) (K : ∀ (s : ST) (m : SL), INV s m (N + 1) → BL G b L xs (d + 41) 1699 (lN0 G b N) [] (sh G s m)) : BL G b L xs (d + 41) 1342 (lN0 G b N) [] (sh G σ μ) := by
  refine b_aload_n (kk := 1) dL_law_1342 rfl ?_
  refine l_arg 1 dL_law_1343 dL_law_1344 dL_law_1345 (by decide) dL_law_1346 dL_law_1347 (by omega) hL ?_
  refine g_callVp [.int (xs (6 * N + 1))] dL_law_1348 kX11_latest lL_171 a0 rfl rfl (p_latest (d := d) hI) rfl rfl (Nat.le_of_ble_eq_true rfl) (fun r h' hp => ?_)
  obtain ⟨v, s1, μ1, rfl, rfl, h2⟩ := hp
  refine b_aload_n (kk := 2) dL_law_1351 rfl ?_
  refine l_arg 1 dL_law_1352 dL_law_1353 dL_law_1354 (by decide) dL_law_1355 dL_law_1356 (by omega) hL ?_
  refine g_callVp [.int (xs (6 * N + 1))] dL_law_1357 kX12_latest lL_174 a77 rfl rfl h2 rfl rfl (Nat.le_of_ble_eq_true rfl) (fun r h' hp => ?_)
  obtain ⟨rfl, s2, μ2, rfl, hI2⟩ := hp
  exact b_icmp_eq_t 1699 dL_law_1360 (by decide) rfl (K s2 μ2 hI2)
theorem lc_39 {G : GT} {b L : Nat} {xs : Nat → Int32} {d N : Nat} {σ : ST} {μ : SL} (hL : L ≤ 3072) (hN : 6 * N + 6 ≤ L) (hI : INV σ μ N) (K : ∀ (s : ST) (m : SL), INV s m (N + 1) → BL G b L xs (d + 41) 1699 (lN0 G b N) [] (sh G s m)) : BL G b L xs (d + 41) 1365 (lN0 G b N) [] (sh G σ μ) := by
  refine b_aload_n (kk := 1) dL_law_1365 rfl ?_
  refine l_arg 1 dL_law_1366 dL_law_1367 dL_law_1368 (by decide) dL_law_1369 dL_law_1370 (by omega) hL ?_
  refine l_arg 2 dL_law_1371 dL_law_1372 dL_law_1373 (by decide) dL_law_1374 dL_law_1375 (by omega) hL ?_
  refine g_callVp [.int (xs (6 * N + 1)), .int (xs (6 * N + 2))] dL_law_1376 kX11_leastIn lL_175 a0 rfl rfl (p_leastIn (d := d) hI) rfl rfl (Nat.le_of_ble_eq_true rfl) (fun r h' hp => ?_)
  obtain ⟨v, s1, μ1, rfl, rfl, h2⟩ := hp
  refine b_aload_n (kk := 2) dL_law_1379 rfl ?_
  refine l_arg 1 dL_law_1380 dL_law_1381 dL_law_1382 (by decide) dL_law_1383 dL_law_1384 (by omega) hL ?_
  refine l_arg 2 dL_law_1385 dL_law_1386 dL_law_1387 (by decide) dL_law_1388 dL_law_1389 (by omega) hL ?_
  refine g_callVp [.int (xs (6 * N + 1)), .int (xs (6 * N + 2))] dL_law_1390 kX12_leastIn lL_178 a77 rfl rfl h2 rfl rfl (Nat.le_of_ble_eq_true rfl) (fun r h' hp => ?_)
  obtain ⟨rfl, s2, μ2, rfl, hI2⟩ := hp
  exact b_icmp_eq_t 1699 dL_law_1393 (by decide) rfl (K s2 μ2 hI2)
theorem lc_40 {G : GT} {b L : Nat} {xs : Nat → Int32} {d N : Nat} {σ : ST} {μ : SL} (hL : L ≤ 3072) (hN : 6 * N + 6 ≤ L) (hI : INV σ μ N) (K : ∀ (s : ST) (m : SL), INV s m (N + 1) → BL G b L xs (d + 41) 1699 (lN0 G b N) [] (sh G s m)) : BL G b L xs (d + 41) 1398 (lN0 G b N) [] (sh G σ μ) := by
  refine b_aload_n (kk := 1) dL_law_1398 rfl ?_
  refine g_callVp [] dL_law_1399 kX11_calm lL_179 a0 rfl rfl (p_calm (d := d) hI) rfl rfl (Nat.le_of_ble_eq_true rfl) (fun r h' hp => ?_)
  obtain ⟨v, s1, μ1, rfl, rfl, h2⟩ := hp
  refine b_aload_n (kk := 2) dL_law_1402 rfl ?_
  refine g_callVp [] dL_law_1403 kX12_calm lL_182 a77 rfl rfl h2 rfl rfl (Nat.le_of_ble_eq_true rfl) (fun r h' hp => ?_)
  obtain ⟨rfl, s2, μ2, rfl, hI2⟩ := hp
  exact b_icmp_eq_t 1699 dL_law_1406 (by decide) rfl (K s2 μ2 hI2)
theorem lc_41 {G : GT} {b L : Nat} {xs : Nat → Int32} {d N : Nat} {σ : ST} {μ : SL} (hL : L ≤ 3072) (hN : 6 * N + 6 ≤ L) (hI : INV σ μ N) (K : ∀ (s : ST) (m : SL), INV s m (N + 1) → BL G b L xs (d + 41) 1699 (lN0 G b N) [] (sh G s m)) : BL G b L xs (d + 41) 1411 (lN0 G b N) [] (sh G σ μ) := by
  refine b_aload_n (kk := 1) dL_law_1411 rfl ?_
  refine l_arg 1 dL_law_1412 dL_law_1413 dL_law_1414 (by decide) dL_law_1415 dL_law_1416 (by omega) hL ?_
  refine g_callVp [.int (xs (6 * N + 1))] dL_law_1417 kX11_fitting lL_183 a0 rfl rfl (p_fitting (d := d) hI) rfl rfl (Nat.le_of_ble_eq_true rfl) (fun r h' hp => ?_)
  obtain ⟨v, s1, μ1, rfl, rfl, h2⟩ := hp
  refine b_aload_n (kk := 2) dL_law_1420 rfl ?_
  refine l_arg 1 dL_law_1421 dL_law_1422 dL_law_1423 (by decide) dL_law_1424 dL_law_1425 (by omega) hL ?_
  refine g_callVp [.int (xs (6 * N + 1))] dL_law_1426 kX12_fitting lL_186 a77 rfl rfl h2 rfl rfl (Nat.le_of_ble_eq_true rfl) (fun r h' hp => ?_)
  obtain ⟨rfl, s2, μ2, rfl, hI2⟩ := hp
  exact b_icmp_eq_t 1699 dL_law_1429 (by decide) rfl (K s2 μ2 hI2)
theorem lc_42 {G : GT} {b L : Nat} {xs : Nat → Int32} {d N : Nat} {σ : ST} {μ : SL} (hL : L ≤ 3072) (hN : 6 * N + 6 ≤ L) (hI : INV σ μ N) (K : ∀ (s : ST) (m : SL), INV s m (N + 1) → BL G b L xs (d + 41) 1699 (lN0 G b N) [] (sh G s m)) : BL G b L xs (d + 41) 1434 (lN0 G b N) [] (sh G σ μ) := by
  refine b_aload_n (kk := 1) dL_law_1434 rfl ?_
  refine l_arg 1 dL_law_1435 dL_law_1436 dL_law_1437 (by decide) dL_law_1438 dL_law_1439 (by omega) hL ?_
  refine g_callVp [.int (xs (6 * N + 1))] dL_law_1440 kX11_sure lL_187 a0 rfl rfl (p_sure (d := d) hI) rfl rfl (Nat.le_of_ble_eq_true rfl) (fun r h' hp => ?_)
  obtain ⟨v, s1, μ1, rfl, rfl, h2⟩ := hp
  refine b_aload_n (kk := 2) dL_law_1443 rfl ?_
  refine l_arg 1 dL_law_1444 dL_law_1445 dL_law_1446 (by decide) dL_law_1447 dL_law_1448 (by omega) hL ?_
  refine g_callVp [.int (xs (6 * N + 1))] dL_law_1449 kX12_sure lL_190 a77 rfl rfl h2 rfl rfl (Nat.le_of_ble_eq_true rfl) (fun r h' hp => ?_)
  obtain ⟨rfl, s2, μ2, rfl, hI2⟩ := hp
  exact b_icmp_eq_t 1699 dL_law_1452 (by decide) rfl (K s2 μ2 hI2)
theorem lc_43 {G : GT} {b L : Nat} {xs : Nat → Int32} {d N : Nat} {σ : ST} {μ : SL} (hL : L ≤ 3072) (hN : 6 * N + 6 ≤ L) (hI : INV σ μ N) (K : ∀ (s : ST) (m : SL), INV s m (N + 1) → BL G b L xs (d + 41) 1699 (lN0 G b N) [] (sh G s m)) : BL G b L xs (d + 41) 1457 (lN0 G b N) [] (sh G σ μ) := by
  refine b_aload_n (kk := 1) dL_law_1457 rfl ?_
  refine l_arg 1 dL_law_1458 dL_law_1459 dL_law_1460 (by decide) dL_law_1461 dL_law_1462 (by omega) hL ?_
  refine l_arg 2 dL_law_1463 dL_law_1464 dL_law_1465 (by decide) dL_law_1466 dL_law_1467 (by omega) hL ?_
  refine g_callVp [.int (xs (6 * N + 1)), .int (xs (6 * N + 2))] dL_law_1468 kX11_questions lL_191 a0 rfl rfl (p_questions (d := d) hI) rfl rfl (Nat.le_of_ble_eq_true rfl) (fun r h' hp => ?_)
  obtain ⟨v, s1, μ1, rfl, rfl, h2⟩ := hp
  refine b_aload_n (kk := 2) dL_law_1471 rfl ?_
  refine l_arg 1 dL_law_1472 dL_law_1473 dL_law_1474 (by decide) dL_law_1475 dL_law_1476 (by omega) hL ?_
  refine l_arg 2 dL_law_1477 dL_law_1478 dL_law_1479 (by decide) dL_law_1480 dL_law_1481 (by omega) hL ?_
  refine g_callVp [.int (xs (6 * N + 1)), .int (xs (6 * N + 2))] dL_law_1482 kX12_questions lL_194 a77 rfl rfl h2 rfl rfl (Nat.le_of_ble_eq_true rfl) (fun r h' hp => ?_)
  obtain ⟨rfl, s2, μ2, rfl, hI2⟩ := hp
  exact b_icmp_eq_t 1699 dL_law_1485 (by decide) rfl (K s2 μ2 hI2)
theorem lc_44 {G : GT} {b L : Nat} {xs : Nat → Int32} {d N : Nat} {σ : ST} {μ : SL} (hL : L ≤ 3072) (hN : 6 * N + 6 ≤ L) (hI : INV σ μ N) (K : ∀ (s : ST) (m : SL), INV s m (N + 1) → BL G b L xs (d + 41) 1699 (lN0 G b N) [] (sh G s m)) : BL G b L xs (d + 41) 1490 (lN0 G b N) [] (sh G σ μ) := by
  refine b_aload_n (kk := 1) dL_law_1490 rfl ?_
  refine l_arg 1 dL_law_1491 dL_law_1492 dL_law_1493 (by decide) dL_law_1494 dL_law_1495 (by omega) hL ?_
  refine l_arg 2 dL_law_1496 dL_law_1497 dL_law_1498 (by decide) dL_law_1499 dL_law_1500 (by omega) hL ?_
  refine l_arg 3 dL_law_1501 dL_law_1502 dL_law_1503 (by decide) dL_law_1504 dL_law_1505 (by omega) hL ?_
  refine g_callVp [.int (xs (6 * N + 1)), .int (xs (6 * N + 2)), .int (xs (6 * N + 3))] dL_law_1506 kX11_numbers lL_195 a0 rfl rfl (p_numbers (d := d) hI) rfl rfl (Nat.le_of_ble_eq_true rfl) (fun r h' hp => ?_)
  obtain ⟨v, s1, μ1, rfl, rfl, h2⟩ := hp
  refine b_aload_n (kk := 2) dL_law_1509 rfl ?_
  refine l_arg 1 dL_law_1510 dL_law_1511 dL_law_1512 (by decide) dL_law_1513 dL_law_1514 (by omega) hL ?_
  refine l_arg 2 dL_law_1515 dL_law_1516 dL_law_1517 (by decide) dL_law_1518 dL_law_1519 (by omega) hL ?_
  refine l_arg 3 dL_law_1520 dL_law_1521 dL_law_1522 (by decide) dL_law_1523 dL_law_1524 (by omega) hL ?_
  refine g_callVp [.int (xs (6 * N + 1)), .int (xs (6 * N + 2)), .int (xs (6 * N + 3))] dL_law_1525 kX12_numbers lL_198 a77 rfl rfl h2 rfl rfl (Nat.le_of_ble_eq_true rfl) (fun r h' hp => ?_)
  obtain ⟨rfl, s2, μ2, rfl, hI2⟩ := hp
  exact b_icmp_eq_t 1699 dL_law_1528 (by decide) rfl (K s2 μ2 hI2)
theorem lc_45 {G : GT} {b L : Nat} {xs : Nat → Int32} {d N : Nat} {σ : ST} {μ : SL} (hL : L ≤ 3072) (hN : 6 * N + 6 ≤ L) (hI : INV σ μ N) (K : ∀ (s : ST) (m : SL), INV s m (N + 1) → BL G b L xs (d + 41) 1699 (lN0 G b N) [] (sh G s m)) : BL G b L xs (d + 41) 1533 (lN0 G b N) [] (sh G σ μ) := by
  refine b_aload_n (kk := 1) dL_law_1533 rfl ?_
  refine l_arg 1 dL_law_1534 dL_law_1535 dL_law_1536 (by decide) dL_law_1537 dL_law_1538 (by omega) hL ?_
  refine l_arg 2 dL_law_1539 dL_law_1540 dL_law_1541 (by decide) dL_law_1542 dL_law_1543 (by omega) hL ?_
  refine l_arg 3 dL_law_1544 dL_law_1545 dL_law_1546 (by decide) dL_law_1547 dL_law_1548 (by omega) hL ?_
  refine b_i2l dL_law_1549 ?_
  refine b_bipush (v := nI 32) dL_law_1550 (by decide) ?_
  refine b_lshl dL_law_1552 ?_
  refine l_arg 4 dL_law_1553 dL_law_1554 dL_law_1555 (by decide) dL_law_1556 dL_law_1557 (by omega) hL ?_
  refine b_i2l dL_law_1558 ?_
  refine b_ldc2 dL_law_1559 cvL_199 ?_
  refine b_land dL_law_1562 ?_
  refine b_lor dL_law_1563 ?_
  refine g_callVp [.int (xs (6 * N + 1)), .int (xs (6 * N + 2)), .long (((xs (6 * N + 3)).toInt64 <<< ((nI 32).toInt64 &&& 63)) ||| ((xs (6 * N + 4)).toInt64 &&& 4294967295))] dL_law_1564 kX11_write lL_201 a0 rfl rfl (p_write (d := d) hI) rfl rfl (Nat.le_of_ble_eq_true rfl) (fun r h' hp => ?_)
  obtain ⟨v, s1, μ1, rfl, rfl, h2⟩ := hp
  refine b_aload_n (kk := 2) dL_law_1567 rfl ?_
  refine l_arg 1 dL_law_1568 dL_law_1569 dL_law_1570 (by decide) dL_law_1571 dL_law_1572 (by omega) hL ?_
  refine l_arg 2 dL_law_1573 dL_law_1574 dL_law_1575 (by decide) dL_law_1576 dL_law_1577 (by omega) hL ?_
  refine l_arg 3 dL_law_1578 dL_law_1579 dL_law_1580 (by decide) dL_law_1581 dL_law_1582 (by omega) hL ?_
  refine b_i2l dL_law_1583 ?_
  refine b_bipush (v := nI 32) dL_law_1584 (by decide) ?_
  refine b_lshl dL_law_1586 ?_
  refine l_arg 4 dL_law_1587 dL_law_1588 dL_law_1589 (by decide) dL_law_1590 dL_law_1591 (by omega) hL ?_
  refine b_i2l dL_law_1592 ?_
  refine b_ldc2 dL_law_1593 cvL_199 ?_
  refine b_land dL_law_1596 ?_
  refine b_lor dL_law_1597 ?_
  refine g_callVp [.int (xs (6 * N + 1)), .int (xs (6 * N + 2)), .long (((xs (6 * N + 3)).toInt64 <<< ((nI 32).toInt64 &&& 63)) ||| ((xs (6 * N + 4)).toInt64 &&& 4294967295))] dL_law_1598 kX12_write lL_205 a77 rfl rfl h2 rfl rfl (Nat.le_of_ble_eq_true rfl) (fun r h' hp => ?_)
  obtain ⟨rfl, s2, μ2, rfl, hI2⟩ := hp
  refine b_lcmp dL_law_1601 ?_
  exact b_if_eq_t 1699 dL_law_1602 (by decide) (lcmp_self v) (K s2 μ2 hI2)
theorem lc_46 {G : GT} {b L : Nat} {xs : Nat → Int32} {d N : Nat} {σ : ST} {μ : SL} (hL : L ≤ 3072) (hN : 6 * N + 6 ≤ L) (hI : INV σ μ N) (K : ∀ (s : ST) (m : SL), INV s m (N + 1) → BL G b L xs (d + 41) 1699 (lN0 G b N) [] (sh G s m)) : BL G b L xs (d + 41) 1607 (lN0 G b N) [] (sh G σ μ) := by
  refine b_aload_n (kk := 1) dL_law_1607 rfl ?_
  refine l_arg 1 dL_law_1608 dL_law_1609 dL_law_1610 (by decide) dL_law_1611 dL_law_1612 (by omega) hL ?_
  refine g_callVp [.int (xs (6 * N + 1))] dL_law_1613 kX11_copy lL_206 a0 rfl rfl (p_copy (d := d) hI) rfl rfl (Nat.le_of_ble_eq_true rfl) (fun r h' hp => ?_)
  obtain ⟨v, s1, μ1, rfl, rfl, h2⟩ := hp
  refine b_aload_n (kk := 2) dL_law_1616 rfl ?_
  refine l_arg 1 dL_law_1617 dL_law_1618 dL_law_1619 (by decide) dL_law_1620 dL_law_1621 (by omega) hL ?_
  refine g_callVp [.int (xs (6 * N + 1))] dL_law_1622 kX12_copy lL_209 a77 rfl rfl h2 rfl rfl (Nat.le_of_ble_eq_true rfl) (fun r h' hp => ?_)
  obtain ⟨rfl, s2, μ2, rfl, hI2⟩ := hp
  exact b_icmp_eq_t 1699 dL_law_1625 (by decide) rfl (K s2 μ2 hI2)
theorem lc_47 {G : GT} {b L : Nat} {xs : Nat → Int32} {d N : Nat} {σ : ST} {μ : SL} (hL : L ≤ 3072) (hN : 6 * N + 6 ≤ L) (hI : INV σ μ N) (K : ∀ (s : ST) (m : SL), INV s m (N + 1) → BL G b L xs (d + 41) 1699 (lN0 G b N) [] (sh G s m)) : BL G b L xs (d + 41) 1630 (lN0 G b N) [] (sh G σ μ) := by
  refine b_aload_n (kk := 1) dL_law_1630 rfl ?_
  refine l_arg 1 dL_law_1631 dL_law_1632 dL_law_1633 (by decide) dL_law_1634 dL_law_1635 (by omega) hL ?_
  refine g_callVp [.int (xs (6 * N + 1))] dL_law_1636 kX11_image lL_210 a0 rfl rfl (p_image (d := d) hI) rfl rfl (Nat.le_of_ble_eq_true rfl) (fun r h' hp => ?_)
  obtain ⟨v, s1, μ1, rfl, rfl, h2⟩ := hp
  refine b_aload_n (kk := 2) dL_law_1639 rfl ?_
  refine l_arg 1 dL_law_1640 dL_law_1641 dL_law_1642 (by decide) dL_law_1643 dL_law_1644 (by omega) hL ?_
  refine g_callVp [.int (xs (6 * N + 1))] dL_law_1645 kX12_image lL_213 a77 rfl rfl h2 rfl rfl (Nat.le_of_ble_eq_true rfl) (fun r h' hp => ?_)
  obtain ⟨rfl, s2, μ2, rfl, hI2⟩ := hp
  exact b_icmp_eq_t 1699 dL_law_1648 (by decide) rfl (K s2 μ2 hI2)
theorem lc_48 {G : GT} {b L : Nat} {xs : Nat → Int32} {d N : Nat} {σ : ST} {μ : SL} (hL : L ≤ 3072) (hN : 6 * N + 6 ≤ L) (hI : INV σ μ N) (K : ∀ (s : ST) (m : SL), INV s m (N + 1) → BL G b L xs (d + 41) 1699 (lN0 G b N) [] (sh G s m)) : BL G b L xs (d + 41) 1653 (lN0 G b N) [] (sh G σ μ) := by
  refine b_aload_n (kk := 1) dL_law_1653 rfl ?_
  refine l_arg 1 dL_law_1654 dL_law_1655 dL_law_1656 (by decide) dL_law_1657 dL_law_1658 (by omega) hL ?_
  refine g_callVp [.int (xs (6 * N + 1))] dL_law_1659 kX11_restore lL_214 a0 rfl rfl (p_restore (d := d) hI) rfl rfl (Nat.le_of_ble_eq_true rfl) (fun r h' hp => ?_)
  obtain ⟨v, s1, μ1, rfl, rfl, h2⟩ := hp
  refine b_aload_n (kk := 2) dL_law_1662 rfl ?_
  refine l_arg 1 dL_law_1663 dL_law_1664 dL_law_1665 (by decide) dL_law_1666 dL_law_1667 (by omega) hL ?_
  refine g_callVp [.int (xs (6 * N + 1))] dL_law_1668 kX12_restore lL_217 a77 rfl rfl h2 rfl rfl (Nat.le_of_ble_eq_true rfl) (fun r h' hp => ?_)
  obtain ⟨rfl, s2, μ2, rfl, hI2⟩ := hp
  exact b_icmp_eq_t 1699 dL_law_1671 (by decide) rfl (K s2 μ2 hI2)
theorem lc_49 {G : GT} {b L : Nat} {xs : Nat → Int32} {d N : Nat} {σ : ST} {μ : SL} (hL : L ≤ 3072) (hN : 6 * N + 6 ≤ L) (hI : INV σ μ N) (K : ∀ (s : ST) (m : SL), INV s m (N + 1) → BL G b L xs (d + 41) 1699 (lN0 G b N) [] (sh G s m)) : BL G b L xs (d + 41) 1676 (lN0 G b N) [] (sh G σ μ) := by
  refine b_aload_n (kk := 1) dL_law_1676 rfl ?_
  refine l_arg 1 dL_law_1677 dL_law_1678 dL_law_1679 (by decide) dL_law_1680 dL_law_1681 (by omega) hL ?_
  refine g_callVp [.int (xs (6 * N + 1))] dL_law_1682 kX11_count lL_218 a0 rfl rfl (p_count (d := d) hI) rfl rfl (Nat.le_of_ble_eq_true rfl) (fun r h' hp => ?_)
  obtain ⟨v, s1, μ1, rfl, rfl, h2⟩ := hp
  refine b_aload_n (kk := 2) dL_law_1685 rfl ?_
  refine l_arg 1 dL_law_1686 dL_law_1687 dL_law_1688 (by decide) dL_law_1689 dL_law_1690 (by omega) hL ?_
  refine g_callVp [.int (xs (6 * N + 1))] dL_law_1691 kX12_count lL_221 a77 rfl rfl h2 rfl rfl (Nat.le_of_ble_eq_true rfl) (fun r h' hp => ?_)
  obtain ⟨rfl, s2, μ2, rfl, hI2⟩ := hp
  exact b_icmp_eq_t 1699 dL_law_1694 (by decide) rfl (K s2 μ2 hI2)
