/-! ===== THE LAW'S WALK: its fifty cases ===== -/
theorem lgc_self (x : Int64) : lg_cmp x x = 0 := by
  unfold lg_cmp
  simp
section CS
variable {E : mx_E} {L : Nat} {xs : Nat → Int32} {bc bs n : Nat} {S T : Nat → Int → Int} {D : List mx_C}
theorem cs_0 (h : SIM n S T D) (hn : n ≤ 600) (hi : 6 * (n : Int) + 6 ≤ L) (hL : L ≤ 3072) (k : ∀ S1 T1 D1, SIM (n + 1) S1 T1 D1 → LEv E L xs bc bs 1557 (LV n) [] (W5 S1 T1 D1)) : LEv E L xs (bc + 54) (bs + 7603) 248 (LV n) [] (W5 S T D) := by
  refine E_aload_n 1 dL_law_248 rfl rfl ?_
  refine L_arg (i := 6 * (n : Int)) (k := 1) (by omega) hL rfl rfl dL_law_249 dL_law_250 dL_law_251 dL_law_252 dL_law_253 ?_
  refine L_arg (i := 6 * (n : Int)) (k := 2) (by omega) hL rfl rfl dL_law_254 dL_law_255 dL_law_256 dL_law_257 dL_law_258 ?_
  refine L_arg (i := 6 * (n : Int)) (k := 3) (by omega) hL rfl rfl dL_law_259 dL_law_260 dL_law_261 dL_law_262 dL_law_263 ?_
  refine L_arg (i := 6 * (n : Int)) (k := 4) (by omega) hL rfl rfl dL_law_264 dL_law_265 dL_law_266 dL_law_267 dL_law_268 ?_
  refine L_arg (i := 6 * (n : Int)) (k := 5) (by omega) hL rfl rfl dL_law_269 dL_law_270 dL_law_271 dL_law_272 dL_law_273 ?_
  refine E_callv (n := 5) 0 [.int (jI (xv xs (6 * (n : Int) + 1))), .int (jI (xv xs (6 * (n : Int) + 2))), .int (jI (xv xs (6 * (n : Int) + 3))), .int (jI (xv xs (6 * (n : Int) + 4))), .int (jI (xv xs (6 * (n : Int) + 5)))] vL_13 dL_law_274 (pr_feed h (xv_b xs _) (xv_b xs _) (xv_b xs _) (xv_b xs _) (xv_b xs _)) (ci := 10) rfl rfl rfl (by decide) ⟨Nat.le_of_ble_eq_true rfl, Nat.le_of_ble_eq_true rfl⟩ bc bs (by omega) (by omega) _ rfl ?_
  rintro r hp ⟨v, S1, D1, rfl, rfl, hN⟩
  refine E_aload_n 2 dL_law_277 rfl rfl ?_
  refine L_arg (i := 6 * (n : Int)) (k := 1) (by omega) hL rfl rfl dL_law_278 dL_law_279 dL_law_280 dL_law_281 dL_law_282 ?_
  refine L_arg (i := 6 * (n : Int)) (k := 2) (by omega) hL rfl rfl dL_law_283 dL_law_284 dL_law_285 dL_law_286 dL_law_287 ?_
  refine L_arg (i := 6 * (n : Int)) (k := 3) (by omega) hL rfl rfl dL_law_288 dL_law_289 dL_law_290 dL_law_291 dL_law_292 ?_
  refine L_arg (i := 6 * (n : Int)) (k := 4) (by omega) hL rfl rfl dL_law_293 dL_law_294 dL_law_295 dL_law_296 dL_law_297 ?_
  refine L_arg (i := 6 * (n : Int)) (k := 5) (by omega) hL rfl rfl dL_law_298 dL_law_299 dL_law_300 dL_law_301 dL_law_302 ?_
  refine E_callv (n := 5) 36 [.int (jI (xv xs (6 * (n : Int) + 1))), .int (jI (xv xs (6 * (n : Int) + 2))), .int (jI (xv xs (6 * (n : Int) + 3))), .int (jI (xv xs (6 * (n : Int) + 4))), .int (jI (xv xs (6 * (n : Int) + 5)))] vL_17 dL_law_303 hN (ci := 11) rfl rfl rfl (by show 1 + 0 ≤ 8; decide) ⟨Nat.le_of_ble_eq_true rfl, Nat.le_of_ble_eq_true rfl⟩ bc bs (by omega) (by omega) _ rfl ?_
  rintro r hp ⟨rfl, T1, rfl, hS⟩
  exact E_icmp_eq 1557 dL_law_306 rfl (fun _ => k _ _ _ hS) (fun e => absurd rfl e)
theorem cs_1 (h : SIM n S T D) (hn : n ≤ 600) (hi : 6 * (n : Int) + 6 ≤ L) (hL : L ≤ 3072) (k : ∀ S1 T1 D1, SIM (n + 1) S1 T1 D1 → LEv E L xs bc bs 1557 (LV n) [] (W5 S1 T1 D1)) : LEv E L xs (bc + 54) (bs + 7603) 311 (LV n) [] (W5 S T D) := by
  refine E_aload_n 1 dL_law_311 rfl rfl ?_
  refine L_arg (i := 6 * (n : Int)) (k := 1) (by omega) hL rfl rfl dL_law_312 dL_law_313 dL_law_314 dL_law_315 dL_law_316 ?_
  refine E_callv (n := 1) 0 [.int (jI (xv xs (6 * (n : Int) + 1)))] vL_18 dL_law_317 (pr_end h (xv_b xs _)) (ci := 10) rfl rfl rfl (by decide) ⟨Nat.le_of_ble_eq_true rfl, Nat.le_of_ble_eq_true rfl⟩ bc bs (by omega) (by omega) _ rfl ?_
  rintro r hp ⟨v, S1, D1, rfl, rfl, hN⟩
  refine E_aload_n 2 dL_law_320 rfl rfl ?_
  refine L_arg (i := 6 * (n : Int)) (k := 1) (by omega) hL rfl rfl dL_law_321 dL_law_322 dL_law_323 dL_law_324 dL_law_325 ?_
  refine E_callv (n := 1) 36 [.int (jI (xv xs (6 * (n : Int) + 1)))] vL_22 dL_law_326 hN (ci := 11) rfl rfl rfl (by show 1 + 0 ≤ 8; decide) ⟨Nat.le_of_ble_eq_true rfl, Nat.le_of_ble_eq_true rfl⟩ bc bs (by omega) (by omega) _ rfl ?_
  rintro r hp ⟨rfl, T1, rfl, hS⟩
  exact E_icmp_eq 1557 dL_law_329 rfl (fun _ => k _ _ _ hS) (fun e => absurd rfl e)
theorem cs_2 (h : SIM n S T D) (hn : n ≤ 600) (hi : 6 * (n : Int) + 6 ≤ L) (hL : L ≤ 3072) (k : ∀ S1 T1 D1, SIM (n + 1) S1 T1 D1 → LEv E L xs bc bs 1557 (LV n) [] (W5 S1 T1 D1)) : LEv E L xs (bc + 54) (bs + 7603) 334 (LV n) [] (W5 S T D) := by
  refine E_aload_n 1 dL_law_334 rfl rfl ?_
  refine E_callv (n := 0) 0 [] vL_23 dL_law_335 (pr_text h) (ci := 10) rfl rfl rfl (by decide) ⟨Nat.le_of_ble_eq_true rfl, Nat.le_of_ble_eq_true rfl⟩ bc bs (by omega) (by omega) _ rfl ?_
  rintro r hp ⟨v, S1, D1, rfl, rfl, hN⟩
  refine E_aload_n 2 dL_law_338 rfl rfl ?_
  refine E_callv (n := 0) 36 [] vL_27 dL_law_339 hN (ci := 11) rfl rfl rfl (by show 1 + 0 ≤ 8; decide) ⟨Nat.le_of_ble_eq_true rfl, Nat.le_of_ble_eq_true rfl⟩ bc bs (by omega) (by omega) _ rfl ?_
  rintro r hp ⟨rfl, T1, rfl, hS⟩
  exact E_icmp_eq 1557 dL_law_342 rfl (fun _ => k _ _ _ hS) (fun e => absurd rfl e)
theorem cs_3 (h : SIM n S T D) (hn : n ≤ 600) (hi : 6 * (n : Int) + 6 ≤ L) (hL : L ≤ 3072) (k : ∀ S1 T1 D1, SIM (n + 1) S1 T1 D1 → LEv E L xs bc bs 1557 (LV n) [] (W5 S1 T1 D1)) : LEv E L xs (bc + 54) (bs + 7603) 347 (LV n) [] (W5 S T D) := by
  refine E_aload_n 1 dL_law_347 rfl rfl ?_
  refine L_arg (i := 6 * (n : Int)) (k := 1) (by omega) hL rfl rfl dL_law_348 dL_law_349 dL_law_350 dL_law_351 dL_law_352 ?_
  refine E_callv (n := 1) 0 [.int (jI (xv xs (6 * (n : Int) + 1)))] vL_28 dL_law_353 (pr_fault h (xv_b xs _)) (ci := 10) rfl rfl rfl (by decide) ⟨Nat.le_of_ble_eq_true rfl, Nat.le_of_ble_eq_true rfl⟩ bc bs (by omega) (by omega) _ rfl ?_
  rintro r hp ⟨v, S1, D1, rfl, rfl, hN⟩
  refine E_aload_n 2 dL_law_356 rfl rfl ?_
  refine L_arg (i := 6 * (n : Int)) (k := 1) (by omega) hL rfl rfl dL_law_357 dL_law_358 dL_law_359 dL_law_360 dL_law_361 ?_
  refine E_callv (n := 1) 36 [.int (jI (xv xs (6 * (n : Int) + 1)))] vL_31 dL_law_362 hN (ci := 11) rfl rfl rfl (by show 1 + 0 ≤ 8; decide) ⟨Nat.le_of_ble_eq_true rfl, Nat.le_of_ble_eq_true rfl⟩ bc bs (by omega) (by omega) _ rfl ?_
  rintro r hp ⟨rfl, T1, rfl, hS⟩
  exact E_icmp_eq 1557 dL_law_365 rfl (fun _ => k _ _ _ hS) (fun e => absurd rfl e)
theorem cs_4 (h : SIM n S T D) (hn : n ≤ 600) (hi : 6 * (n : Int) + 6 ≤ L) (hL : L ≤ 3072) (k : ∀ S1 T1 D1, SIM (n + 1) S1 T1 D1 → LEv E L xs bc bs 1557 (LV n) [] (W5 S1 T1 D1)) : LEv E L xs (bc + 54) (bs + 7603) 370 (LV n) [] (W5 S T D) := by
  refine E_aload_n 1 dL_law_370 rfl rfl ?_
  refine L_arg (i := 6 * (n : Int)) (k := 1) (by omega) hL rfl rfl dL_law_371 dL_law_372 dL_law_373 dL_law_374 dL_law_375 ?_
  refine E_callv (n := 1) 0 [.int (jI (xv xs (6 * (n : Int) + 1)))] vL_32 dL_law_376 (pr_by h (xv_b xs _)) (ci := 10) rfl rfl rfl (by decide) ⟨Nat.le_of_ble_eq_true rfl, Nat.le_of_ble_eq_true rfl⟩ bc bs (by omega) (by omega) _ rfl ?_
  rintro r hp ⟨v, S1, D1, rfl, rfl, hN⟩
  refine E_aload_n 2 dL_law_379 rfl rfl ?_
  refine L_arg (i := 6 * (n : Int)) (k := 1) (by omega) hL rfl rfl dL_law_380 dL_law_381 dL_law_382 dL_law_383 dL_law_384 ?_
  refine E_callv (n := 1) 36 [.int (jI (xv xs (6 * (n : Int) + 1)))] vL_36 dL_law_385 hN (ci := 11) rfl rfl rfl (by show 1 + 0 ≤ 8; decide) ⟨Nat.le_of_ble_eq_true rfl, Nat.le_of_ble_eq_true rfl⟩ bc bs (by omega) (by omega) _ rfl ?_
  rintro r hp ⟨rfl, T1, rfl, hS⟩
  exact E_icmp_eq 1557 dL_law_388 rfl (fun _ => k _ _ _ hS) (fun e => absurd rfl e)
theorem cs_5 (h : SIM n S T D) (hn : n ≤ 600) (hi : 6 * (n : Int) + 6 ≤ L) (hL : L ≤ 3072) (k : ∀ S1 T1 D1, SIM (n + 1) S1 T1 D1 → LEv E L xs bc bs 1557 (LV n) [] (W5 S1 T1 D1)) : LEv E L xs (bc + 54) (bs + 7603) 393 (LV n) [] (W5 S T D) := by
  refine E_aload_n 1 dL_law_393 rfl rfl ?_
  refine L_arg (i := 6 * (n : Int)) (k := 1) (by omega) hL rfl rfl dL_law_394 dL_law_395 dL_law_396 dL_law_397 dL_law_398 ?_
  refine E_callv (n := 1) 0 [.int (jI (xv xs (6 * (n : Int) + 1)))] vL_37 dL_law_399 (pr_length h (xv_b xs _)) (ci := 10) rfl rfl rfl (by decide) ⟨Nat.le_of_ble_eq_true rfl, Nat.le_of_ble_eq_true rfl⟩ bc bs (by omega) (by omega) _ rfl ?_
  rintro r hp ⟨v, S1, D1, rfl, rfl, hN⟩
  refine E_aload_n 2 dL_law_402 rfl rfl ?_
  refine L_arg (i := 6 * (n : Int)) (k := 1) (by omega) hL rfl rfl dL_law_403 dL_law_404 dL_law_405 dL_law_406 dL_law_407 ?_
  refine E_callv (n := 1) 36 [.int (jI (xv xs (6 * (n : Int) + 1)))] vL_40 dL_law_408 hN (ci := 11) rfl rfl rfl (by show 1 + 0 ≤ 8; decide) ⟨Nat.le_of_ble_eq_true rfl, Nat.le_of_ble_eq_true rfl⟩ bc bs (by omega) (by omega) _ rfl ?_
  rintro r hp ⟨rfl, T1, rfl, hS⟩
  exact E_icmp_eq 1557 dL_law_411 rfl (fun _ => k _ _ _ hS) (fun e => absurd rfl e)
theorem cs_6 (h : SIM n S T D) (hn : n ≤ 600) (hi : 6 * (n : Int) + 6 ≤ L) (hL : L ≤ 3072) (k : ∀ S1 T1 D1, SIM (n + 1) S1 T1 D1 → LEv E L xs bc bs 1557 (LV n) [] (W5 S1 T1 D1)) : LEv E L xs (bc + 54) (bs + 7603) 416 (LV n) [] (W5 S T D) := by
  refine E_aload_n 1 dL_law_416 rfl rfl ?_
  refine L_arg (i := 6 * (n : Int)) (k := 1) (by omega) hL rfl rfl dL_law_417 dL_law_418 dL_law_419 dL_law_420 dL_law_421 ?_
  refine L_arg (i := 6 * (n : Int)) (k := 2) (by omega) hL rfl rfl dL_law_422 dL_law_423 dL_law_424 dL_law_425 dL_law_426 ?_
  refine E_callv (n := 2) 0 [.int (jI (xv xs (6 * (n : Int) + 1))), .int (jI (xv xs (6 * (n : Int) + 2)))] vL_41 dL_law_427 (pr_join h (xv_b xs _) (xv_b xs _)) (ci := 10) rfl rfl rfl (by decide) ⟨Nat.le_of_ble_eq_true rfl, Nat.le_of_ble_eq_true rfl⟩ bc bs (by omega) (by omega) _ rfl ?_
  rintro r hp ⟨v, S1, D1, rfl, rfl, hN⟩
  refine E_aload_n 2 dL_law_430 rfl rfl ?_
  refine L_arg (i := 6 * (n : Int)) (k := 1) (by omega) hL rfl rfl dL_law_431 dL_law_432 dL_law_433 dL_law_434 dL_law_435 ?_
  refine L_arg (i := 6 * (n : Int)) (k := 2) (by omega) hL rfl rfl dL_law_436 dL_law_437 dL_law_438 dL_law_439 dL_law_440 ?_
  refine E_callv (n := 2) 36 [.int (jI (xv xs (6 * (n : Int) + 1))), .int (jI (xv xs (6 * (n : Int) + 2)))] vL_45 dL_law_441 hN (ci := 11) rfl rfl rfl (by show 1 + 0 ≤ 8; decide) ⟨Nat.le_of_ble_eq_true rfl, Nat.le_of_ble_eq_true rfl⟩ bc bs (by omega) (by omega) _ rfl ?_
  rintro r hp ⟨rfl, T1, rfl, hS⟩
  exact E_icmp_eq 1557 dL_law_444 rfl (fun _ => k _ _ _ hS) (fun e => absurd rfl e)
theorem cs_7 (h : SIM n S T D) (hn : n ≤ 600) (hi : 6 * (n : Int) + 6 ≤ L) (hL : L ≤ 3072) (k : ∀ S1 T1 D1, SIM (n + 1) S1 T1 D1 → LEv E L xs bc bs 1557 (LV n) [] (W5 S1 T1 D1)) : LEv E L xs (bc + 54) (bs + 7603) 449 (LV n) [] (W5 S T D) := by
  refine E_aload_n 1 dL_law_449 rfl rfl ?_
  refine L_arg (i := 6 * (n : Int)) (k := 1) (by omega) hL rfl rfl dL_law_450 dL_law_451 dL_law_452 dL_law_453 dL_law_454 ?_
  refine E_callv (n := 1) 0 [.int (jI (xv xs (6 * (n : Int) + 1)))] vL_46 dL_law_455 (pr_leave h (xv_b xs _)) (ci := 10) rfl rfl rfl (by decide) ⟨Nat.le_of_ble_eq_true rfl, Nat.le_of_ble_eq_true rfl⟩ bc bs (by omega) (by omega) _ rfl ?_
  rintro r hp ⟨v, S1, D1, rfl, rfl, hN⟩
  refine E_aload_n 2 dL_law_458 rfl rfl ?_
  refine L_arg (i := 6 * (n : Int)) (k := 1) (by omega) hL rfl rfl dL_law_459 dL_law_460 dL_law_461 dL_law_462 dL_law_463 ?_
  refine E_callv (n := 1) 36 [.int (jI (xv xs (6 * (n : Int) + 1)))] vL_49 dL_law_464 hN (ci := 11) rfl rfl rfl (by show 1 + 0 ≤ 8; decide) ⟨Nat.le_of_ble_eq_true rfl, Nat.le_of_ble_eq_true rfl⟩ bc bs (by omega) (by omega) _ rfl ?_
  rintro r hp ⟨rfl, T1, rfl, hS⟩
  exact E_icmp_eq 1557 dL_law_467 rfl (fun _ => k _ _ _ hS) (fun e => absurd rfl e)
theorem cs_8 (h : SIM n S T D) (hn : n ≤ 600) (hi : 6 * (n : Int) + 6 ≤ L) (hL : L ≤ 3072) (k : ∀ S1 T1 D1, SIM (n + 1) S1 T1 D1 → LEv E L xs bc bs 1557 (LV n) [] (W5 S1 T1 D1)) : LEv E L xs (bc + 54) (bs + 7603) 472 (LV n) [] (W5 S T D) := by
  refine E_aload_n 1 dL_law_472 rfl rfl ?_
  refine E_callv (n := 0) 0 [] vL_50 dL_law_473 (pr_turn h) (ci := 10) rfl rfl rfl (by decide) ⟨Nat.le_of_ble_eq_true rfl, Nat.le_of_ble_eq_true rfl⟩ bc bs (by omega) (by omega) _ rfl ?_
  rintro r hp ⟨v, S1, D1, rfl, rfl, hN⟩
  refine E_aload_n 2 dL_law_476 rfl rfl ?_
  refine E_callv (n := 0) 36 [] vL_53 dL_law_477 hN (ci := 11) rfl rfl rfl (by show 1 + 0 ≤ 8; decide) ⟨Nat.le_of_ble_eq_true rfl, Nat.le_of_ble_eq_true rfl⟩ bc bs (by omega) (by omega) _ rfl ?_
  rintro r hp ⟨rfl, T1, rfl, hS⟩
  exact E_icmp_eq 1557 dL_law_480 rfl (fun _ => k _ _ _ hS) (fun e => absurd rfl e)
theorem cs_9 (h : SIM n S T D) (hn : n ≤ 600) (hi : 6 * (n : Int) + 6 ≤ L) (hL : L ≤ 3072) (k : ∀ S1 T1 D1, SIM (n + 1) S1 T1 D1 → LEv E L xs bc bs 1557 (LV n) [] (W5 S1 T1 D1)) : LEv E L xs (bc + 54) (bs + 7603) 485 (LV n) [] (W5 S T D) := by
  refine E_aload_n 1 dL_law_485 rfl rfl ?_
  refine L_arg (i := 6 * (n : Int)) (k := 1) (by omega) hL rfl rfl dL_law_486 dL_law_487 dL_law_488 dL_law_489 dL_law_490 ?_
  refine E_callv (n := 1) 0 [.int (jI (xv xs (6 * (n : Int) + 1)))] vL_54 dL_law_491 (pr_shift h (xv_b xs _)) (ci := 10) rfl rfl rfl (by decide) ⟨Nat.le_of_ble_eq_true rfl, Nat.le_of_ble_eq_true rfl⟩ bc bs (by omega) (by omega) _ rfl ?_
  rintro r hp ⟨v, S1, D1, rfl, rfl, hN⟩
  refine E_aload_n 2 dL_law_494 rfl rfl ?_
  refine L_arg (i := 6 * (n : Int)) (k := 1) (by omega) hL rfl rfl dL_law_495 dL_law_496 dL_law_497 dL_law_498 dL_law_499 ?_
  refine E_callv (n := 1) 36 [.int (jI (xv xs (6 * (n : Int) + 1)))] vL_57 dL_law_500 hN (ci := 11) rfl rfl rfl (by show 1 + 0 ≤ 8; decide) ⟨Nat.le_of_ble_eq_true rfl, Nat.le_of_ble_eq_true rfl⟩ bc bs (by omega) (by omega) _ rfl ?_
  rintro r hp ⟨rfl, T1, rfl, hS⟩
  exact E_icmp_eq 1557 dL_law_503 rfl (fun _ => k _ _ _ hS) (fun e => absurd rfl e)
theorem cs_10 (h : SIM n S T D) (hn : n ≤ 600) (hi : 6 * (n : Int) + 6 ≤ L) (hL : L ≤ 3072) (k : ∀ S1 T1 D1, SIM (n + 1) S1 T1 D1 → LEv E L xs bc bs 1557 (LV n) [] (W5 S1 T1 D1)) : LEv E L xs (bc + 54) (bs + 7603) 508 (LV n) [] (W5 S T D) := by
  refine E_aload_n 1 dL_law_508 rfl rfl ?_
  refine L_arg (i := 6 * (n : Int)) (k := 1) (by omega) hL rfl rfl dL_law_509 dL_law_510 dL_law_511 dL_law_512 dL_law_513 ?_
  refine E_callv (n := 1) 0 [.int (jI (xv xs (6 * (n : Int) + 1)))] vL_58 dL_law_514 (pr_day h (xv_b xs _)) (ci := 10) rfl rfl rfl (by decide) ⟨Nat.le_of_ble_eq_true rfl, Nat.le_of_ble_eq_true rfl⟩ bc bs (by omega) (by omega) _ rfl ?_
  rintro r hp ⟨v, S1, D1, rfl, rfl, hN⟩
  refine E_aload_n 2 dL_law_517 rfl rfl ?_
  refine L_arg (i := 6 * (n : Int)) (k := 1) (by omega) hL rfl rfl dL_law_518 dL_law_519 dL_law_520 dL_law_521 dL_law_522 ?_
  refine E_callv (n := 1) 36 [.int (jI (xv xs (6 * (n : Int) + 1)))] vL_61 dL_law_523 hN (ci := 11) rfl rfl rfl (by show 1 + 0 ≤ 8; decide) ⟨Nat.le_of_ble_eq_true rfl, Nat.le_of_ble_eq_true rfl⟩ bc bs (by omega) (by omega) _ rfl ?_
  rintro r hp ⟨rfl, T1, rfl, hS⟩
  exact E_icmp_eq 1557 dL_law_526 rfl (fun _ => k _ _ _ hS) (fun e => absurd rfl e)
theorem cs_11 (h : SIM n S T D) (hn : n ≤ 600) (hi : 6 * (n : Int) + 6 ≤ L) (hL : L ≤ 3072) (k : ∀ S1 T1 D1, SIM (n + 1) S1 T1 D1 → LEv E L xs bc bs 1557 (LV n) [] (W5 S1 T1 D1)) : LEv E L xs (bc + 54) (bs + 7603) 531 (LV n) [] (W5 S T D) := by
  refine E_aload_n 1 dL_law_531 rfl rfl ?_
  refine L_arg (i := 6 * (n : Int)) (k := 1) (by omega) hL rfl rfl dL_law_532 dL_law_533 dL_law_534 dL_law_535 dL_law_536 ?_
  refine E_callv (n := 1) 0 [.int (jI (xv xs (6 * (n : Int) + 1)))] vL_62 dL_law_537 (pr_played h (xv_b xs _)) (ci := 10) rfl rfl rfl (by decide) ⟨Nat.le_of_ble_eq_true rfl, Nat.le_of_ble_eq_true rfl⟩ bc bs (by omega) (by omega) _ rfl ?_
  rintro r hp ⟨v, S1, D1, rfl, rfl, hN⟩
  refine E_aload_n 2 dL_law_540 rfl rfl ?_
  refine L_arg (i := 6 * (n : Int)) (k := 1) (by omega) hL rfl rfl dL_law_541 dL_law_542 dL_law_543 dL_law_544 dL_law_545 ?_
  refine E_callv (n := 1) 36 [.int (jI (xv xs (6 * (n : Int) + 1)))] vL_65 dL_law_546 hN (ci := 11) rfl rfl rfl (by show 1 + 0 ≤ 8; decide) ⟨Nat.le_of_ble_eq_true rfl, Nat.le_of_ble_eq_true rfl⟩ bc bs (by omega) (by omega) _ rfl ?_
  rintro r hp ⟨rfl, T1, rfl, hS⟩
  exact E_icmp_eq 1557 dL_law_549 rfl (fun _ => k _ _ _ hS) (fun e => absurd rfl e)
theorem cs_12 (h : SIM n S T D) (hn : n ≤ 600) (hi : 6 * (n : Int) + 6 ≤ L) (hL : L ≤ 3072) (k : ∀ S1 T1 D1, SIM (n + 1) S1 T1 D1 → LEv E L xs bc bs 1557 (LV n) [] (W5 S1 T1 D1)) : LEv E L xs (bc + 54) (bs + 7603) 554 (LV n) [] (W5 S T D) := by
  refine E_aload_n 1 dL_law_554 rfl rfl ?_
  refine L_arg (i := 6 * (n : Int)) (k := 1) (by omega) hL rfl rfl dL_law_555 dL_law_556 dL_law_557 dL_law_558 dL_law_559 ?_
  refine L_arg (i := 6 * (n : Int)) (k := 2) (by omega) hL rfl rfl dL_law_560 dL_law_561 dL_law_562 dL_law_563 dL_law_564 ?_
  refine E_callv (n := 2) 0 [.int (jI (xv xs (6 * (n : Int) + 1))), .int (jI (xv xs (6 * (n : Int) + 2)))] vL_66 dL_law_565 (pr_years h (xv_b xs _) (xv_b xs _)) (ci := 10) rfl rfl rfl (by decide) ⟨Nat.le_of_ble_eq_true rfl, Nat.le_of_ble_eq_true rfl⟩ bc bs (by omega) (by omega) _ rfl ?_
  rintro r hp ⟨v, S1, D1, rfl, rfl, hN⟩
  refine E_aload_n 2 dL_law_568 rfl rfl ?_
  refine L_arg (i := 6 * (n : Int)) (k := 1) (by omega) hL rfl rfl dL_law_569 dL_law_570 dL_law_571 dL_law_572 dL_law_573 ?_
  refine L_arg (i := 6 * (n : Int)) (k := 2) (by omega) hL rfl rfl dL_law_574 dL_law_575 dL_law_576 dL_law_577 dL_law_578 ?_
  refine E_callv (n := 2) 36 [.int (jI (xv xs (6 * (n : Int) + 1))), .int (jI (xv xs (6 * (n : Int) + 2)))] vL_69 dL_law_579 hN (ci := 11) rfl rfl rfl (by show 1 + 0 ≤ 8; decide) ⟨Nat.le_of_ble_eq_true rfl, Nat.le_of_ble_eq_true rfl⟩ bc bs (by omega) (by omega) _ rfl ?_
  rintro r hp ⟨rfl, T1, rfl, hS⟩
  exact E_icmp_eq 1557 dL_law_582 rfl (fun _ => k _ _ _ hS) (fun e => absurd rfl e)
theorem cs_13 (h : SIM n S T D) (hn : n ≤ 600) (hi : 6 * (n : Int) + 6 ≤ L) (hL : L ≤ 3072) (k : ∀ S1 T1 D1, SIM (n + 1) S1 T1 D1 → LEv E L xs bc bs 1557 (LV n) [] (W5 S1 T1 D1)) : LEv E L xs (bc + 54) (bs + 7603) 587 (LV n) [] (W5 S T D) := by
  refine E_aload_n 1 dL_law_587 rfl rfl ?_
  refine E_callv (n := 0) 0 [] vL_70 dL_law_588 (pr_undo h) (ci := 10) rfl rfl rfl (by decide) ⟨Nat.le_of_ble_eq_true rfl, Nat.le_of_ble_eq_true rfl⟩ bc bs (by omega) (by omega) _ rfl ?_
  rintro r hp ⟨v, S1, D1, rfl, rfl, hN⟩
  refine E_aload_n 2 dL_law_591 rfl rfl ?_
  refine E_callv (n := 0) 36 [] vL_73 dL_law_592 hN (ci := 11) rfl rfl rfl (by show 1 + 0 ≤ 8; decide) ⟨Nat.le_of_ble_eq_true rfl, Nat.le_of_ble_eq_true rfl⟩ bc bs (by omega) (by omega) _ rfl ?_
  rintro r hp ⟨rfl, T1, rfl, hS⟩
  exact E_icmp_eq 1557 dL_law_595 rfl (fun _ => k _ _ _ hS) (fun e => absurd rfl e)
theorem cs_14 (h : SIM n S T D) (hn : n ≤ 600) (hi : 6 * (n : Int) + 6 ≤ L) (hL : L ≤ 3072) (k : ∀ S1 T1 D1, SIM (n + 1) S1 T1 D1 → LEv E L xs bc bs 1557 (LV n) [] (W5 S1 T1 D1)) : LEv E L xs (bc + 54) (bs + 7603) 600 (LV n) [] (W5 S T D) := by
  refine E_aload_n 1 dL_law_600 rfl rfl ?_
  refine L_arg (i := 6 * (n : Int)) (k := 1) (by omega) hL rfl rfl dL_law_601 dL_law_602 dL_law_603 dL_law_604 dL_law_605 ?_
  refine L_arg (i := 6 * (n : Int)) (k := 2) (by omega) hL rfl rfl dL_law_606 dL_law_607 dL_law_608 dL_law_609 dL_law_610 ?_
  refine E_callv (n := 2) 0 [.int (jI (xv xs (6 * (n : Int) + 1))), .int (jI (xv xs (6 * (n : Int) + 2)))] vL_74 dL_law_611 (pr_of h (xv_b xs _) (xv_b xs _)) (ci := 10) rfl rfl rfl (by decide) ⟨Nat.le_of_ble_eq_true rfl, Nat.le_of_ble_eq_true rfl⟩ bc bs (by omega) (by omega) _ rfl ?_
  rintro r hp ⟨v, S1, D1, rfl, rfl, hN⟩
  refine E_aload_n 2 dL_law_614 rfl rfl ?_
  refine L_arg (i := 6 * (n : Int)) (k := 1) (by omega) hL rfl rfl dL_law_615 dL_law_616 dL_law_617 dL_law_618 dL_law_619 ?_
  refine L_arg (i := 6 * (n : Int)) (k := 2) (by omega) hL rfl rfl dL_law_620 dL_law_621 dL_law_622 dL_law_623 dL_law_624 ?_
  refine E_callv (n := 2) 36 [.int (jI (xv xs (6 * (n : Int) + 1))), .int (jI (xv xs (6 * (n : Int) + 2)))] vL_77 dL_law_625 hN (ci := 11) rfl rfl rfl (by show 1 + 0 ≤ 8; decide) ⟨Nat.le_of_ble_eq_true rfl, Nat.le_of_ble_eq_true rfl⟩ bc bs (by omega) (by omega) _ rfl ?_
  rintro r hp ⟨rfl, T1, rfl, hS⟩
  exact E_icmp_eq 1557 dL_law_628 rfl (fun _ => k _ _ _ hS) (fun e => absurd rfl e)
theorem cs_15 (h : SIM n S T D) (hn : n ≤ 600) (hi : 6 * (n : Int) + 6 ≤ L) (hL : L ≤ 3072) (k : ∀ S1 T1 D1, SIM (n + 1) S1 T1 D1 → LEv E L xs bc bs 1557 (LV n) [] (W5 S1 T1 D1)) : LEv E L xs (bc + 54) (bs + 7603) 633 (LV n) [] (W5 S T D) := by
  refine E_aload_n 1 dL_law_633 rfl rfl ?_
  refine L_arg (i := 6 * (n : Int)) (k := 1) (by omega) hL rfl rfl dL_law_634 dL_law_635 dL_law_636 dL_law_637 dL_law_638 ?_
  refine E_callv (n := 1) 0 [.int (jI (xv xs (6 * (n : Int) + 1)))] vL_78 dL_law_639 (pr_at h (xv_b xs _)) (ci := 10) rfl rfl rfl (by decide) ⟨Nat.le_of_ble_eq_true rfl, Nat.le_of_ble_eq_true rfl⟩ bc bs (by omega) (by omega) _ rfl ?_
  rintro r hp ⟨v, S1, D1, rfl, rfl, hN⟩
  refine E_aload_n 2 dL_law_642 rfl rfl ?_
  refine L_arg (i := 6 * (n : Int)) (k := 1) (by omega) hL rfl rfl dL_law_643 dL_law_644 dL_law_645 dL_law_646 dL_law_647 ?_
  refine E_callv (n := 1) 36 [.int (jI (xv xs (6 * (n : Int) + 1)))] vL_81 dL_law_648 hN (ci := 11) rfl rfl rfl (by show 1 + 0 ≤ 8; decide) ⟨Nat.le_of_ble_eq_true rfl, Nat.le_of_ble_eq_true rfl⟩ bc bs (by omega) (by omega) _ rfl ?_
  rintro r hp ⟨rfl, T1, rfl, hS⟩
  exact E_icmp_eq 1557 dL_law_651 rfl (fun _ => k _ _ _ hS) (fun e => absurd rfl e)
theorem cs_16 (h : SIM n S T D) (hn : n ≤ 600) (hi : 6 * (n : Int) + 6 ≤ L) (hL : L ≤ 3072) (k : ∀ S1 T1 D1, SIM (n + 1) S1 T1 D1 → LEv E L xs bc bs 1557 (LV n) [] (W5 S1 T1 D1)) : LEv E L xs (bc + 54) (bs + 7603) 656 (LV n) [] (W5 S T D) := by
  refine E_aload_n 1 dL_law_656 rfl rfl ?_
  refine L_arg (i := 6 * (n : Int)) (k := 1) (by omega) hL rfl rfl dL_law_657 dL_law_658 dL_law_659 dL_law_660 dL_law_661 ?_
  refine E_callv (n := 1) 0 [.int (jI (xv xs (6 * (n : Int) + 1)))] vL_82 dL_law_662 (pr_is h (xv_b xs _)) (ci := 10) rfl rfl rfl (by decide) ⟨Nat.le_of_ble_eq_true rfl, Nat.le_of_ble_eq_true rfl⟩ bc bs (by omega) (by omega) _ rfl ?_
  rintro r hp ⟨v, S1, D1, rfl, rfl, hN⟩
  refine E_aload_n 2 dL_law_665 rfl rfl ?_
  refine L_arg (i := 6 * (n : Int)) (k := 1) (by omega) hL rfl rfl dL_law_666 dL_law_667 dL_law_668 dL_law_669 dL_law_670 ?_
  refine E_callv (n := 1) 36 [.int (jI (xv xs (6 * (n : Int) + 1)))] vL_85 dL_law_671 hN (ci := 11) rfl rfl rfl (by show 1 + 0 ≤ 8; decide) ⟨Nat.le_of_ble_eq_true rfl, Nat.le_of_ble_eq_true rfl⟩ bc bs (by omega) (by omega) _ rfl ?_
  rintro r hp ⟨rfl, T1, rfl, hS⟩
  exact E_icmp_eq 1557 dL_law_674 rfl (fun _ => k _ _ _ hS) (fun e => absurd rfl e)
theorem cs_17 (h : SIM n S T D) (hn : n ≤ 600) (hi : 6 * (n : Int) + 6 ≤ L) (hL : L ≤ 3072) (k : ∀ S1 T1 D1, SIM (n + 1) S1 T1 D1 → LEv E L xs bc bs 1557 (LV n) [] (W5 S1 T1 D1)) : LEv E L xs (bc + 54) (bs + 7603) 679 (LV n) [] (W5 S T D) := by
  refine E_aload_n 1 dL_law_679 rfl rfl ?_
  refine L_arg (i := 6 * (n : Int)) (k := 1) (by omega) hL rfl rfl dL_law_680 dL_law_681 dL_law_682 dL_law_683 dL_law_684 ?_
  refine L_arg (i := 6 * (n : Int)) (k := 2) (by omega) hL rfl rfl dL_law_685 dL_law_686 dL_law_687 dL_law_688 dL_law_689 ?_
  refine E_callv (n := 2) 0 [.int (jI (xv xs (6 * (n : Int) + 1))), .int (jI (xv xs (6 * (n : Int) + 2)))] vL_86 dL_law_690 (pr_book h (xv_b xs _) (xv_b xs _)) (ci := 10) rfl rfl rfl (by decide) ⟨Nat.le_of_ble_eq_true rfl, Nat.le_of_ble_eq_true rfl⟩ bc bs (by omega) (by omega) _ rfl ?_
  rintro r hp ⟨v, S1, D1, rfl, rfl, hN⟩
  refine E_aload_n 2 dL_law_693 rfl rfl ?_
  refine L_arg (i := 6 * (n : Int)) (k := 1) (by omega) hL rfl rfl dL_law_694 dL_law_695 dL_law_696 dL_law_697 dL_law_698 ?_
  refine L_arg (i := 6 * (n : Int)) (k := 2) (by omega) hL rfl rfl dL_law_699 dL_law_700 dL_law_701 dL_law_702 dL_law_703 ?_
  refine E_callv (n := 2) 36 [.int (jI (xv xs (6 * (n : Int) + 1))), .int (jI (xv xs (6 * (n : Int) + 2)))] vL_89 dL_law_704 hN (ci := 11) rfl rfl rfl (by show 1 + 0 ≤ 8; decide) ⟨Nat.le_of_ble_eq_true rfl, Nat.le_of_ble_eq_true rfl⟩ bc bs (by omega) (by omega) _ rfl ?_
  rintro r hp ⟨rfl, T1, rfl, hS⟩
  exact E_icmp_eq 1557 dL_law_707 rfl (fun _ => k _ _ _ hS) (fun e => absurd rfl e)
theorem cs_18 (h : SIM n S T D) (hn : n ≤ 600) (hi : 6 * (n : Int) + 6 ≤ L) (hL : L ≤ 3072) (k : ∀ S1 T1 D1, SIM (n + 1) S1 T1 D1 → LEv E L xs bc bs 1557 (LV n) [] (W5 S1 T1 D1)) : LEv E L xs (bc + 54) (bs + 7603) 712 (LV n) [] (W5 S T D) := by
  refine E_aload_n 1 dL_law_712 rfl rfl ?_
  refine L_arg (i := 6 * (n : Int)) (k := 1) (by omega) hL rfl rfl dL_law_713 dL_law_714 dL_law_715 dL_law_716 dL_law_717 ?_
  refine E_callv (n := 1) 0 [.int (jI (xv xs (6 * (n : Int) + 1)))] vL_90 dL_law_718 (pr_foretold h (xv_b xs _)) (ci := 10) rfl rfl rfl (by decide) ⟨Nat.le_of_ble_eq_true rfl, Nat.le_of_ble_eq_true rfl⟩ bc bs (by omega) (by omega) _ rfl ?_
  rintro r hp ⟨v, S1, D1, rfl, rfl, hN⟩
  refine E_aload_n 2 dL_law_721 rfl rfl ?_
  refine L_arg (i := 6 * (n : Int)) (k := 1) (by omega) hL rfl rfl dL_law_722 dL_law_723 dL_law_724 dL_law_725 dL_law_726 ?_
  refine E_callv (n := 1) 36 [.int (jI (xv xs (6 * (n : Int) + 1)))] vL_93 dL_law_727 hN (ci := 11) rfl rfl rfl (by show 1 + 0 ≤ 8; decide) ⟨Nat.le_of_ble_eq_true rfl, Nat.le_of_ble_eq_true rfl⟩ bc bs (by omega) (by omega) _ rfl ?_
  rintro r hp ⟨rfl, T1, rfl, hS⟩
  exact E_icmp_eq 1557 dL_law_730 rfl (fun _ => k _ _ _ hS) (fun e => absurd rfl e)
theorem cs_19 (h : SIM n S T D) (hn : n ≤ 600) (hi : 6 * (n : Int) + 6 ≤ L) (hL : L ≤ 3072) (k : ∀ S1 T1 D1, SIM (n + 1) S1 T1 D1 → LEv E L xs bc bs 1557 (LV n) [] (W5 S1 T1 D1)) : LEv E L xs (bc + 54) (bs + 7603) 735 (LV n) [] (W5 S T D) := by
  refine E_aload_n 1 dL_law_735 rfl rfl ?_
  refine L_arg (i := 6 * (n : Int)) (k := 1) (by omega) hL rfl rfl dL_law_736 dL_law_737 dL_law_738 dL_law_739 dL_law_740 ?_
  refine E_callv (n := 1) 0 [.int (jI (xv xs (6 * (n : Int) + 1)))] vL_94 dL_law_741 (pr_can h (xv_b xs _)) (ci := 10) rfl rfl rfl (by decide) ⟨Nat.le_of_ble_eq_true rfl, Nat.le_of_ble_eq_true rfl⟩ bc bs (by omega) (by omega) _ rfl ?_
  rintro r hp ⟨v, S1, D1, rfl, rfl, hN⟩
  refine E_aload_n 2 dL_law_744 rfl rfl ?_
  refine L_arg (i := 6 * (n : Int)) (k := 1) (by omega) hL rfl rfl dL_law_745 dL_law_746 dL_law_747 dL_law_748 dL_law_749 ?_
  refine E_callv (n := 1) 36 [.int (jI (xv xs (6 * (n : Int) + 1)))] vL_97 dL_law_750 hN (ci := 11) rfl rfl rfl (by show 1 + 0 ≤ 8; decide) ⟨Nat.le_of_ble_eq_true rfl, Nat.le_of_ble_eq_true rfl⟩ bc bs (by omega) (by omega) _ rfl ?_
  rintro r hp ⟨rfl, T1, rfl, hS⟩
  exact E_icmp_eq 1557 dL_law_753 rfl (fun _ => k _ _ _ hS) (fun e => absurd rfl e)
theorem cs_20 (h : SIM n S T D) (hn : n ≤ 600) (hi : 6 * (n : Int) + 6 ≤ L) (hL : L ≤ 3072) (k : ∀ S1 T1 D1, SIM (n + 1) S1 T1 D1 → LEv E L xs bc bs 1557 (LV n) [] (W5 S1 T1 D1)) : LEv E L xs (bc + 54) (bs + 7603) 758 (LV n) [] (W5 S T D) := by
  refine E_aload_n 1 dL_law_758 rfl rfl ?_
  refine L_arg (i := 6 * (n : Int)) (k := 1) (by omega) hL rfl rfl dL_law_759 dL_law_760 dL_law_761 dL_law_762 dL_law_763 ?_
  refine L_arg (i := 6 * (n : Int)) (k := 2) (by omega) hL rfl rfl dL_law_764 dL_law_765 dL_law_766 dL_law_767 dL_law_768 ?_
  refine E_callv (n := 2) 0 [.int (jI (xv xs (6 * (n : Int) + 1))), .int (jI (xv xs (6 * (n : Int) + 2)))] vL_98 dL_law_769 (pr_rows h hn (xv_b xs _) (xv_b xs _)) (ci := 10) rfl rfl rfl (by decide) ⟨Nat.le_of_ble_eq_true rfl, Nat.le_of_ble_eq_true rfl⟩ bc bs (by omega) (by omega) _ rfl ?_
  rintro r hp ⟨v, S1, D1, rfl, rfl, hN⟩
  refine E_aload_n 2 dL_law_772 rfl rfl ?_
  refine L_arg (i := 6 * (n : Int)) (k := 1) (by omega) hL rfl rfl dL_law_773 dL_law_774 dL_law_775 dL_law_776 dL_law_777 ?_
  refine L_arg (i := 6 * (n : Int)) (k := 2) (by omega) hL rfl rfl dL_law_778 dL_law_779 dL_law_780 dL_law_781 dL_law_782 ?_
  refine E_callv (n := 2) 36 [.int (jI (xv xs (6 * (n : Int) + 1))), .int (jI (xv xs (6 * (n : Int) + 2)))] vL_102 dL_law_783 hN (ci := 11) rfl rfl rfl (by show 2 + 0 ≤ 8; decide) ⟨Nat.le_of_ble_eq_true rfl, Nat.le_of_ble_eq_true rfl⟩ bc bs (by omega) (by omega) _ rfl ?_
  rintro r hp ⟨rfl, T1, rfl, hS⟩
  exact E_lcmp dL_law_786 (E_if_eq 1557 dL_law_787 rfl (fun _ => k _ _ _ hS) (fun e => absurd (lgc_self _) e))
theorem cs_21 (h : SIM n S T D) (hn : n ≤ 600) (hi : 6 * (n : Int) + 6 ≤ L) (hL : L ≤ 3072) (k : ∀ S1 T1 D1, SIM (n + 1) S1 T1 D1 → LEv E L xs bc bs 1557 (LV n) [] (W5 S1 T1 D1)) : LEv E L xs (bc + 54) (bs + 7603) 792 (LV n) [] (W5 S T D) := by
  refine E_aload_n 1 dL_law_792 rfl rfl ?_
  refine L_arg (i := 6 * (n : Int)) (k := 1) (by omega) hL rfl rfl dL_law_793 dL_law_794 dL_law_795 dL_law_796 dL_law_797 ?_
  refine L_arg (i := 6 * (n : Int)) (k := 2) (by omega) hL rfl rfl dL_law_798 dL_law_799 dL_law_800 dL_law_801 dL_law_802 ?_
  refine L_arg (i := 6 * (n : Int)) (k := 3) (by omega) hL rfl rfl dL_law_803 dL_law_804 dL_law_805 dL_law_806 dL_law_807 ?_
  refine E_callv (n := 3) 0 [.int (jI (xv xs (6 * (n : Int) + 1))), .int (jI (xv xs (6 * (n : Int) + 2))), .int (jI (xv xs (6 * (n : Int) + 3)))] vL_103 dL_law_808 (pr_row h hn (xv_b xs _) (xv_b xs _) (xv_b xs _)) (ci := 10) rfl rfl rfl (by decide) ⟨Nat.le_of_ble_eq_true rfl, Nat.le_of_ble_eq_true rfl⟩ bc bs (by omega) (by omega) _ rfl ?_
  rintro r hp ⟨v, S1, D1, rfl, rfl, hN⟩
  refine E_aload_n 2 dL_law_811 rfl rfl ?_
  refine L_arg (i := 6 * (n : Int)) (k := 1) (by omega) hL rfl rfl dL_law_812 dL_law_813 dL_law_814 dL_law_815 dL_law_816 ?_
  refine L_arg (i := 6 * (n : Int)) (k := 2) (by omega) hL rfl rfl dL_law_817 dL_law_818 dL_law_819 dL_law_820 dL_law_821 ?_
  refine L_arg (i := 6 * (n : Int)) (k := 3) (by omega) hL rfl rfl dL_law_822 dL_law_823 dL_law_824 dL_law_825 dL_law_826 ?_
  refine E_callv (n := 3) 36 [.int (jI (xv xs (6 * (n : Int) + 1))), .int (jI (xv xs (6 * (n : Int) + 2))), .int (jI (xv xs (6 * (n : Int) + 3)))] vL_107 dL_law_827 hN (ci := 11) rfl rfl rfl (by show 1 + 0 ≤ 8; decide) ⟨Nat.le_of_ble_eq_true rfl, Nat.le_of_ble_eq_true rfl⟩ bc bs (by omega) (by omega) _ rfl ?_
  rintro r hp ⟨rfl, T1, rfl, hS⟩
  exact E_icmp_eq 1557 dL_law_830 rfl (fun _ => k _ _ _ hS) (fun e => absurd rfl e)
theorem cs_22 (h : SIM n S T D) (hn : n ≤ 600) (hi : 6 * (n : Int) + 6 ≤ L) (hL : L ≤ 3072) (k : ∀ S1 T1 D1, SIM (n + 1) S1 T1 D1 → LEv E L xs bc bs 1557 (LV n) [] (W5 S1 T1 D1)) : LEv E L xs (bc + 54) (bs + 7603) 835 (LV n) [] (W5 S T D) := by
  refine E_aload_n 1 dL_law_835 rfl rfl ?_
  refine L_arg (i := 6 * (n : Int)) (k := 1) (by omega) hL rfl rfl dL_law_836 dL_law_837 dL_law_838 dL_law_839 dL_law_840 ?_
  refine L_arg (i := 6 * (n : Int)) (k := 2) (by omega) hL rfl rfl dL_law_841 dL_law_842 dL_law_843 dL_law_844 dL_law_845 ?_
  refine L_arg (i := 6 * (n : Int)) (k := 3) (by omega) hL rfl rfl dL_law_846 dL_law_847 dL_law_848 dL_law_849 dL_law_850 ?_
  refine L_arg (i := 6 * (n : Int)) (k := 4) (by omega) hL rfl rfl dL_law_851 dL_law_852 dL_law_853 dL_law_854 dL_law_855 ?_
  refine E_callv (n := 4) 0 [.int (jI (xv xs (6 * (n : Int) + 1))), .int (jI (xv xs (6 * (n : Int) + 2))), .int (jI (xv xs (6 * (n : Int) + 3))), .int (jI (xv xs (6 * (n : Int) + 4)))] vL_108 dL_law_856 (pr_rowAt h hn (xv_b xs _) (xv_b xs _) (xv_b xs _) (xv_b xs _)) (ci := 10) rfl rfl rfl (by decide) ⟨Nat.le_of_ble_eq_true rfl, Nat.le_of_ble_eq_true rfl⟩ bc bs (by omega) (by omega) _ rfl ?_
  rintro r hp ⟨v, S1, D1, rfl, rfl, hN⟩
  refine E_aload_n 2 dL_law_859 rfl rfl ?_
  refine L_arg (i := 6 * (n : Int)) (k := 1) (by omega) hL rfl rfl dL_law_860 dL_law_861 dL_law_862 dL_law_863 dL_law_864 ?_
  refine L_arg (i := 6 * (n : Int)) (k := 2) (by omega) hL rfl rfl dL_law_865 dL_law_866 dL_law_867 dL_law_868 dL_law_869 ?_
  refine L_arg (i := 6 * (n : Int)) (k := 3) (by omega) hL rfl rfl dL_law_870 dL_law_871 dL_law_872 dL_law_873 dL_law_874 ?_
  refine L_arg (i := 6 * (n : Int)) (k := 4) (by omega) hL rfl rfl dL_law_875 dL_law_876 dL_law_877 dL_law_878 dL_law_879 ?_
  refine E_callv (n := 4) 36 [.int (jI (xv xs (6 * (n : Int) + 1))), .int (jI (xv xs (6 * (n : Int) + 2))), .int (jI (xv xs (6 * (n : Int) + 3))), .int (jI (xv xs (6 * (n : Int) + 4)))] vL_112 dL_law_880 hN (ci := 11) rfl rfl rfl (by show 1 + 0 ≤ 8; decide) ⟨Nat.le_of_ble_eq_true rfl, Nat.le_of_ble_eq_true rfl⟩ bc bs (by omega) (by omega) _ rfl ?_
  rintro r hp ⟨rfl, T1, rfl, hS⟩
  exact E_icmp_eq 1557 dL_law_883 rfl (fun _ => k _ _ _ hS) (fun e => absurd rfl e)
theorem cs_23 (h : SIM n S T D) (hn : n ≤ 600) (hi : 6 * (n : Int) + 6 ≤ L) (hL : L ≤ 3072) (k : ∀ S1 T1 D1, SIM (n + 1) S1 T1 D1 → LEv E L xs bc bs 1557 (LV n) [] (W5 S1 T1 D1)) : LEv E L xs (bc + 54) (bs + 7603) 888 (LV n) [] (W5 S T D) := by
  refine E_aload_n 1 dL_law_888 rfl rfl ?_
  refine L_arg (i := 6 * (n : Int)) (k := 1) (by omega) hL rfl rfl dL_law_889 dL_law_890 dL_law_891 dL_law_892 dL_law_893 ?_
  refine L_arg (i := 6 * (n : Int)) (k := 2) (by omega) hL rfl rfl dL_law_894 dL_law_895 dL_law_896 dL_law_897 dL_law_898 ?_
  refine L_arg (i := 6 * (n : Int)) (k := 3) (by omega) hL rfl rfl dL_law_899 dL_law_900 dL_law_901 dL_law_902 dL_law_903 ?_
  refine L_arg (i := 6 * (n : Int)) (k := 4) (by omega) hL rfl rfl dL_law_904 dL_law_905 dL_law_906 dL_law_907 dL_law_908 ?_
  refine E_callv (n := 4) 0 [.int (jI (xv xs (6 * (n : Int) + 1))), .int (jI (xv xs (6 * (n : Int) + 2))), .int (jI (xv xs (6 * (n : Int) + 3))), .int (jI (xv xs (6 * (n : Int) + 4)))] vL_113 dL_law_909 (pr_often h hn (xv_b xs _) (xv_b xs _) (xv_b xs _) (xv_b xs _)) (ci := 10) rfl rfl rfl (by decide) ⟨Nat.le_of_ble_eq_true rfl, Nat.le_of_ble_eq_true rfl⟩ bc bs (by omega) (by omega) _ rfl ?_
  rintro r hp ⟨v, S1, D1, rfl, rfl, hN⟩
  refine E_aload_n 2 dL_law_912 rfl rfl ?_
  refine L_arg (i := 6 * (n : Int)) (k := 1) (by omega) hL rfl rfl dL_law_913 dL_law_914 dL_law_915 dL_law_916 dL_law_917 ?_
  refine L_arg (i := 6 * (n : Int)) (k := 2) (by omega) hL rfl rfl dL_law_918 dL_law_919 dL_law_920 dL_law_921 dL_law_922 ?_
  refine L_arg (i := 6 * (n : Int)) (k := 3) (by omega) hL rfl rfl dL_law_923 dL_law_924 dL_law_925 dL_law_926 dL_law_927 ?_
  refine L_arg (i := 6 * (n : Int)) (k := 4) (by omega) hL rfl rfl dL_law_928 dL_law_929 dL_law_930 dL_law_931 dL_law_932 ?_
  refine E_callv (n := 4) 36 [.int (jI (xv xs (6 * (n : Int) + 1))), .int (jI (xv xs (6 * (n : Int) + 2))), .int (jI (xv xs (6 * (n : Int) + 3))), .int (jI (xv xs (6 * (n : Int) + 4)))] vL_117 dL_law_933 hN (ci := 11) rfl rfl rfl (by show 2 + 0 ≤ 8; decide) ⟨Nat.le_of_ble_eq_true rfl, Nat.le_of_ble_eq_true rfl⟩ bc bs (by omega) (by omega) _ rfl ?_
  rintro r hp ⟨rfl, T1, rfl, hS⟩
  exact E_lcmp dL_law_936 (E_if_eq 1557 dL_law_937 rfl (fun _ => k _ _ _ hS) (fun e => absurd (lgc_self _) e))
theorem cs_24 (h : SIM n S T D) (hn : n ≤ 600) (hi : 6 * (n : Int) + 6 ≤ L) (hL : L ≤ 3072) (k : ∀ S1 T1 D1, SIM (n + 1) S1 T1 D1 → LEv E L xs bc bs 1557 (LV n) [] (W5 S1 T1 D1)) : LEv E L xs (bc + 54) (bs + 7603) 942 (LV n) [] (W5 S T D) := by
  refine E_aload_n 1 dL_law_942 rfl rfl ?_
  refine L_arg (i := 6 * (n : Int)) (k := 1) (by omega) hL rfl rfl dL_law_943 dL_law_944 dL_law_945 dL_law_946 dL_law_947 ?_
  refine L_arg (i := 6 * (n : Int)) (k := 2) (by omega) hL rfl rfl dL_law_948 dL_law_949 dL_law_950 dL_law_951 dL_law_952 ?_
  refine E_callv (n := 2) 0 [.int (jI (xv xs (6 * (n : Int) + 1))), .int (jI (xv xs (6 * (n : Int) + 2)))] vL_118 dL_law_953 (pr_pinned h hn (xv_b xs _) (xv_b xs _)) (ci := 10) rfl rfl rfl (by decide) ⟨Nat.le_of_ble_eq_true rfl, Nat.le_of_ble_eq_true rfl⟩ bc bs (by omega) (by omega) _ rfl ?_
  rintro r hp ⟨v, S1, D1, rfl, rfl, hN⟩
  refine E_aload_n 2 dL_law_956 rfl rfl ?_
  refine L_arg (i := 6 * (n : Int)) (k := 1) (by omega) hL rfl rfl dL_law_957 dL_law_958 dL_law_959 dL_law_960 dL_law_961 ?_
  refine L_arg (i := 6 * (n : Int)) (k := 2) (by omega) hL rfl rfl dL_law_962 dL_law_963 dL_law_964 dL_law_965 dL_law_966 ?_
  refine E_callv (n := 2) 36 [.int (jI (xv xs (6 * (n : Int) + 1))), .int (jI (xv xs (6 * (n : Int) + 2)))] vL_121 dL_law_967 hN (ci := 11) rfl rfl rfl (by show 1 + 0 ≤ 8; decide) ⟨Nat.le_of_ble_eq_true rfl, Nat.le_of_ble_eq_true rfl⟩ bc bs (by omega) (by omega) _ rfl ?_
  rintro r hp ⟨rfl, T1, rfl, hS⟩
  exact E_icmp_eq 1557 dL_law_970 rfl (fun _ => k _ _ _ hS) (fun e => absurd rfl e)
theorem cs_25 (h : SIM n S T D) (hn : n ≤ 600) (hi : 6 * (n : Int) + 6 ≤ L) (hL : L ≤ 3072) (k : ∀ S1 T1 D1, SIM (n + 1) S1 T1 D1 → LEv E L xs bc bs 1557 (LV n) [] (W5 S1 T1 D1)) : LEv E L xs (bc + 54) (bs + 7603) 975 (LV n) [] (W5 S T D) := by
  refine E_aload_n 1 dL_law_975 rfl rfl ?_
  refine L_arg (i := 6 * (n : Int)) (k := 1) (by omega) hL rfl rfl dL_law_976 dL_law_977 dL_law_978 dL_law_979 dL_law_980 ?_
  refine E_callv (n := 1) 0 [.int (jI (xv xs (6 * (n : Int) + 1)))] vL_122 dL_law_981 (pr_fewest h hn (xv_b xs _)) (ci := 10) rfl rfl rfl (by decide) ⟨Nat.le_of_ble_eq_true rfl, Nat.le_of_ble_eq_true rfl⟩ bc bs (by omega) (by omega) _ rfl ?_
  rintro r hp ⟨v, S1, D1, rfl, rfl, hN⟩
  refine E_aload_n 2 dL_law_984 rfl rfl ?_
  refine L_arg (i := 6 * (n : Int)) (k := 1) (by omega) hL rfl rfl dL_law_985 dL_law_986 dL_law_987 dL_law_988 dL_law_989 ?_
  refine E_callv (n := 1) 36 [.int (jI (xv xs (6 * (n : Int) + 1)))] vL_125 dL_law_990 hN (ci := 11) rfl rfl rfl (by show 1 + 0 ≤ 8; decide) ⟨Nat.le_of_ble_eq_true rfl, Nat.le_of_ble_eq_true rfl⟩ bc bs (by omega) (by omega) _ rfl ?_
  rintro r hp ⟨rfl, T1, rfl, hS⟩
  exact E_icmp_eq 1557 dL_law_993 rfl (fun _ => k _ _ _ hS) (fun e => absurd rfl e)
theorem cs_26 (h : SIM n S T D) (hn : n ≤ 600) (hi : 6 * (n : Int) + 6 ≤ L) (hL : L ≤ 3072) (k : ∀ S1 T1 D1, SIM (n + 1) S1 T1 D1 → LEv E L xs bc bs 1557 (LV n) [] (W5 S1 T1 D1)) : LEv E L xs (bc + 54) (bs + 7603) 998 (LV n) [] (W5 S T D) := by
  refine E_aload_n 1 dL_law_998 rfl rfl ?_
  refine L_arg (i := 6 * (n : Int)) (k := 1) (by omega) hL rfl rfl dL_law_999 dL_law_1000 dL_law_1001 dL_law_1002 dL_law_1003 ?_
  refine L_arg (i := 6 * (n : Int)) (k := 2) (by omega) hL rfl rfl dL_law_1004 dL_law_1005 dL_law_1006 dL_law_1007 dL_law_1008 ?_
  refine E_callv (n := 2) 0 [.int (jI (xv xs (6 * (n : Int) + 1))), .int (jI (xv xs (6 * (n : Int) + 2)))] vL_126 dL_law_1009 (pr_kinds h hn (xv_b xs _) (xv_b xs _)) (ci := 10) rfl rfl rfl (by decide) ⟨Nat.le_of_ble_eq_true rfl, Nat.le_of_ble_eq_true rfl⟩ bc bs (by omega) (by omega) _ rfl ?_
  rintro r hp ⟨v, S1, D1, rfl, rfl, hN⟩
  refine E_aload_n 2 dL_law_1012 rfl rfl ?_
  refine L_arg (i := 6 * (n : Int)) (k := 1) (by omega) hL rfl rfl dL_law_1013 dL_law_1014 dL_law_1015 dL_law_1016 dL_law_1017 ?_
  refine L_arg (i := 6 * (n : Int)) (k := 2) (by omega) hL rfl rfl dL_law_1018 dL_law_1019 dL_law_1020 dL_law_1021 dL_law_1022 ?_
  refine E_callv (n := 2) 36 [.int (jI (xv xs (6 * (n : Int) + 1))), .int (jI (xv xs (6 * (n : Int) + 2)))] vL_129 dL_law_1023 hN (ci := 11) rfl rfl rfl (by show 2 + 0 ≤ 8; decide) ⟨Nat.le_of_ble_eq_true rfl, Nat.le_of_ble_eq_true rfl⟩ bc bs (by omega) (by omega) _ rfl ?_
  rintro r hp ⟨rfl, T1, rfl, hS⟩
  exact E_lcmp dL_law_1026 (E_if_eq 1557 dL_law_1027 rfl (fun _ => k _ _ _ hS) (fun e => absurd (lgc_self _) e))
theorem cs_27 (h : SIM n S T D) (hn : n ≤ 600) (hi : 6 * (n : Int) + 6 ≤ L) (hL : L ≤ 3072) (k : ∀ S1 T1 D1, SIM (n + 1) S1 T1 D1 → LEv E L xs bc bs 1557 (LV n) [] (W5 S1 T1 D1)) : LEv E L xs (bc + 54) (bs + 7603) 1032 (LV n) [] (W5 S T D) := by
  refine E_aload_n 1 dL_law_1032 rfl rfl ?_
  refine L_arg (i := 6 * (n : Int)) (k := 1) (by omega) hL rfl rfl dL_law_1033 dL_law_1034 dL_law_1035 dL_law_1036 dL_law_1037 ?_
  refine E_callv (n := 1) 0 [.int (jI (xv xs (6 * (n : Int) + 1)))] vL_130 dL_law_1038 (pr_rounds h hn (xv_b xs _)) (ci := 10) rfl rfl rfl (by decide) ⟨Nat.le_of_ble_eq_true rfl, Nat.le_of_ble_eq_true rfl⟩ bc bs (by omega) (by omega) _ rfl ?_
  rintro r hp ⟨v, S1, D1, rfl, rfl, hN⟩
  refine E_aload_n 2 dL_law_1041 rfl rfl ?_
  refine L_arg (i := 6 * (n : Int)) (k := 1) (by omega) hL rfl rfl dL_law_1042 dL_law_1043 dL_law_1044 dL_law_1045 dL_law_1046 ?_
  refine E_callv (n := 1) 36 [.int (jI (xv xs (6 * (n : Int) + 1)))] vL_134 dL_law_1047 hN (ci := 11) rfl rfl rfl (by show 2 + 0 ≤ 8; decide) ⟨Nat.le_of_ble_eq_true rfl, Nat.le_of_ble_eq_true rfl⟩ bc bs (by omega) (by omega) _ rfl ?_
  rintro r hp ⟨rfl, T1, rfl, hS⟩
  exact E_lcmp dL_law_1050 (E_if_eq 1557 dL_law_1051 rfl (fun _ => k _ _ _ hS) (fun e => absurd (lgc_self _) e))
theorem cs_28 (h : SIM n S T D) (hn : n ≤ 600) (hi : 6 * (n : Int) + 6 ≤ L) (hL : L ≤ 3072) (k : ∀ S1 T1 D1, SIM (n + 1) S1 T1 D1 → LEv E L xs bc bs 1557 (LV n) [] (W5 S1 T1 D1)) : LEv E L xs (bc + 54) (bs + 7603) 1056 (LV n) [] (W5 S T D) := by
  refine E_aload_n 1 dL_law_1056 rfl rfl ?_
  refine L_arg (i := 6 * (n : Int)) (k := 1) (by omega) hL rfl rfl dL_law_1057 dL_law_1058 dL_law_1059 dL_law_1060 dL_law_1061 ?_
  refine E_callv (n := 1) 0 [.int (jI (xv xs (6 * (n : Int) + 1)))] vL_135 dL_law_1062 (pr_threes h hn (xv_b xs _)) (ci := 10) rfl rfl rfl (by decide) ⟨Nat.le_of_ble_eq_true rfl, Nat.le_of_ble_eq_true rfl⟩ bc bs (by omega) (by omega) _ rfl ?_
  rintro r hp ⟨v, S1, D1, rfl, rfl, hN⟩
  refine E_aload_n 2 dL_law_1065 rfl rfl ?_
  refine L_arg (i := 6 * (n : Int)) (k := 1) (by omega) hL rfl rfl dL_law_1066 dL_law_1067 dL_law_1068 dL_law_1069 dL_law_1070 ?_
  refine E_callv (n := 1) 36 [.int (jI (xv xs (6 * (n : Int) + 1)))] vL_138 dL_law_1071 hN (ci := 11) rfl rfl rfl (by show 2 + 0 ≤ 8; decide) ⟨Nat.le_of_ble_eq_true rfl, Nat.le_of_ble_eq_true rfl⟩ bc bs (by omega) (by omega) _ rfl ?_
  rintro r hp ⟨rfl, T1, rfl, hS⟩
  exact E_lcmp dL_law_1074 (E_if_eq 1557 dL_law_1075 rfl (fun _ => k _ _ _ hS) (fun e => absurd (lgc_self _) e))
theorem cs_29 (h : SIM n S T D) (hn : n ≤ 600) (hi : 6 * (n : Int) + 6 ≤ L) (hL : L ≤ 3072) (k : ∀ S1 T1 D1, SIM (n + 1) S1 T1 D1 → LEv E L xs bc bs 1557 (LV n) [] (W5 S1 T1 D1)) : LEv E L xs (bc + 54) (bs + 7603) 1080 (LV n) [] (W5 S T D) := by
  refine E_aload_n 1 dL_law_1080 rfl rfl ?_
  refine L_arg (i := 6 * (n : Int)) (k := 1) (by omega) hL rfl rfl dL_law_1081 dL_law_1082 dL_law_1083 dL_law_1084 dL_law_1085 ?_
  refine E_callv (n := 1) 0 [.int (jI (xv xs (6 * (n : Int) + 1)))] vL_139 dL_law_1086 (pr_ways h hn (xv_b xs _)) (ci := 10) rfl rfl rfl (by decide) ⟨Nat.le_of_ble_eq_true rfl, Nat.le_of_ble_eq_true rfl⟩ bc bs (by omega) (by omega) _ rfl ?_
  rintro r hp ⟨v, S1, D1, rfl, rfl, hN⟩
  refine E_aload_n 2 dL_law_1089 rfl rfl ?_
  refine L_arg (i := 6 * (n : Int)) (k := 1) (by omega) hL rfl rfl dL_law_1090 dL_law_1091 dL_law_1092 dL_law_1093 dL_law_1094 ?_
  refine E_callv (n := 1) 36 [.int (jI (xv xs (6 * (n : Int) + 1)))] vL_142 dL_law_1095 hN (ci := 11) rfl rfl rfl (by show 2 + 0 ≤ 8; decide) ⟨Nat.le_of_ble_eq_true rfl, Nat.le_of_ble_eq_true rfl⟩ bc bs (by omega) (by omega) _ rfl ?_
  rintro r hp ⟨rfl, T1, rfl, hS⟩
  exact E_lcmp dL_law_1098 (E_if_eq 1557 dL_law_1099 rfl (fun _ => k _ _ _ hS) (fun e => absurd (lgc_self _) e))
theorem cs_30 (h : SIM n S T D) (hn : n ≤ 600) (hi : 6 * (n : Int) + 6 ≤ L) (hL : L ≤ 3072) (k : ∀ S1 T1 D1, SIM (n + 1) S1 T1 D1 → LEv E L xs bc bs 1557 (LV n) [] (W5 S1 T1 D1)) : LEv E L xs (bc + 54) (bs + 7603) 1104 (LV n) [] (W5 S T D) := by
  refine E_aload_n 1 dL_law_1104 rfl rfl ?_
  refine L_arg (i := 6 * (n : Int)) (k := 1) (by omega) hL rfl rfl dL_law_1105 dL_law_1106 dL_law_1107 dL_law_1108 dL_law_1109 ?_
  refine L_arg (i := 6 * (n : Int)) (k := 2) (by omega) hL rfl rfl dL_law_1110 dL_law_1111 dL_law_1112 dL_law_1113 dL_law_1114 ?_
  refine E_callv (n := 2) 0 [.int (jI (xv xs (6 * (n : Int) + 1))), .int (jI (xv xs (6 * (n : Int) + 2)))] vL_143 dL_law_1115 (pr_fill h hn (xv_b xs _) (xv_b xs _)) (ci := 10) rfl rfl rfl (by decide) ⟨Nat.le_of_ble_eq_true rfl, Nat.le_of_ble_eq_true rfl⟩ bc bs (by omega) (by omega) _ rfl ?_
  rintro r hp ⟨v, S1, D1, rfl, rfl, hN⟩
  refine E_aload_n 2 dL_law_1118 rfl rfl ?_
  refine L_arg (i := 6 * (n : Int)) (k := 1) (by omega) hL rfl rfl dL_law_1119 dL_law_1120 dL_law_1121 dL_law_1122 dL_law_1123 ?_
  refine L_arg (i := 6 * (n : Int)) (k := 2) (by omega) hL rfl rfl dL_law_1124 dL_law_1125 dL_law_1126 dL_law_1127 dL_law_1128 ?_
  refine E_callv (n := 2) 36 [.int (jI (xv xs (6 * (n : Int) + 1))), .int (jI (xv xs (6 * (n : Int) + 2)))] vL_146 dL_law_1129 hN (ci := 11) rfl rfl rfl (by show 1 + 0 ≤ 8; decide) ⟨Nat.le_of_ble_eq_true rfl, Nat.le_of_ble_eq_true rfl⟩ bc bs (by omega) (by omega) _ rfl ?_
  rintro r hp ⟨rfl, T1, rfl, hS⟩
  exact E_icmp_eq 1557 dL_law_1132 rfl (fun _ => k _ _ _ hS) (fun e => absurd rfl e)
theorem cs_31 (h : SIM n S T D) (hn : n ≤ 600) (hi : 6 * (n : Int) + 6 ≤ L) (hL : L ≤ 3072) (k : ∀ S1 T1 D1, SIM (n + 1) S1 T1 D1 → LEv E L xs bc bs 1557 (LV n) [] (W5 S1 T1 D1)) : LEv E L xs (bc + 54) (bs + 7603) 1137 (LV n) [] (W5 S T D) := by
  refine E_aload_n 1 dL_law_1137 rfl rfl ?_
  refine L_arg (i := 6 * (n : Int)) (k := 1) (by omega) hL rfl rfl dL_law_1138 dL_law_1139 dL_law_1140 dL_law_1141 dL_law_1142 ?_
  refine E_callv (n := 1) 0 [.int (jI (xv xs (6 * (n : Int) + 1)))] vL_147 dL_law_1143 (pr_forced h hn (xv_b xs _)) (ci := 10) rfl rfl rfl (by decide) ⟨Nat.le_of_ble_eq_true rfl, Nat.le_of_ble_eq_true rfl⟩ bc bs (by omega) (by omega) _ rfl ?_
  rintro r hp ⟨v, S1, D1, rfl, rfl, hN⟩
  refine E_aload_n 2 dL_law_1146 rfl rfl ?_
  refine L_arg (i := 6 * (n : Int)) (k := 1) (by omega) hL rfl rfl dL_law_1147 dL_law_1148 dL_law_1149 dL_law_1150 dL_law_1151 ?_
  refine E_callv (n := 1) 36 [.int (jI (xv xs (6 * (n : Int) + 1)))] vL_150 dL_law_1152 hN (ci := 11) rfl rfl rfl (by show 1 + 0 ≤ 8; decide) ⟨Nat.le_of_ble_eq_true rfl, Nat.le_of_ble_eq_true rfl⟩ bc bs (by omega) (by omega) _ rfl ?_
  rintro r hp ⟨rfl, T1, rfl, hS⟩
  exact E_icmp_eq 1557 dL_law_1155 rfl (fun _ => k _ _ _ hS) (fun e => absurd rfl e)
theorem cs_32 (h : SIM n S T D) (hn : n ≤ 600) (hi : 6 * (n : Int) + 6 ≤ L) (hL : L ≤ 3072) (k : ∀ S1 T1 D1, SIM (n + 1) S1 T1 D1 → LEv E L xs bc bs 1557 (LV n) [] (W5 S1 T1 D1)) : LEv E L xs (bc + 54) (bs + 7603) 1160 (LV n) [] (W5 S T D) := by
  refine E_aload_n 1 dL_law_1160 rfl rfl ?_
  refine L_arg (i := 6 * (n : Int)) (k := 1) (by omega) hL rfl rfl dL_law_1161 dL_law_1162 dL_law_1163 dL_law_1164 dL_law_1165 ?_
  refine E_callv (n := 1) 0 [.int (jI (xv xs (6 * (n : Int) + 1)))] vL_151 dL_law_1166 (pr_stay h hn (xv_b xs _)) (ci := 10) rfl rfl rfl (by decide) ⟨Nat.le_of_ble_eq_true rfl, Nat.le_of_ble_eq_true rfl⟩ bc bs (by omega) (by omega) _ rfl ?_
  rintro r hp ⟨v, S1, D1, rfl, rfl, hN⟩
  refine E_aload_n 2 dL_law_1169 rfl rfl ?_
  refine L_arg (i := 6 * (n : Int)) (k := 1) (by omega) hL rfl rfl dL_law_1170 dL_law_1171 dL_law_1172 dL_law_1173 dL_law_1174 ?_
  refine E_callv (n := 1) 36 [.int (jI (xv xs (6 * (n : Int) + 1)))] vL_154 dL_law_1175 hN (ci := 11) rfl rfl rfl (by show 1 + 0 ≤ 8; decide) ⟨Nat.le_of_ble_eq_true rfl, Nat.le_of_ble_eq_true rfl⟩ bc bs (by omega) (by omega) _ rfl ?_
  rintro r hp ⟨rfl, T1, rfl, hS⟩
  exact E_icmp_eq 1557 dL_law_1178 rfl (fun _ => k _ _ _ hS) (fun e => absurd rfl e)
theorem cs_33 (h : SIM n S T D) (hn : n ≤ 600) (hi : 6 * (n : Int) + 6 ≤ L) (hL : L ≤ 3072) (k : ∀ S1 T1 D1, SIM (n + 1) S1 T1 D1 → LEv E L xs bc bs 1557 (LV n) [] (W5 S1 T1 D1)) : LEv E L xs (bc + 54) (bs + 7603) 1183 (LV n) [] (W5 S T D) := by
  refine E_aload_n 1 dL_law_1183 rfl rfl ?_
  refine L_arg (i := 6 * (n : Int)) (k := 1) (by omega) hL rfl rfl dL_law_1184 dL_law_1185 dL_law_1186 dL_law_1187 dL_law_1188 ?_
  refine L_arg (i := 6 * (n : Int)) (k := 2) (by omega) hL rfl rfl dL_law_1189 dL_law_1190 dL_law_1191 dL_law_1192 dL_law_1193 ?_
  refine L_bool (xv_b xs _) dL_law_1194 dL_law_1197 dL_law_1198 dL_law_1201 ?_
  refine E_callv (n := 2) 0 [.int (jI (xv xs (6 * (n : Int) + 1))), .int (jI (nzI (xv xs (6 * (n : Int) + 2))))] vL_155 dL_law_1202 (pr_likely h hn (xv_b xs _) (nzI_b _)) (ci := 10) rfl rfl rfl (by decide) ⟨Nat.le_of_ble_eq_true rfl, Nat.le_of_ble_eq_true rfl⟩ bc bs (by omega) (by omega) _ rfl ?_
  rintro r hp ⟨v, S1, D1, rfl, rfl, hN⟩
  refine E_aload_n 2 dL_law_1205 rfl rfl ?_
  refine L_arg (i := 6 * (n : Int)) (k := 1) (by omega) hL rfl rfl dL_law_1206 dL_law_1207 dL_law_1208 dL_law_1209 dL_law_1210 ?_
  refine L_arg (i := 6 * (n : Int)) (k := 2) (by omega) hL rfl rfl dL_law_1211 dL_law_1212 dL_law_1213 dL_law_1214 dL_law_1215 ?_
  refine L_bool (xv_b xs _) dL_law_1216 dL_law_1219 dL_law_1220 dL_law_1223 ?_
  refine E_callv (n := 2) 36 [.int (jI (xv xs (6 * (n : Int) + 1))), .int (jI (nzI (xv xs (6 * (n : Int) + 2))))] vL_159 dL_law_1224 hN (ci := 11) rfl rfl rfl (by show 2 + 0 ≤ 8; decide) ⟨Nat.le_of_ble_eq_true rfl, Nat.le_of_ble_eq_true rfl⟩ bc bs (by omega) (by omega) _ rfl ?_
  rintro r hp ⟨rfl, T1, rfl, hS⟩
  exact E_lcmp dL_law_1227 (E_if_eq 1557 dL_law_1228 rfl (fun _ => k _ _ _ hS) (fun e => absurd (lgc_self _) e))
theorem cs_34 (h : SIM n S T D) (hn : n ≤ 600) (hi : 6 * (n : Int) + 6 ≤ L) (hL : L ≤ 3072) (k : ∀ S1 T1 D1, SIM (n + 1) S1 T1 D1 → LEv E L xs bc bs 1557 (LV n) [] (W5 S1 T1 D1)) : LEv E L xs (bc + 54) (bs + 7603) 1233 (LV n) [] (W5 S T D) := by
  refine E_aload_n 1 dL_law_1233 rfl rfl ?_
  refine L_arg (i := 6 * (n : Int)) (k := 1) (by omega) hL rfl rfl dL_law_1234 dL_law_1235 dL_law_1236 dL_law_1237 dL_law_1238 ?_
  refine L_arg (i := 6 * (n : Int)) (k := 2) (by omega) hL rfl rfl dL_law_1239 dL_law_1240 dL_law_1241 dL_law_1242 dL_law_1243 ?_
  refine L_bool (xv_b xs _) dL_law_1244 dL_law_1247 dL_law_1248 dL_law_1251 ?_
  refine E_callv (n := 2) 0 [.int (jI (xv xs (6 * (n : Int) + 1))), .int (jI (nzI (xv xs (6 * (n : Int) + 2))))] vL_160 dL_law_1252 (pr_most h hn (xv_b xs _) (nzI_b _)) (ci := 10) rfl rfl rfl (by decide) ⟨Nat.le_of_ble_eq_true rfl, Nat.le_of_ble_eq_true rfl⟩ bc bs (by omega) (by omega) _ rfl ?_
  rintro r hp ⟨v, S1, D1, rfl, rfl, hN⟩
  refine E_aload_n 2 dL_law_1255 rfl rfl ?_
  refine L_arg (i := 6 * (n : Int)) (k := 1) (by omega) hL rfl rfl dL_law_1256 dL_law_1257 dL_law_1258 dL_law_1259 dL_law_1260 ?_
  refine L_arg (i := 6 * (n : Int)) (k := 2) (by omega) hL rfl rfl dL_law_1261 dL_law_1262 dL_law_1263 dL_law_1264 dL_law_1265 ?_
  refine L_bool (xv_b xs _) dL_law_1266 dL_law_1269 dL_law_1270 dL_law_1273 ?_
  refine E_callv (n := 2) 36 [.int (jI (xv xs (6 * (n : Int) + 1))), .int (jI (nzI (xv xs (6 * (n : Int) + 2))))] vL_164 dL_law_1274 hN (ci := 11) rfl rfl rfl (by show 1 + 0 ≤ 8; decide) ⟨Nat.le_of_ble_eq_true rfl, Nat.le_of_ble_eq_true rfl⟩ bc bs (by omega) (by omega) _ rfl ?_
  rintro r hp ⟨rfl, T1, rfl, hS⟩
  exact E_icmp_eq 1557 dL_law_1277 rfl (fun _ => k _ _ _ hS) (fun e => absurd rfl e)
theorem cs_35 (h : SIM n S T D) (hn : n ≤ 600) (hi : 6 * (n : Int) + 6 ≤ L) (hL : L ≤ 3072) (k : ∀ S1 T1 D1, SIM (n + 1) S1 T1 D1 → LEv E L xs bc bs 1557 (LV n) [] (W5 S1 T1 D1)) : LEv E L xs (bc + 54) (bs + 7603) 1282 (LV n) [] (W5 S T D) := by
  refine E_aload_n 1 dL_law_1282 rfl rfl ?_
  refine L_arg (i := 6 * (n : Int)) (k := 1) (by omega) hL rfl rfl dL_law_1283 dL_law_1284 dL_law_1285 dL_law_1286 dL_law_1287 ?_
  refine L_arg (i := 6 * (n : Int)) (k := 2) (by omega) hL rfl rfl dL_law_1288 dL_law_1289 dL_law_1290 dL_law_1291 dL_law_1292 ?_
  refine E_callv (n := 2) 0 [.int (jI (xv xs (6 * (n : Int) + 1))), .int (jI (xv xs (6 * (n : Int) + 2)))] vL_165 dL_law_1293 (pr_game h hn (xv_b xs _) (xv_b xs _)) (ci := 10) rfl rfl rfl (by decide) ⟨Nat.le_of_ble_eq_true rfl, Nat.le_of_ble_eq_true rfl⟩ bc bs (by omega) (by omega) _ rfl ?_
  rintro r hp ⟨v, S1, D1, rfl, rfl, hN⟩
  refine E_aload_n 2 dL_law_1296 rfl rfl ?_
  refine L_arg (i := 6 * (n : Int)) (k := 1) (by omega) hL rfl rfl dL_law_1297 dL_law_1298 dL_law_1299 dL_law_1300 dL_law_1301 ?_
  refine L_arg (i := 6 * (n : Int)) (k := 2) (by omega) hL rfl rfl dL_law_1302 dL_law_1303 dL_law_1304 dL_law_1305 dL_law_1306 ?_
  refine E_callv (n := 2) 36 [.int (jI (xv xs (6 * (n : Int) + 1))), .int (jI (xv xs (6 * (n : Int) + 2)))] vL_168 dL_law_1307 hN (ci := 11) rfl rfl rfl (by show 1 + 0 ≤ 8; decide) ⟨Nat.le_of_ble_eq_true rfl, Nat.le_of_ble_eq_true rfl⟩ bc bs (by omega) (by omega) _ rfl ?_
  rintro r hp ⟨rfl, T1, rfl, hS⟩
  exact E_icmp_eq 1557 dL_law_1310 rfl (fun _ => k _ _ _ hS) (fun e => absurd rfl e)
theorem cs_36 (h : SIM n S T D) (hn : n ≤ 600) (hi : 6 * (n : Int) + 6 ≤ L) (hL : L ≤ 3072) (k : ∀ S1 T1 D1, SIM (n + 1) S1 T1 D1 → LEv E L xs bc bs 1557 (LV n) [] (W5 S1 T1 D1)) : LEv E L xs (bc + 54) (bs + 7603) 1315 (LV n) [] (W5 S T D) := by
  refine E_aload_n 1 dL_law_1315 rfl rfl ?_
  refine L_arg (i := 6 * (n : Int)) (k := 1) (by omega) hL rfl rfl dL_law_1316 dL_law_1317 dL_law_1318 dL_law_1319 dL_law_1320 ?_
  refine L_arg (i := 6 * (n : Int)) (k := 2) (by omega) hL rfl rfl dL_law_1321 dL_law_1322 dL_law_1323 dL_law_1324 dL_law_1325 ?_
  refine E_callv (n := 2) 0 [.int (jI (xv xs (6 * (n : Int) + 1))), .int (jI (xv xs (6 * (n : Int) + 2)))] vL_169 dL_law_1326 (pr_play h hn (xv_b xs _) (xv_b xs _)) (ci := 10) rfl rfl rfl (by decide) ⟨Nat.le_of_ble_eq_true rfl, Nat.le_of_ble_eq_true rfl⟩ bc bs (by omega) (by omega) _ rfl ?_
  rintro r hp ⟨v, S1, D1, rfl, rfl, hN⟩
  refine E_aload_n 2 dL_law_1329 rfl rfl ?_
  refine L_arg (i := 6 * (n : Int)) (k := 1) (by omega) hL rfl rfl dL_law_1330 dL_law_1331 dL_law_1332 dL_law_1333 dL_law_1334 ?_
  refine L_arg (i := 6 * (n : Int)) (k := 2) (by omega) hL rfl rfl dL_law_1335 dL_law_1336 dL_law_1337 dL_law_1338 dL_law_1339 ?_
  refine E_callv (n := 2) 36 [.int (jI (xv xs (6 * (n : Int) + 1))), .int (jI (xv xs (6 * (n : Int) + 2)))] vL_172 dL_law_1340 hN (ci := 11) rfl rfl rfl (by show 1 + 0 ≤ 8; decide) ⟨Nat.le_of_ble_eq_true rfl, Nat.le_of_ble_eq_true rfl⟩ bc bs (by omega) (by omega) _ rfl ?_
  rintro r hp ⟨rfl, T1, rfl, hS⟩
  exact E_icmp_eq 1557 dL_law_1343 rfl (fun _ => k _ _ _ hS) (fun e => absurd rfl e)
theorem cs_37 (h : SIM n S T D) (hn : n ≤ 600) (hi : 6 * (n : Int) + 6 ≤ L) (hL : L ≤ 3072) (k : ∀ S1 T1 D1, SIM (n + 1) S1 T1 D1 → LEv E L xs bc bs 1557 (LV n) [] (W5 S1 T1 D1)) : LEv E L xs (bc + 54) (bs + 7603) 1348 (LV n) [] (W5 S T D) := by
  refine E_aload_n 1 dL_law_1348 rfl rfl ?_
  refine L_arg (i := 6 * (n : Int)) (k := 1) (by omega) hL rfl rfl dL_law_1349 dL_law_1350 dL_law_1351 dL_law_1352 dL_law_1353 ?_
  refine L_arg (i := 6 * (n : Int)) (k := 2) (by omega) hL rfl rfl dL_law_1354 dL_law_1355 dL_law_1356 dL_law_1357 dL_law_1358 ?_
  refine E_callv (n := 2) 0 [.int (jI (xv xs (6 * (n : Int) + 1))), .int (jI (xv xs (6 * (n : Int) + 2)))] vL_173 dL_law_1359 (pr_said h (xv_b xs _) (xv_b xs _)) (ci := 10) rfl rfl rfl (by decide) ⟨Nat.le_of_ble_eq_true rfl, Nat.le_of_ble_eq_true rfl⟩ bc bs (by omega) (by omega) _ rfl ?_
  rintro r hp ⟨v, S1, D1, rfl, rfl, hN⟩
  refine E_aload_n 2 dL_law_1362 rfl rfl ?_
  refine L_arg (i := 6 * (n : Int)) (k := 1) (by omega) hL rfl rfl dL_law_1363 dL_law_1364 dL_law_1365 dL_law_1366 dL_law_1367 ?_
  refine L_arg (i := 6 * (n : Int)) (k := 2) (by omega) hL rfl rfl dL_law_1368 dL_law_1369 dL_law_1370 dL_law_1371 dL_law_1372 ?_
  refine E_callv (n := 2) 36 [.int (jI (xv xs (6 * (n : Int) + 1))), .int (jI (xv xs (6 * (n : Int) + 2)))] vL_176 dL_law_1373 hN (ci := 11) rfl rfl rfl (by show 1 + 0 ≤ 8; decide) ⟨Nat.le_of_ble_eq_true rfl, Nat.le_of_ble_eq_true rfl⟩ bc bs (by omega) (by omega) _ rfl ?_
  rintro r hp ⟨rfl, T1, rfl, hS⟩
  exact E_icmp_eq 1557 dL_law_1376 rfl (fun _ => k _ _ _ hS) (fun e => absurd rfl e)
theorem cs_38 (h : SIM n S T D) (hn : n ≤ 600) (hi : 6 * (n : Int) + 6 ≤ L) (hL : L ≤ 3072) (k : ∀ S1 T1 D1, SIM (n + 1) S1 T1 D1 → LEv E L xs bc bs 1557 (LV n) [] (W5 S1 T1 D1)) : LEv E L xs (bc + 54) (bs + 7603) 1381 (LV n) [] (W5 S T D) := by
  refine E_aload_n 1 dL_law_1381 rfl rfl ?_
  refine E_callv (n := 0) 0 [] vL_177 dL_law_1382 (pr_whose h) (ci := 10) rfl rfl rfl (by decide) ⟨Nat.le_of_ble_eq_true rfl, Nat.le_of_ble_eq_true rfl⟩ bc bs (by omega) (by omega) _ rfl ?_
  rintro r hp ⟨v, S1, D1, rfl, rfl, hN⟩
  refine E_aload_n 2 dL_law_1385 rfl rfl ?_
  refine E_callv (n := 0) 36 [] vL_180 dL_law_1386 hN (ci := 11) rfl rfl rfl (by show 1 + 0 ≤ 8; decide) ⟨Nat.le_of_ble_eq_true rfl, Nat.le_of_ble_eq_true rfl⟩ bc bs (by omega) (by omega) _ rfl ?_
  rintro r hp ⟨rfl, T1, rfl, hS⟩
  exact E_icmp_eq 1557 dL_law_1389 rfl (fun _ => k _ _ _ hS) (fun e => absurd rfl e)
theorem cs_39 (h : SIM n S T D) (hn : n ≤ 600) (hi : 6 * (n : Int) + 6 ≤ L) (hL : L ≤ 3072) (k : ∀ S1 T1 D1, SIM (n + 1) S1 T1 D1 → LEv E L xs bc bs 1557 (LV n) [] (W5 S1 T1 D1)) : LEv E L xs (bc + 54) (bs + 7603) 1394 (LV n) [] (W5 S T D) := by
  refine E_aload_n 1 dL_law_1394 rfl rfl ?_
  refine E_callv (n := 0) 0 [] vL_181 dL_law_1395 (pr_eldest h) (ci := 10) rfl rfl rfl (by decide) ⟨Nat.le_of_ble_eq_true rfl, Nat.le_of_ble_eq_true rfl⟩ bc bs (by omega) (by omega) _ rfl ?_
  rintro r hp ⟨v, S1, D1, rfl, rfl, hN⟩
  refine E_aload_n 2 dL_law_1398 rfl rfl ?_
  refine E_callv (n := 0) 36 [] vL_184 dL_law_1399 hN (ci := 11) rfl rfl rfl (by show 1 + 0 ≤ 8; decide) ⟨Nat.le_of_ble_eq_true rfl, Nat.le_of_ble_eq_true rfl⟩ bc bs (by omega) (by omega) _ rfl ?_
  rintro r hp ⟨rfl, T1, rfl, hS⟩
  exact E_icmp_eq 1557 dL_law_1402 rfl (fun _ => k _ _ _ hS) (fun e => absurd rfl e)
theorem cs_40 (h : SIM n S T D) (hn : n ≤ 600) (hi : 6 * (n : Int) + 6 ≤ L) (hL : L ≤ 3072) (k : ∀ S1 T1 D1, SIM (n + 1) S1 T1 D1 → LEv E L xs bc bs 1557 (LV n) [] (W5 S1 T1 D1)) : LEv E L xs (bc + 54) (bs + 7603) 1407 (LV n) [] (W5 S T D) := by
  refine E_aload_n 1 dL_law_1407 rfl rfl ?_
  refine E_callv (n := 0) 0 [] vL_185 dL_law_1408 (pr_widest h) (ci := 10) rfl rfl rfl (by decide) ⟨Nat.le_of_ble_eq_true rfl, Nat.le_of_ble_eq_true rfl⟩ bc bs (by omega) (by omega) _ rfl ?_
  rintro r hp ⟨v, S1, D1, rfl, rfl, hN⟩
  refine E_aload_n 2 dL_law_1411 rfl rfl ?_
  refine E_callv (n := 0) 36 [] vL_188 dL_law_1412 hN (ci := 11) rfl rfl rfl (by show 1 + 0 ≤ 8; decide) ⟨Nat.le_of_ble_eq_true rfl, Nat.le_of_ble_eq_true rfl⟩ bc bs (by omega) (by omega) _ rfl ?_
  rintro r hp ⟨rfl, T1, rfl, hS⟩
  exact E_icmp_eq 1557 dL_law_1415 rfl (fun _ => k _ _ _ hS) (fun e => absurd rfl e)
theorem cs_41 (h : SIM n S T D) (hn : n ≤ 600) (hi : 6 * (n : Int) + 6 ≤ L) (hL : L ≤ 3072) (k : ∀ S1 T1 D1, SIM (n + 1) S1 T1 D1 → LEv E L xs bc bs 1557 (LV n) [] (W5 S1 T1 D1)) : LEv E L xs (bc + 54) (bs + 7603) 1420 (LV n) [] (W5 S T D) := by
  refine E_aload_n 1 dL_law_1420 rfl rfl ?_
  refine E_callv (n := 0) 0 [] vL_189 dL_law_1421 (pr_mirror h) (ci := 10) rfl rfl rfl (by decide) ⟨Nat.le_of_ble_eq_true rfl, Nat.le_of_ble_eq_true rfl⟩ bc bs (by omega) (by omega) _ rfl ?_
  rintro r hp ⟨v, S1, D1, rfl, rfl, hN⟩
  refine E_aload_n 2 dL_law_1424 rfl rfl ?_
  refine E_callv (n := 0) 36 [] vL_193 dL_law_1425 hN (ci := 11) rfl rfl rfl (by show 1 + 0 ≤ 8; decide) ⟨Nat.le_of_ble_eq_true rfl, Nat.le_of_ble_eq_true rfl⟩ bc bs (by omega) (by omega) _ rfl ?_
  rintro r hp ⟨rfl, T1, rfl, hS⟩
  exact E_icmp_eq 1557 dL_law_1428 rfl (fun _ => k _ _ _ hS) (fun e => absurd rfl e)
theorem cs_42 (h : SIM n S T D) (hn : n ≤ 600) (hi : 6 * (n : Int) + 6 ≤ L) (hL : L ≤ 3072) (k : ∀ S1 T1 D1, SIM (n + 1) S1 T1 D1 → LEv E L xs bc bs 1557 (LV n) [] (W5 S1 T1 D1)) : LEv E L xs (bc + 54) (bs + 7603) 1433 (LV n) [] (W5 S T D) := by
  refine E_aload_n 1 dL_law_1433 rfl rfl ?_
  refine E_callv (n := 0) 0 [] vL_194 dL_law_1434 (pr_crossed h) (ci := 10) rfl rfl rfl (by decide) ⟨Nat.le_of_ble_eq_true rfl, Nat.le_of_ble_eq_true rfl⟩ bc bs (by omega) (by omega) _ rfl ?_
  rintro r hp ⟨v, S1, D1, rfl, rfl, hN⟩
  refine E_aload_n 2 dL_law_1437 rfl rfl ?_
  refine E_callv (n := 0) 36 [] vL_197 dL_law_1438 hN (ci := 11) rfl rfl rfl (by show 1 + 0 ≤ 8; decide) ⟨Nat.le_of_ble_eq_true rfl, Nat.le_of_ble_eq_true rfl⟩ bc bs (by omega) (by omega) _ rfl ?_
  rintro r hp ⟨rfl, T1, rfl, hS⟩
  exact E_icmp_eq 1557 dL_law_1441 rfl (fun _ => k _ _ _ hS) (fun e => absurd rfl e)
theorem cs_43 (h : SIM n S T D) (hn : n ≤ 600) (hi : 6 * (n : Int) + 6 ≤ L) (hL : L ≤ 3072) (k : ∀ S1 T1 D1, SIM (n + 1) S1 T1 D1 → LEv E L xs bc bs 1557 (LV n) [] (W5 S1 T1 D1)) : LEv E L xs (bc + 54) (bs + 7603) 1446 (LV n) [] (W5 S T D) := by
  refine E_aload_n 1 dL_law_1446 rfl rfl ?_
  refine E_callv (n := 0) 0 [] vL_198 dL_law_1447 (pr_nested h) (ci := 10) rfl rfl rfl (by decide) ⟨Nat.le_of_ble_eq_true rfl, Nat.le_of_ble_eq_true rfl⟩ bc bs (by omega) (by omega) _ rfl ?_
  rintro r hp ⟨v, S1, D1, rfl, rfl, hN⟩
  refine E_aload_n 2 dL_law_1450 rfl rfl ?_
  refine E_callv (n := 0) 36 [] vL_201 dL_law_1451 hN (ci := 11) rfl rfl rfl (by show 1 + 0 ≤ 8; decide) ⟨Nat.le_of_ble_eq_true rfl, Nat.le_of_ble_eq_true rfl⟩ bc bs (by omega) (by omega) _ rfl ?_
  rintro r hp ⟨rfl, T1, rfl, hS⟩
  exact E_icmp_eq 1557 dL_law_1454 rfl (fun _ => k _ _ _ hS) (fun e => absurd rfl e)
theorem cs_44 (h : SIM n S T D) (hn : n ≤ 600) (hi : 6 * (n : Int) + 6 ≤ L) (hL : L ≤ 3072) (k : ∀ S1 T1 D1, SIM (n + 1) S1 T1 D1 → LEv E L xs bc bs 1557 (LV n) [] (W5 S1 T1 D1)) : LEv E L xs (bc + 54) (bs + 7603) 1459 (LV n) [] (W5 S T D) := by
  refine E_aload_n 1 dL_law_1459 rfl rfl ?_
  refine E_callv (n := 0) 0 [] vL_202 dL_law_1460 (pr_spread h) (ci := 10) rfl rfl rfl (by decide) ⟨Nat.le_of_ble_eq_true rfl, Nat.le_of_ble_eq_true rfl⟩ bc bs (by omega) (by omega) _ rfl ?_
  rintro r hp ⟨v, S1, D1, rfl, rfl, hN⟩
  refine E_aload_n 2 dL_law_1463 rfl rfl ?_
  refine E_callv (n := 0) 36 [] vL_205 dL_law_1464 hN (ci := 11) rfl rfl rfl (by show 1 + 0 ≤ 8; decide) ⟨Nat.le_of_ble_eq_true rfl, Nat.le_of_ble_eq_true rfl⟩ bc bs (by omega) (by omega) _ rfl ?_
  rintro r hp ⟨rfl, T1, rfl, hS⟩
  exact E_icmp_eq 1557 dL_law_1467 rfl (fun _ => k _ _ _ hS) (fun e => absurd rfl e)
theorem cs_45 (h : SIM n S T D) (hn : n ≤ 600) (hi : 6 * (n : Int) + 6 ≤ L) (hL : L ≤ 3072) (k : ∀ S1 T1 D1, SIM (n + 1) S1 T1 D1 → LEv E L xs bc bs 1557 (LV n) [] (W5 S1 T1 D1)) : LEv E L xs (bc + 54) (bs + 7603) 1472 (LV n) [] (W5 S T D) := by
  refine E_aload_n 1 dL_law_1472 rfl rfl ?_
  refine E_callv (n := 0) 0 [] vL_206 dL_law_1473 (pr_room h) (ci := 10) rfl rfl rfl (by decide) ⟨Nat.le_of_ble_eq_true rfl, Nat.le_of_ble_eq_true rfl⟩ bc bs (by omega) (by omega) _ rfl ?_
  rintro r hp ⟨v, S1, D1, rfl, rfl, hN⟩
  refine E_aload_n 2 dL_law_1476 rfl rfl ?_
  refine E_callv (n := 0) 36 [] vL_209 dL_law_1477 hN (ci := 11) rfl rfl rfl (by show 1 + 0 ≤ 8; decide) ⟨Nat.le_of_ble_eq_true rfl, Nat.le_of_ble_eq_true rfl⟩ bc bs (by omega) (by omega) _ rfl ?_
  rintro r hp ⟨rfl, T1, rfl, hS⟩
  exact E_icmp_eq 1557 dL_law_1480 rfl (fun _ => k _ _ _ hS) (fun e => absurd rfl e)
theorem cs_46 (h : SIM n S T D) (hn : n ≤ 600) (hi : 6 * (n : Int) + 6 ≤ L) (hL : L ≤ 3072) (k : ∀ S1 T1 D1, SIM (n + 1) S1 T1 D1 → LEv E L xs bc bs 1557 (LV n) [] (W5 S1 T1 D1)) : LEv E L xs (bc + 54) (bs + 7603) 1485 (LV n) [] (W5 S T D) := by
  refine E_aload_n 1 dL_law_1485 rfl rfl ?_
  refine L_arg (i := 6 * (n : Int)) (k := 1) (by omega) hL rfl rfl dL_law_1486 dL_law_1487 dL_law_1488 dL_law_1489 dL_law_1490 ?_
  refine E_callv (n := 1) 0 [.int (jI (xv xs (6 * (n : Int) + 1)))] vL_210 dL_law_1491 (pr_ledger h (xv_b xs _)) (ci := 10) rfl rfl rfl (by decide) ⟨Nat.le_of_ble_eq_true rfl, Nat.le_of_ble_eq_true rfl⟩ bc bs (by omega) (by omega) _ rfl ?_
  rintro r hp ⟨v, S1, D1, rfl, rfl, hN⟩
  refine E_aload_n 2 dL_law_1494 rfl rfl ?_
  refine L_arg (i := 6 * (n : Int)) (k := 1) (by omega) hL rfl rfl dL_law_1495 dL_law_1496 dL_law_1497 dL_law_1498 dL_law_1499 ?_
  refine E_callv (n := 1) 36 [.int (jI (xv xs (6 * (n : Int) + 1)))] vL_213 dL_law_1500 hN (ci := 11) rfl rfl rfl (by show 1 + 0 ≤ 8; decide) ⟨Nat.le_of_ble_eq_true rfl, Nat.le_of_ble_eq_true rfl⟩ bc bs (by omega) (by omega) _ rfl ?_
  rintro r hp ⟨rfl, T1, rfl, hS⟩
  exact E_icmp_eq 1557 dL_law_1503 rfl (fun _ => k _ _ _ hS) (fun e => absurd rfl e)
theorem cs_47 (h : SIM n S T D) (hn : n ≤ 600) (hi : 6 * (n : Int) + 6 ≤ L) (hL : L ≤ 3072) (k : ∀ S1 T1 D1, SIM (n + 1) S1 T1 D1 → LEv E L xs bc bs 1557 (LV n) [] (W5 S1 T1 D1)) : LEv E L xs (bc + 54) (bs + 7603) 1508 (LV n) [] (W5 S T D) := by
  refine E_aload_n 1 dL_law_1508 rfl rfl ?_
  refine E_callv (n := 0) 0 [] vL_214 dL_law_1509 (pr_image h) (ci := 10) rfl rfl rfl (by decide) ⟨Nat.le_of_ble_eq_true rfl, Nat.le_of_ble_eq_true rfl⟩ bc bs (by omega) (by omega) _ rfl ?_
  rintro r hp ⟨v, S1, D1, rfl, rfl, hN⟩
  refine E_aload_n 2 dL_law_1512 rfl rfl ?_
  refine E_callv (n := 0) 36 [] vL_217 dL_law_1513 hN (ci := 11) rfl rfl rfl (by show 1 + 0 ≤ 8; decide) ⟨Nat.le_of_ble_eq_true rfl, Nat.le_of_ble_eq_true rfl⟩ bc bs (by omega) (by omega) _ rfl ?_
  rintro r hp ⟨rfl, T1, rfl, hS⟩
  exact E_icmp_eq 1557 dL_law_1516 rfl (fun _ => k _ _ _ hS) (fun e => absurd rfl e)
theorem cs_48 (h : SIM n S T D) (hn : n ≤ 600) (hi : 6 * (n : Int) + 6 ≤ L) (hL : L ≤ 3072) (k : ∀ S1 T1 D1, SIM (n + 1) S1 T1 D1 → LEv E L xs bc bs 1557 (LV n) [] (W5 S1 T1 D1)) : LEv E L xs (bc + 54) (bs + 7603) 1521 (LV n) [] (W5 S T D) := by
  refine E_aload_n 1 dL_law_1521 rfl rfl ?_
  refine E_callv (n := 0) 0 [] vL_218 dL_law_1522 (pr_back h) (ci := 10) rfl rfl rfl (by decide) ⟨Nat.le_of_ble_eq_true rfl, Nat.le_of_ble_eq_true rfl⟩ bc bs (by omega) (by omega) _ rfl ?_
  rintro r hp ⟨v, S1, D1, rfl, rfl, hN⟩
  refine E_aload_n 2 dL_law_1525 rfl rfl ?_
  refine E_callv (n := 0) 36 [] vL_221 dL_law_1526 hN (ci := 11) rfl rfl rfl (by show 1 + 0 ≤ 8; decide) ⟨Nat.le_of_ble_eq_true rfl, Nat.le_of_ble_eq_true rfl⟩ bc bs (by omega) (by omega) _ rfl ?_
  rintro r hp ⟨rfl, T1, rfl, hS⟩
  exact E_icmp_eq 1557 dL_law_1529 rfl (fun _ => k _ _ _ hS) (fun e => absurd rfl e)
theorem cs_49 (h : SIM n S T D) (hn : n ≤ 600) (hi : 6 * (n : Int) + 6 ≤ L) (hL : L ≤ 3072) (k : ∀ S1 T1 D1, SIM (n + 1) S1 T1 D1 → LEv E L xs bc bs 1557 (LV n) [] (W5 S1 T1 D1)) : LEv E L xs (bc + 54) (bs + 7603) 1534 (LV n) [] (W5 S T D) := by
  refine E_aload_n 1 dL_law_1534 rfl rfl ?_
  refine L_arg (i := 6 * (n : Int)) (k := 1) (by omega) hL rfl rfl dL_law_1535 dL_law_1536 dL_law_1537 dL_law_1538 dL_law_1539 ?_
  refine E_callv (n := 1) 0 [.int (jI (xv xs (6 * (n : Int) + 1)))] vL_222 dL_law_1540 (pr_about h (xv_b xs _)) (ci := 10) rfl rfl rfl (by decide) ⟨Nat.le_of_ble_eq_true rfl, Nat.le_of_ble_eq_true rfl⟩ bc bs (by omega) (by omega) _ rfl ?_
  rintro r hp ⟨v, S1, D1, rfl, rfl, hN⟩
  refine E_aload_n 2 dL_law_1543 rfl rfl ?_
  refine L_arg (i := 6 * (n : Int)) (k := 1) (by omega) hL rfl rfl dL_law_1544 dL_law_1545 dL_law_1546 dL_law_1547 dL_law_1548 ?_
  refine E_callv (n := 1) 36 [.int (jI (xv xs (6 * (n : Int) + 1)))] vL_225 dL_law_1549 hN (ci := 11) rfl rfl rfl (by show 1 + 0 ≤ 8; decide) ⟨Nat.le_of_ble_eq_true rfl, Nat.le_of_ble_eq_true rfl⟩ bc bs (by omega) (by omega) _ rfl ?_
  rintro r hp ⟨rfl, T1, rfl, hS⟩
  exact E_icmp_eq 1557 dL_law_1552 rfl (fun _ => k _ _ _ hS) (fun e => absurd rfl e)
end CS
