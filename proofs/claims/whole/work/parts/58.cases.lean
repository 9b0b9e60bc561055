/-! the law, case by case -/
section LC
variable {D : va_G} {cA : ClassId} {gX gR : Nat → Nat} {z : sl_K} {p : Program} {l : Launch} {e : Env} {s : State} {m : MethodId} {below : List Frame} {meth : Method} {c : Code} {b L i : Nat} {xs : Nat → Int32} {MX MR : sl_M}
theorem law_c0 (C : lj_C D cA gX gR z p s m meth c b L xs) (hi : i + 6 ≤ L) (h : Rel MX MR) (kk : ∀ MX2 MR2, Rel MX2 MR2 → lj_A D cA gX gR p l e s m below meth c b 1752 (lj_v gX gR b i) [] MX2 MR2) : lj_A D cA gX gR p l e s m below meth c b 256 (lj_v gX gR b i) [] MX MR := by
  obtain ⟨r, X', R', e1, e2, h'⟩ := st_cell h (xs (i + 1)) (xs (i + 2)) (xs (i + 3))
  refine lj_aload C dL_256 rfl 1 rfl ?_
  refine lj_arg C (k := 1) dL_257 dL_258 dL_259 dL_260 dL_261 rfl (by omega) ?_
  refine lj_arg C (k := 2) dL_262 dL_263 dL_264 dL_265 dL_266 rfl (by omega) ?_
  refine lj_arg C (k := 3) dL_267 dL_268 dL_269 dL_270 dL_271 rfl (by omega) ?_
  refine lj_callX C (r := r) (M2 := X') (As := [.int (xs (i + 1)), .int (xs (i + 2)), .int (xs (i + 3))]) (rest := []) yy_X4_cell ⟨q_261, q_262⟩ q_260 dL_272 rfl ⟨by decide, by decide⟩ (Nat.le_of_ble_eq_true rfl) (fun _ => cc4_cell e1) rfl ?_
  refine lj_aload C dL_275 rfl 2 rfl ?_
  refine lj_arg C (k := 1) dL_276 dL_277 dL_278 dL_279 dL_280 rfl (by omega) ?_
  refine lj_arg C (k := 2) dL_281 dL_282 dL_283 dL_284 dL_285 rfl (by omega) ?_
  refine lj_arg C (k := 3) dL_286 dL_287 dL_288 dL_289 dL_290 rfl (by omega) ?_
  refine lj_callR C (r := r) (M2 := R') (As := [.int (xs (i + 1)), .int (xs (i + 2)), .int (xs (i + 3))]) (rest := [.int r]) yy_X5_cell ⟨q_899, q_900⟩ q_898 dL_291 rfl ⟨by decide, by decide⟩ (Nat.le_of_ble_eq_true rfl) (fun _ => cc5_cell e2) rfl ?_
  exact lj_eq C dL_294 (by decide) (kk X' R' h')
theorem law_c1 (C : lj_C D cA gX gR z p s m meth c b L xs) (hi : i + 6 ≤ L) (h : Rel MX MR) (kk : ∀ MX2 MR2, Rel MX2 MR2 → lj_A D cA gX gR p l e s m below meth c b 1752 (lj_v gX gR b i) [] MX2 MR2) : lj_A D cA gX gR p l e s m below meth c b 299 (lj_v gX gR b i) [] MX MR := by
  obtain ⟨r, X', R', e1, e2, h'⟩ := st_set h (xs (i + 1)) (xs (i + 2))
  refine lj_aload C dL_299 rfl 1 rfl ?_
  refine lj_arg C (k := 1) dL_300 dL_301 dL_302 dL_303 dL_304 rfl (by omega) ?_
  refine lj_arg C (k := 2) dL_305 dL_306 dL_307 dL_308 dL_309 rfl (by omega) ?_
  refine lj_callX C (r := r) (M2 := X') (As := [.int (xs (i + 1)), .int (xs (i + 2))]) (rest := []) yy_X4_set ⟨q_294, q_295⟩ q_293 dL_310 rfl ⟨by decide, by decide⟩ (Nat.le_of_ble_eq_true rfl) (fun _ => cc4_set e1) rfl ?_
  refine lj_aload C dL_313 rfl 2 rfl ?_
  refine lj_arg C (k := 1) dL_314 dL_315 dL_316 dL_317 dL_318 rfl (by omega) ?_
  refine lj_arg C (k := 2) dL_319 dL_320 dL_321 dL_322 dL_323 rfl (by omega) ?_
  refine lj_callR C (r := r) (M2 := R') (As := [.int (xs (i + 1)), .int (xs (i + 2))]) (rest := [.int r]) yy_X5_set ⟨q_916, q_917⟩ q_915 dL_324 rfl ⟨by decide, by decide⟩ (Nat.le_of_ble_eq_true rfl) (fun _ => cc5_set e2) rfl ?_
  exact lj_eq C dL_327 (by decide) (kk X' R' h')
theorem law_c2 (C : lj_C D cA gX gR z p s m meth c b L xs) (hi : i + 6 ≤ L) (h : Rel MX MR) (kk : ∀ MX2 MR2, Rel MX2 MR2 → lj_A D cA gX gR p l e s m below meth c b 1752 (lj_v gX gR b i) [] MX2 MR2) : lj_A D cA gX gR p l e s m below meth c b 332 (lj_v gX gR b i) [] MX MR := by
  obtain ⟨r, X', R', e1, e2, h'⟩ := st_cellOf h (xs (i + 1)) (xs (i + 2))
  refine lj_aload C dL_332 rfl 1 rfl ?_
  refine lj_arg C (k := 1) dL_333 dL_334 dL_335 dL_336 dL_337 rfl (by omega) ?_
  refine lj_arg C (k := 2) dL_338 dL_339 dL_340 dL_341 dL_342 rfl (by omega) ?_
  refine lj_callX C (r := r) (M2 := X') (As := [.int (xs (i + 1)), .int (xs (i + 2))]) (rest := []) yy_X4_cellOf ⟨q_305, q_306⟩ q_304 dL_343 rfl ⟨by decide, by decide⟩ (Nat.le_of_ble_eq_true rfl) (fun _ => cc4_cellOf e1) rfl ?_
  refine lj_aload C dL_346 rfl 2 rfl ?_
  refine lj_arg C (k := 1) dL_347 dL_348 dL_349 dL_350 dL_351 rfl (by omega) ?_
  refine lj_arg C (k := 2) dL_352 dL_353 dL_354 dL_355 dL_356 rfl (by omega) ?_
  refine lj_callR C (r := r) (M2 := R') (As := [.int (xs (i + 1)), .int (xs (i + 2))]) (rest := [.int r]) yy_X5_cellOf ⟨q_932, q_933⟩ q_931 dL_357 rfl ⟨by decide, by decide⟩ (Nat.le_of_ble_eq_true rfl) (fun _ => cc5_cellOf e2) rfl ?_
  exact lj_eq C dL_360 (by decide) (kk X' R' h')
theorem law_c3 (C : lj_C D cA gX gR z p s m meth c b L xs) (hi : i + 6 ≤ L) (h : Rel MX MR) (kk : ∀ MX2 MR2, Rel MX2 MR2 → lj_A D cA gX gR p l e s m below meth c b 1752 (lj_v gX gR b i) [] MX2 MR2) : lj_A D cA gX gR p l e s m below meth c b 365 (lj_v gX gR b i) [] MX MR := by
  obtain ⟨r, X', R', e1, e2, h'⟩ := st_house h (xs (i + 1)) (xs (i + 2))
  refine lj_aload C dL_365 rfl 1 rfl ?_
  refine lj_arg C (k := 1) dL_366 dL_367 dL_368 dL_369 dL_370 rfl (by omega) ?_
  refine lj_arg C (k := 2) dL_371 dL_372 dL_373 dL_374 dL_375 rfl (by omega) ?_
  refine lj_callX C (r := r) (M2 := X') (As := [.int (xs (i + 1)), .int (xs (i + 2))]) (rest := []) yy_X4_house ⟨q_315, q_316⟩ q_314 dL_376 rfl ⟨by decide, by decide⟩ (Nat.le_of_ble_eq_true rfl) (fun _ => cc4_house e1) rfl ?_
  refine lj_aload C dL_379 rfl 2 rfl ?_
  refine lj_arg C (k := 1) dL_380 dL_381 dL_382 dL_383 dL_384 rfl (by omega) ?_
  refine lj_arg C (k := 2) dL_385 dL_386 dL_387 dL_388 dL_389 rfl (by omega) ?_
  refine lj_callR C (r := r) (M2 := R') (As := [.int (xs (i + 1)), .int (xs (i + 2))]) (rest := [.int r]) yy_X5_house ⟨q_953, q_954⟩ q_952 dL_390 rfl ⟨by decide, by decide⟩ (Nat.le_of_ble_eq_true rfl) (fun _ => cc5_house e2) rfl ?_
  exact lj_eq C dL_393 (by decide) (kk X' R' h')
theorem law_c4 (C : lj_C D cA gX gR z p s m meth c b L xs) (hi : i + 6 ≤ L) (h : Rel MX MR) (kk : ∀ MX2 MR2, Rel MX2 MR2 → lj_A D cA gX gR p l e s m below meth c b 1752 (lj_v gX gR b i) [] MX2 MR2) : lj_A D cA gX gR p l e s m below meth c b 398 (lj_v gX gR b i) [] MX MR := by
  obtain ⟨r, X', R', e1, e2, h'⟩ := st_houseOf h (xs (i + 1)) (xs (i + 2))
  refine lj_aload C dL_398 rfl 1 rfl ?_
  refine lj_arg C (k := 1) dL_399 dL_400 dL_401 dL_402 dL_403 rfl (by omega) ?_
  refine lj_arg C (k := 2) dL_404 dL_405 dL_406 dL_407 dL_408 rfl (by omega) ?_
  refine lj_callX C (r := r) (M2 := X') (As := [.int (xs (i + 1)), .int (xs (i + 2))]) (rest := []) yy_X4_houseOf ⟨q_330, q_331⟩ q_329 dL_409 rfl ⟨by decide, by decide⟩ (Nat.le_of_ble_eq_true rfl) (fun _ => cc4_houseOf e1) rfl ?_
  refine lj_aload C dL_412 rfl 2 rfl ?_
  refine lj_arg C (k := 1) dL_413 dL_414 dL_415 dL_416 dL_417 rfl (by omega) ?_
  refine lj_arg C (k := 2) dL_418 dL_419 dL_420 dL_421 dL_422 rfl (by omega) ?_
  refine lj_callR C (r := r) (M2 := R') (As := [.int (xs (i + 1)), .int (xs (i + 2))]) (rest := [.int r]) yy_X5_houseOf ⟨q_966, q_967⟩ q_965 dL_423 rfl ⟨by decide, by decide⟩ (Nat.le_of_ble_eq_true rfl) (fun _ => cc5_houseOf e2) rfl ?_
  exact lj_eq C dL_426 (by decide) (kk X' R' h')
theorem law_c5 (C : lj_C D cA gX gR z p s m meth c b L xs) (hi : i + 6 ≤ L) (h : Rel MX MR) (kk : ∀ MX2 MR2, Rel MX2 MR2 → lj_A D cA gX gR p l e s m below meth c b 1752 (lj_v gX gR b i) [] MX2 MR2) : lj_A D cA gX gR p l e s m below meth c b 431 (lj_v gX gR b i) [] MX MR := by
  obtain ⟨r, X', R', e1, e2, h'⟩ := st_floor h (xs (i + 1)) (xs (i + 2))
  refine lj_aload C dL_431 rfl 1 rfl ?_
  refine lj_arg C (k := 1) dL_432 dL_433 dL_434 dL_435 dL_436 rfl (by omega) ?_
  refine lj_arg C (k := 2) dL_437 dL_438 dL_439 dL_440 dL_441 rfl (by omega) ?_
  refine lj_callX C (r := r) (M2 := X') (As := [.int (xs (i + 1)), .int (xs (i + 2))]) (rest := []) yy_X4_floor ⟨q_342, q_343⟩ q_341 dL_442 rfl ⟨by decide, by decide⟩ (Nat.le_of_ble_eq_true rfl) (fun _ => cc4_floor e1) rfl ?_
  refine lj_aload C dL_445 rfl 2 rfl ?_
  refine lj_arg C (k := 1) dL_446 dL_447 dL_448 dL_449 dL_450 rfl (by omega) ?_
  refine lj_arg C (k := 2) dL_451 dL_452 dL_453 dL_454 dL_455 rfl (by omega) ?_
  refine lj_callR C (r := r) (M2 := R') (As := [.int (xs (i + 1)), .int (xs (i + 2))]) (rest := [.int r]) yy_X5_floor ⟨q_987, q_988⟩ q_986 dL_456 rfl ⟨by decide, by decide⟩ (Nat.le_of_ble_eq_true rfl) (fun _ => cc5_floor e2) rfl ?_
  exact lj_eq C dL_459 (by decide) (kk X' R' h')
theorem law_c6 (C : lj_C D cA gX gR z p s m meth c b L xs) (hi : i + 6 ≤ L) (h : Rel MX MR) (kk : ∀ MX2 MR2, Rel MX2 MR2 → lj_A D cA gX gR p l e s m below meth c b 1752 (lj_v gX gR b i) [] MX2 MR2) : lj_A D cA gX gR p l e s m below meth c b 464 (lj_v gX gR b i) [] MX MR := by
  obtain ⟨r, X', R', e1, e2, h'⟩ := st_windows h (xs (i + 1)) (xs (i + 2))
  refine lj_aload C dL_464 rfl 1 rfl ?_
  refine lj_arg C (k := 1) dL_465 dL_466 dL_467 dL_468 dL_469 rfl (by omega) ?_
  refine lj_arg C (k := 2) dL_470 dL_471 dL_472 dL_473 dL_474 rfl (by omega) ?_
  refine lj_callX C (r := r) (M2 := X') (As := [.int (xs (i + 1)), .int (xs (i + 2))]) (rest := []) yy_X4_windows ⟨q_346, q_347⟩ q_345 dL_475 rfl ⟨by decide, by decide⟩ (Nat.le_of_ble_eq_true rfl) (fun _ => cc4_windows e1) rfl ?_
  refine lj_aload C dL_478 rfl 2 rfl ?_
  refine lj_arg C (k := 1) dL_479 dL_480 dL_481 dL_482 dL_483 rfl (by omega) ?_
  refine lj_arg C (k := 2) dL_484 dL_485 dL_486 dL_487 dL_488 rfl (by omega) ?_
  refine lj_callR C (r := r) (M2 := R') (As := [.int (xs (i + 1)), .int (xs (i + 2))]) (rest := [.int r]) yy_X5_windows ⟨q_991, q_992⟩ q_990 dL_489 rfl ⟨by decide, by decide⟩ (Nat.le_of_ble_eq_true rfl) (fun _ => cc5_windows e2) rfl ?_
  exact lj_eq C dL_492 (by decide) (kk X' R' h')
theorem law_c7 (C : lj_C D cA gX gR z p s m meth c b L xs) (hi : i + 6 ≤ L) (h : Rel MX MR) (kk : ∀ MX2 MR2, Rel MX2 MR2 → lj_A D cA gX gR p l e s m below meth c b 1752 (lj_v gX gR b i) [] MX2 MR2) : lj_A D cA gX gR p l e s m below meth c b 497 (lj_v gX gR b i) [] MX MR := by
  obtain ⟨r, X', R', e1, e2, h'⟩ := st_law h (xs (i + 1)) (xs (i + 2))
  refine lj_aload C dL_497 rfl 1 rfl ?_
  refine lj_arg C (k := 1) dL_498 dL_499 dL_500 dL_501 dL_502 rfl (by omega) ?_
  refine lj_arg C (k := 2) dL_503 dL_504 dL_505 dL_506 dL_507 rfl (by omega) ?_
  refine lj_callX C (r := r) (M2 := X') (As := [.int (xs (i + 1)), .int (xs (i + 2))]) (rest := []) yy_X4_law ⟨q_350, q_351⟩ q_349 dL_508 rfl ⟨by decide, by decide⟩ (Nat.le_of_ble_eq_true rfl) (fun _ => cc4_law e1) rfl ?_
  refine lj_aload C dL_511 rfl 2 rfl ?_
  refine lj_arg C (k := 1) dL_512 dL_513 dL_514 dL_515 dL_516 rfl (by omega) ?_
  refine lj_arg C (k := 2) dL_517 dL_518 dL_519 dL_520 dL_521 rfl (by omega) ?_
  refine lj_callR C (r := r) (M2 := R') (As := [.int (xs (i + 1)), .int (xs (i + 2))]) (rest := [.int r]) yy_X5_law ⟨q_995, q_996⟩ q_994 dL_522 rfl ⟨by decide, by decide⟩ (Nat.le_of_ble_eq_true rfl) (fun _ => cc5_law e2) rfl ?_
  exact lj_eq C dL_525 (by decide) (kk X' R' h')
theorem law_c8 (C : lj_C D cA gX gR z p s m meth c b L xs) (hi : i + 6 ≤ L) (h : Rel MX MR) (kk : ∀ MX2 MR2, Rel MX2 MR2 → lj_A D cA gX gR p l e s m below meth c b 1752 (lj_v gX gR b i) [] MX2 MR2) : lj_A D cA gX gR p l e s m below meth c b 530 (lj_v gX gR b i) [] MX MR := by
  obtain ⟨r, X', R', e1, e2, h'⟩ := st_dig h (xs (i + 1)) (xs (i + 2)) (xs (i + 3))
  refine lj_aload C dL_530 rfl 1 rfl ?_
  refine lj_arg C (k := 1) dL_531 dL_532 dL_533 dL_534 dL_535 rfl (by omega) ?_
  refine lj_arg C (k := 2) dL_536 dL_537 dL_538 dL_539 dL_540 rfl (by omega) ?_
  refine lj_arg C (k := 3) dL_541 dL_542 dL_543 dL_544 dL_545 rfl (by omega) ?_
  refine lj_callX C (r := r) (M2 := X') (As := [.int (xs (i + 1)), .int (xs (i + 2)), .int (xs (i + 3))]) (rest := []) yy_X4_dig ⟨q_354, q_355⟩ q_353 dL_546 rfl ⟨by decide, by decide⟩ (Nat.le_of_ble_eq_true rfl) (fun _ => cc4_dig e1) rfl ?_
  refine lj_aload C dL_549 rfl 2 rfl ?_
  refine lj_arg C (k := 1) dL_550 dL_551 dL_552 dL_553 dL_554 rfl (by omega) ?_
  refine lj_arg C (k := 2) dL_555 dL_556 dL_557 dL_558 dL_559 rfl (by omega) ?_
  refine lj_arg C (k := 3) dL_560 dL_561 dL_562 dL_563 dL_564 rfl (by omega) ?_
  refine lj_callR C (r := r) (M2 := R') (As := [.int (xs (i + 1)), .int (xs (i + 2)), .int (xs (i + 3))]) (rest := [.int r]) yy_X5_dig ⟨q_999, q_1000⟩ q_998 dL_565 rfl ⟨by decide, by decide⟩ (Nat.le_of_ble_eq_true rfl) (fun _ => cc5_dig e2) rfl ?_
  exact lj_eq C dL_568 (by decide) (kk X' R' h')
theorem law_c9 (C : lj_C D cA gX gR z p s m meth c b L xs) (hi : i + 6 ≤ L) (h : Rel MX MR) (kk : ∀ MX2 MR2, Rel MX2 MR2 → lj_A D cA gX gR p l e s m below meth c b 1752 (lj_v gX gR b i) [] MX2 MR2) : lj_A D cA gX gR p l e s m below meth c b 573 (lj_v gX gR b i) [] MX MR := by
  obtain ⟨r, X', R', e1, e2, h'⟩ := st_drain h (xs (i + 1))
  refine lj_aload C dL_573 rfl 1 rfl ?_
  refine lj_arg C (k := 1) dL_574 dL_575 dL_576 dL_577 dL_578 rfl (by omega) ?_
  refine lj_callX C (r := r) (M2 := X') (As := [.int (xs (i + 1))]) (rest := []) yy_X4_drain ⟨q_366, q_367⟩ q_365 dL_579 rfl ⟨by decide, by decide⟩ (Nat.le_of_ble_eq_true rfl) (fun _ => cc4_drain e1) rfl ?_
  refine lj_aload C dL_582 rfl 2 rfl ?_
  refine lj_arg C (k := 1) dL_583 dL_584 dL_585 dL_586 dL_587 rfl (by omega) ?_
  refine lj_callR C (r := r) (M2 := R') (As := [.int (xs (i + 1))]) (rest := [.int r]) yy_X5_drain ⟨q_1010, q_1011⟩ q_1009 dL_588 rfl ⟨by decide, by decide⟩ (Nat.le_of_ble_eq_true rfl) (fun _ => cc5_drain e2) rfl ?_
  exact lj_eq C dL_591 (by decide) (kk X' R' h')
theorem law_c10 (C : lj_C D cA gX gR z p s m meth c b L xs) (hi : i + 6 ≤ L) (h : Rel MX MR) (kk : ∀ MX2 MR2, Rel MX2 MR2 → lj_A D cA gX gR p l e s m below meth c b 1752 (lj_v gX gR b i) [] MX2 MR2) : lj_A D cA gX gR p l e s m below meth c b 596 (lj_v gX gR b i) [] MX MR := by
  obtain ⟨r, X', R', e1, e2, h'⟩ := st_sight h (xs (i + 1))
  refine lj_aload C dL_596 rfl 1 rfl ?_
  refine lj_arg C (k := 1) dL_597 dL_598 dL_599 dL_600 dL_601 rfl (by omega) ?_
  refine lj_callX C (r := r) (M2 := X') (As := [.int (xs (i + 1))]) (rest := []) yy_X4_sight ⟨q_374, q_375⟩ q_373 dL_602 rfl ⟨by decide, by decide⟩ (Nat.le_of_ble_eq_true rfl) (fun _ => cc4_sight e1) rfl ?_
  refine lj_aload C dL_605 rfl 2 rfl ?_
  refine lj_arg C (k := 1) dL_606 dL_607 dL_608 dL_609 dL_610 rfl (by omega) ?_
  refine lj_callR C (r := r) (M2 := R') (As := [.int (xs (i + 1))]) (rest := [.int r]) yy_X5_sight ⟨q_1015, q_1016⟩ q_1014 dL_611 rfl ⟨by decide, by decide⟩ (Nat.le_of_ble_eq_true rfl) (fun _ => cc5_sight e2) rfl ?_
  exact lj_eq C dL_614 (by decide) (kk X' R' h')
theorem law_c11 (C : lj_C D cA gX gR z p s m meth c b L xs) (hi : i + 6 ≤ L) (h : Rel MX MR) (kk : ∀ MX2 MR2, Rel MX2 MR2 → lj_A D cA gX gR p l e s m below meth c b 1752 (lj_v gX gR b i) [] MX2 MR2) : lj_A D cA gX gR p l e s m below meth c b 619 (lj_v gX gR b i) [] MX MR := by
  obtain ⟨r, X', R', e1, e2, h'⟩ := st_sees h (xs (i + 1)) (xs (i + 2))
  refine lj_aload C dL_619 rfl 1 rfl ?_
  refine lj_arg C (k := 1) dL_620 dL_621 dL_622 dL_623 dL_624 rfl (by omega) ?_
  refine lj_arg C (k := 2) dL_625 dL_626 dL_627 dL_628 dL_629 rfl (by omega) ?_
  refine lj_callX C (r := r) (M2 := X') (As := [.int (xs (i + 1)), .int (xs (i + 2))]) (rest := []) yy_X4_sees ⟨q_387, q_388⟩ q_386 dL_630 rfl ⟨by decide, by decide⟩ (Nat.le_of_ble_eq_true rfl) (fun _ => cc4_sees e1) rfl ?_
  refine lj_aload C dL_633 rfl 2 rfl ?_
  refine lj_arg C (k := 1) dL_634 dL_635 dL_636 dL_637 dL_638 rfl (by omega) ?_
  refine lj_arg C (k := 2) dL_639 dL_640 dL_641 dL_642 dL_643 rfl (by omega) ?_
  refine lj_callR C (r := r) (M2 := R') (As := [.int (xs (i + 1)), .int (xs (i + 2))]) (rest := [.int r]) yy_X5_sees ⟨q_1041, q_1042⟩ q_1040 dL_644 rfl ⟨by decide, by decide⟩ (Nat.le_of_ble_eq_true rfl) (fun _ => cc5_sees e2) rfl ?_
  exact lj_eq C dL_647 (by decide) (kk X' R' h')
theorem law_c12 (C : lj_C D cA gX gR z p s m meth c b L xs) (hi : i + 6 ≤ L) (h : Rel MX MR) (kk : ∀ MX2 MR2, Rel MX2 MR2 → lj_A D cA gX gR p l e s m below meth c b 1752 (lj_v gX gR b i) [] MX2 MR2) : lj_A D cA gX gR p l e s m below meth c b 652 (lj_v gX gR b i) [] MX MR := by
  obtain ⟨r, X', R', e1, e2, h'⟩ := st_seenBy h (xs (i + 1))
  refine lj_aload C dL_652 rfl 1 rfl ?_
  refine lj_arg C (k := 1) dL_653 dL_654 dL_655 dL_656 dL_657 rfl (by omega) ?_
  refine lj_callX C (r := r) (M2 := X') (As := [.int (xs (i + 1))]) (rest := []) yy_X4_seenBy ⟨q_399, q_400⟩ q_398 dL_658 rfl ⟨by decide, by decide⟩ (Nat.le_of_ble_eq_true rfl) (fun _ => cc4_seenBy e1) rfl ?_
  refine lj_aload C dL_661 rfl 2 rfl ?_
  refine lj_arg C (k := 1) dL_662 dL_663 dL_664 dL_665 dL_666 rfl (by omega) ?_
  refine lj_callR C (r := r) (M2 := R') (As := [.int (xs (i + 1))]) (rest := [.int r]) yy_X5_seenBy ⟨q_1045, q_1046⟩ q_1044 dL_667 rfl ⟨by decide, by decide⟩ (Nat.le_of_ble_eq_true rfl) (fun _ => cc5_seenBy e2) rfl ?_
  exact lj_eq C dL_670 (by decide) (kk X' R' h')
theorem law_c13 (C : lj_C D cA gX gR z p s m meth c b L xs) (hi : i + 6 ≤ L) (h : Rel MX MR) (kk : ∀ MX2 MR2, Rel MX2 MR2 → lj_A D cA gX gR p l e s m below meth c b 1752 (lj_v gX gR b i) [] MX2 MR2) : lj_A D cA gX gR p l e s m below meth c b 675 (lj_v gX gR b i) [] MX MR := by
  obtain ⟨r, X', R', e1, e2, h'⟩ := st_neighbours h (xs (i + 1))
  refine lj_aload C dL_675 rfl 1 rfl ?_
  refine lj_arg C (k := 1) dL_676 dL_677 dL_678 dL_679 dL_680 rfl (by omega) ?_
  refine lj_callX C (r := r) (M2 := X') (As := [.int (xs (i + 1))]) (rest := []) yy_X4_neighbours ⟨q_403, q_404⟩ q_402 dL_681 rfl ⟨by decide, by decide⟩ (Nat.le_of_ble_eq_true rfl) (fun _ => cc4_neighbours e1) rfl ?_
  refine lj_aload C dL_684 rfl 2 rfl ?_
  refine lj_arg C (k := 1) dL_685 dL_686 dL_687 dL_688 dL_689 rfl (by omega) ?_
  refine lj_callR C (r := r) (M2 := R') (As := [.int (xs (i + 1))]) (rest := [.int r]) yy_X5_neighbours ⟨q_1049, q_1050⟩ q_1048 dL_690 rfl ⟨by decide, by decide⟩ (Nat.le_of_ble_eq_true rfl) (fun _ => cc5_neighbours e2) rfl ?_
  exact lj_eq C dL_693 (by decide) (kk X' R' h')
theorem law_c14 (C : lj_C D cA gX gR z p s m meth c b L xs) (hi : i + 6 ≤ L) (h : Rel MX MR) (kk : ∀ MX2 MR2, Rel MX2 MR2 → lj_A D cA gX gR p l e s m below meth c b 1752 (lj_v gX gR b i) [] MX2 MR2) : lj_A D cA gX gR p l e s m below meth c b 698 (lj_v gX gR b i) [] MX MR := by
  obtain ⟨r, X', R', e1, e2, h'⟩ := st_hidden h (xs (i + 1)) (xs (i + 2))
  refine lj_aload C dL_698 rfl 1 rfl ?_
  refine lj_arg C (k := 1) dL_699 dL_700 dL_701 dL_702 dL_703 rfl (by omega) ?_
  refine lj_arg C (k := 2) dL_704 dL_705 dL_706 dL_707 dL_708 rfl (by omega) ?_
  refine lj_callX C (r := r) (M2 := X') (As := [.int (xs (i + 1)), .int (xs (i + 2))]) (rest := []) yy_X4_hidden ⟨q_408, q_409⟩ q_407 dL_709 rfl ⟨by decide, by decide⟩ (Nat.le_of_ble_eq_true rfl) (fun _ => cc4_hidden e1) rfl ?_
  refine lj_aload C dL_712 rfl 2 rfl ?_
  refine lj_arg C (k := 1) dL_713 dL_714 dL_715 dL_716 dL_717 rfl (by omega) ?_
  refine lj_arg C (k := 2) dL_718 dL_719 dL_720 dL_721 dL_722 rfl (by omega) ?_
  refine lj_callR C (r := r) (M2 := R') (As := [.int (xs (i + 1)), .int (xs (i + 2))]) (rest := [.int r]) yy_X5_hidden ⟨q_1053, q_1054⟩ q_1052 dL_723 rfl ⟨by decide, by decide⟩ (Nat.le_of_ble_eq_true rfl) (fun _ => cc5_hidden e2) rfl ?_
  exact lj_eq C dL_726 (by decide) (kk X' R' h')
theorem law_c15 (C : lj_C D cA gX gR z p s m meth c b L xs) (hi : i + 6 ≤ L) (h : Rel MX MR) (kk : ∀ MX2 MR2, Rel MX2 MR2 → lj_A D cA gX gR p l e s m below meth c b 1752 (lj_v gX gR b i) [] MX2 MR2) : lj_A D cA gX gR p l e s m below meth c b 731 (lj_v gX gR b i) [] MX MR := by
  obtain ⟨r, X', R', e1, e2, h'⟩ := st_tax h (xs (i + 1))
  refine lj_aload C dL_731 rfl 1 rfl ?_
  refine lj_arg C (k := 1) dL_732 dL_733 dL_734 dL_735 dL_736 rfl (by omega) ?_
  refine lj_callX C (r := r) (M2 := X') (As := [.int (xs (i + 1))]) (rest := []) yy_X4_tax ⟨q_423, q_424⟩ q_422 dL_737 rfl ⟨by decide, by decide⟩ (Nat.le_of_ble_eq_true rfl) (fun _ => cc4_tax e1) rfl ?_
  refine lj_aload C dL_740 rfl 2 rfl ?_
  refine lj_arg C (k := 1) dL_741 dL_742 dL_743 dL_744 dL_745 rfl (by omega) ?_
  refine lj_callR C (r := r) (M2 := R') (As := [.int (xs (i + 1))]) (rest := [.int r]) yy_X5_tax ⟨q_1059, q_1060⟩ q_1058 dL_746 rfl ⟨by decide, by decide⟩ (Nat.le_of_ble_eq_true rfl) (fun _ => cc5_tax e2) rfl ?_
  exact lj_eq C dL_749 (by decide) (kk X' R' h')
theorem law_c16 (C : lj_C D cA gX gR z p s m meth c b L xs) (hi : i + 6 ≤ L) (h : Rel MX MR) (kk : ∀ MX2 MR2, Rel MX2 MR2 → lj_A D cA gX gR p l e s m below meth c b 1752 (lj_v gX gR b i) [] MX2 MR2) : lj_A D cA gX gR p l e s m below meth c b 754 (lj_v gX gR b i) [] MX MR := by
  obtain ⟨r, e1, e2⟩ := st_all h
  refine lj_aload C dL_754 rfl 1 rfl ?_
  refine lj_callX C (r := r) (M2 := MX) (As := []) (rest := []) yy_X4_all ⟨q_439, q_440⟩ q_438 dL_755 rfl ⟨by decide, by decide⟩ (Nat.le_of_ble_eq_true rfl) (fun _ => cc4_all e1) rfl ?_
  refine lj_aload C dL_758 rfl 2 rfl ?_
  refine lj_callR C (r := r) (M2 := MR) (As := []) (rest := [.int r]) yy_X5_all ⟨q_1067, q_1068⟩ q_1066 dL_759 rfl ⟨by decide, by decide⟩ (Nat.le_of_ble_eq_true rfl) (fun _ => cc5_all e2) rfl ?_
  exact lj_eq C dL_762 (by decide) (kk MX MR h)
theorem law_c17 (C : lj_C D cA gX gR z p s m meth c b L xs) (hi : i + 6 ≤ L) (h : Rel MX MR) (kk : ∀ MX2 MR2, Rel MX2 MR2 → lj_A D cA gX gR p l e s m below meth c b 1752 (lj_v gX gR b i) [] MX2 MR2) : lj_A D cA gX gR p l e s m below meth c b 767 (lj_v gX gR b i) [] MX MR := by
  obtain ⟨r, X', R', e1, e2, h'⟩ := st_cheapest h (xs (i + 1))
  refine lj_aload C dL_767 rfl 1 rfl ?_
  refine lj_arg C (k := 1) dL_768 dL_769 dL_770 dL_771 dL_772 rfl (by omega) ?_
  refine lj_callX C (r := r) (M2 := X') (As := [.int (xs (i + 1))]) (rest := []) yy_X4_cheapest ⟨q_448, q_449⟩ q_447 dL_773 rfl ⟨by decide, by decide⟩ (Nat.le_of_ble_eq_true rfl) (fun _ => cc4_cheapest e1) rfl ?_
  refine lj_aload C dL_776 rfl 2 rfl ?_
  refine lj_arg C (k := 1) dL_777 dL_778 dL_779 dL_780 dL_781 rfl (by omega) ?_
  refine lj_callR C (r := r) (M2 := R') (As := [.int (xs (i + 1))]) (rest := [.int r]) yy_X5_cheapest ⟨q_1075, q_1076⟩ q_1074 dL_782 rfl ⟨by decide, by decide⟩ (Nat.le_of_ble_eq_true rfl) (fun _ => cc5_cheapest e2) rfl ?_
  exact lj_eq C dL_785 (by decide) (kk X' R' h')
theorem law_c18 (C : lj_C D cA gX gR z p s m meth c b L xs) (hi : i + 6 ≤ L) (h : Rel MX MR) (kk : ∀ MX2 MR2, Rel MX2 MR2 → lj_A D cA gX gR p l e s m below meth c b 1752 (lj_v gX gR b i) [] MX2 MR2) : lj_A D cA gX gR p l e s m below meth c b 790 (lj_v gX gR b i) [] MX MR := by
  obtain ⟨r, X', R', e1, e2, h'⟩ := st_widest h (xs (i + 1))
  refine lj_aload C dL_790 rfl 1 rfl ?_
  refine lj_arg C (k := 1) dL_791 dL_792 dL_793 dL_794 dL_795 rfl (by omega) ?_
  refine lj_callX C (r := r) (M2 := X') (As := [.int (xs (i + 1))]) (rest := []) yy_X4_widest ⟨q_463, q_464⟩ q_462 dL_796 rfl ⟨by decide, by decide⟩ (Nat.le_of_ble_eq_true rfl) (fun _ => cc4_widest e1) rfl ?_
  refine lj_aload C dL_799 rfl 2 rfl ?_
  refine lj_arg C (k := 1) dL_800 dL_801 dL_802 dL_803 dL_804 rfl (by omega) ?_
  refine lj_callR C (r := r) (M2 := R') (As := [.int (xs (i + 1))]) (rest := [.int r]) yy_X5_widest ⟨q_1083, q_1084⟩ q_1082 dL_805 rfl ⟨by decide, by decide⟩ (Nat.le_of_ble_eq_true rfl) (fun _ => cc5_widest e2) rfl ?_
  exact lj_eq C dL_808 (by decide) (kk X' R' h')
theorem law_c19 (C : lj_C D cA gX gR z p s m meth c b L xs) (hi : i + 6 ≤ L) (h : Rel MX MR) (kk : ∀ MX2 MR2, Rel MX2 MR2 → lj_A D cA gX gR p l e s m below meth c b 1752 (lj_v gX gR b i) [] MX2 MR2) : lj_A D cA gX gR p l e s m below meth c b 813 (lj_v gX gR b i) [] MX MR := by
  obtain ⟨r, X', R', e1, e2, h'⟩ := st_wall h (xs (i + 1)) (xs (i + 2))
  refine lj_aload C dL_813 rfl 1 rfl ?_
  refine lj_arg C (k := 1) dL_814 dL_815 dL_816 dL_817 dL_818 rfl (by omega) ?_
  refine lj_arg C (k := 2) dL_819 dL_820 dL_821 dL_822 dL_823 rfl (by omega) ?_
  refine lj_callX C (r := r) (M2 := X') (As := [.int (xs (i + 1)), .int (xs (i + 2))]) (rest := []) yy_X4_wall ⟨q_473, q_474⟩ q_472 dL_824 rfl ⟨by decide, by decide⟩ (Nat.le_of_ble_eq_true rfl) (fun _ => cc4_wall e1) rfl ?_
  refine lj_aload C dL_827 rfl 2 rfl ?_
  refine lj_arg C (k := 1) dL_828 dL_829 dL_830 dL_831 dL_832 rfl (by omega) ?_
  refine lj_arg C (k := 2) dL_833 dL_834 dL_835 dL_836 dL_837 rfl (by omega) ?_
  refine lj_callR C (r := r) (M2 := R') (As := [.int (xs (i + 1)), .int (xs (i + 2))]) (rest := [.int r]) yy_X5_wall ⟨q_1090, q_1091⟩ q_1089 dL_838 rfl ⟨by decide, by decide⟩ (Nat.le_of_ble_eq_true rfl) (fun _ => cc5_wall e2) rfl ?_
  exact lj_eq C dL_841 (by decide) (kk X' R' h')
theorem law_c20 (C : lj_C D cA gX gR z p s m meth c b L xs) (hi : i + 6 ≤ L) (h : Rel MX MR) (kk : ∀ MX2 MR2, Rel MX2 MR2 → lj_A D cA gX gR p l e s m below meth c b 1752 (lj_v gX gR b i) [] MX2 MR2) : lj_A D cA gX gR p l e s m below meth c b 846 (lj_v gX gR b i) [] MX MR := by
  obtain ⟨r, X', R', e1, e2, h'⟩ := st_rateFor h (xs (i + 1))
  refine lj_aload C dL_846 rfl 1 rfl ?_
  refine lj_arg C (k := 1) dL_847 dL_848 dL_849 dL_850 dL_851 rfl (by omega) ?_
  refine lj_callX C (r := r) (M2 := X') (As := [.int (xs (i + 1))]) (rest := []) yy_X4_rateFor ⟨q_477, q_478⟩ q_476 dL_852 rfl ⟨by decide, by decide⟩ (Nat.le_of_ble_eq_true rfl) (fun _ => cc4_rateFor e1) rfl ?_
  refine lj_aload C dL_855 rfl 2 rfl ?_
  refine lj_arg C (k := 1) dL_856 dL_857 dL_858 dL_859 dL_860 rfl (by omega) ?_
  refine lj_callR C (r := r) (M2 := R') (As := [.int (xs (i + 1))]) (rest := [.int r]) yy_X5_rateFor ⟨q_1094, q_1095⟩ q_1093 dL_861 rfl ⟨by decide, by decide⟩ (Nat.le_of_ble_eq_true rfl) (fun _ => cc5_rateFor e2) rfl ?_
  exact lj_eq C dL_864 (by decide) (kk X' R' h')
theorem law_c21 (C : lj_C D cA gX gR z p s m meth c b L xs) (hi : i + 6 ≤ L) (h : Rel MX MR) (kk : ∀ MX2 MR2, Rel MX2 MR2 → lj_A D cA gX gR p l e s m below meth c b 1752 (lj_v gX gR b i) [] MX2 MR2) : lj_A D cA gX gR p l e s m below meth c b 869 (lj_v gX gR b i) [] MX MR := by
  obtain ⟨r, X', R', e1, e2, h'⟩ := st_shade h (xs (i + 1)) (xs (i + 2)) (xs (i + 3))
  refine lj_aload C dL_869 rfl 1 rfl ?_
  refine lj_arg C (k := 1) dL_870 dL_871 dL_872 dL_873 dL_874 rfl (by omega) ?_
  refine lj_arg C (k := 2) dL_875 dL_876 dL_877 dL_878 dL_879 rfl (by omega) ?_
  refine lj_arg C (k := 3) dL_880 dL_881 dL_882 dL_883 dL_884 rfl (by omega) ?_
  refine lj_callX C (r := r) (M2 := X') (As := [.int (xs (i + 1)), .int (xs (i + 2)), .int (xs (i + 3))]) (rest := []) yy_X4_shade ⟨q_487, q_488⟩ q_486 dL_885 rfl ⟨by decide, by decide⟩ (Nat.le_of_ble_eq_true rfl) (fun _ => cc4_shade e1) rfl ?_
  refine lj_aload C dL_888 rfl 2 rfl ?_
  refine lj_arg C (k := 1) dL_889 dL_890 dL_891 dL_892 dL_893 rfl (by omega) ?_
  refine lj_arg C (k := 2) dL_894 dL_895 dL_896 dL_897 dL_898 rfl (by omega) ?_
  refine lj_arg C (k := 3) dL_899 dL_900 dL_901 dL_902 dL_903 rfl (by omega) ?_
  refine lj_callR C (r := r) (M2 := R') (As := [.int (xs (i + 1)), .int (xs (i + 2)), .int (xs (i + 3))]) (rest := [.int r]) yy_X5_shade ⟨q_1102, q_1103⟩ q_1101 dL_904 rfl ⟨by decide, by decide⟩ (Nat.le_of_ble_eq_true rfl) (fun _ => cc5_shade e2) rfl ?_
  exact lj_eq C dL_907 (by decide) (kk X' R' h')
theorem law_c22 (C : lj_C D cA gX gR z p s m meth c b L xs) (hi : i + 6 ≤ L) (h : Rel MX MR) (kk : ∀ MX2 MR2, Rel MX2 MR2 → lj_A D cA gX gR p l e s m below meth c b 1752 (lj_v gX gR b i) [] MX2 MR2) : lj_A D cA gX gR p l e s m below meth c b 912 (lj_v gX gR b i) [] MX MR := by
  obtain ⟨r, X', R', e1, e2, h'⟩ := st_gains h (xs (i + 1)) (xs (i + 2)) (xs (i + 3))
  refine lj_aload C dL_912 rfl 1 rfl ?_
  refine lj_arg C (k := 1) dL_913 dL_914 dL_915 dL_916 dL_917 rfl (by omega) ?_
  refine lj_arg C (k := 2) dL_918 dL_919 dL_920 dL_921 dL_922 rfl (by omega) ?_
  refine lj_arg C (k := 3) dL_923 dL_924 dL_925 dL_926 dL_927 rfl (by omega) ?_
  refine lj_callX C (r := r) (M2 := X') (As := [.int (xs (i + 1)), .int (xs (i + 2)), .int (xs (i + 3))]) (rest := []) yy_X4_gains ⟨q_507, q_508⟩ q_506 dL_928 rfl ⟨by decide, by decide⟩ (Nat.le_of_ble_eq_true rfl) (fun _ => cc4_gains e1) rfl ?_
  refine lj_aload C dL_931 rfl 2 rfl ?_
  refine lj_arg C (k := 1) dL_932 dL_933 dL_934 dL_935 dL_936 rfl (by omega) ?_
  refine lj_arg C (k := 2) dL_937 dL_938 dL_939 dL_940 dL_941 rfl (by omega) ?_
  refine lj_arg C (k := 3) dL_942 dL_943 dL_944 dL_945 dL_946 rfl (by omega) ?_
  refine lj_callR C (r := r) (M2 := R') (As := [.int (xs (i + 1)), .int (xs (i + 2)), .int (xs (i + 3))]) (rest := [.int r]) yy_X5_gains ⟨q_1130, q_1131⟩ q_1129 dL_947 rfl ⟨by decide, by decide⟩ (Nat.le_of_ble_eq_true rfl) (fun _ => cc5_gains e2) rfl ?_
  exact lj_eq C dL_950 (by decide) (kk X' R' h')
theorem law_c23 (C : lj_C D cA gX gR z p s m meth c b L xs) (hi : i + 6 ≤ L) (h : Rel MX MR) (kk : ∀ MX2 MR2, Rel MX2 MR2 → lj_A D cA gX gR p l e s m below meth c b 1752 (lj_v gX gR b i) [] MX2 MR2) : lj_A D cA gX gR p l e s m below meth c b 955 (lj_v gX gR b i) [] MX MR := by
  obtain ⟨r, X', R', e1, e2, h'⟩ := st_plant h (xs (i + 1))
  refine lj_aload C dL_955 rfl 1 rfl ?_
  refine lj_arg C (k := 1) dL_956 dL_957 dL_958 dL_959 dL_960 rfl (by omega) ?_
  refine lj_callX C (r := r) (M2 := X') (As := [.int (xs (i + 1))]) (rest := []) yy_X4_plant ⟨q_515, q_516⟩ q_514 dL_961 rfl ⟨by decide, by decide⟩ (Nat.le_of_ble_eq_true rfl) (fun _ => cc4_plant e1) rfl ?_
  refine lj_aload C dL_964 rfl 2 rfl ?_
  refine lj_arg C (k := 1) dL_965 dL_966 dL_967 dL_968 dL_969 rfl (by omega) ?_
  refine lj_callR C (r := r) (M2 := R') (As := [.int (xs (i + 1))]) (rest := [.int r]) yy_X5_plant ⟨q_1134, q_1135⟩ q_1133 dL_970 rfl ⟨by decide, by decide⟩ (Nat.le_of_ble_eq_true rfl) (fun _ => cc5_plant e2) rfl ?_
  exact lj_eq C dL_973 (by decide) (kk X' R' h')
theorem law_c24 (C : lj_C D cA gX gR z p s m meth c b L xs) (hi : i + 6 ≤ L) (h : Rel MX MR) (kk : ∀ MX2 MR2, Rel MX2 MR2 → lj_A D cA gX gR p l e s m below meth c b 1752 (lj_v gX gR b i) [] MX2 MR2) : lj_A D cA gX gR p l e s m below meth c b 978 (lj_v gX gR b i) [] MX MR := by
  obtain ⟨r, X', R', e1, e2, h'⟩ := st_two h (xs (i + 1))
  refine lj_aload C dL_978 rfl 1 rfl ?_
  refine lj_arg C (k := 1) dL_979 dL_980 dL_981 dL_982 dL_983 rfl (by omega) ?_
  refine lj_callX C (r := r) (M2 := X') (As := [.int (xs (i + 1))]) (rest := []) yy_X4_two ⟨q_519, q_520⟩ q_518 dL_984 rfl ⟨by decide, by decide⟩ (Nat.le_of_ble_eq_true rfl) (fun _ => cc4_two e1) rfl ?_
  refine lj_aload C dL_987 rfl 2 rfl ?_
  refine lj_arg C (k := 1) dL_988 dL_989 dL_990 dL_991 dL_992 rfl (by omega) ?_
  refine lj_callR C (r := r) (M2 := R') (As := [.int (xs (i + 1))]) (rest := [.int r]) yy_X5_two ⟨q_1138, q_1139⟩ q_1137 dL_993 rfl ⟨by decide, by decide⟩ (Nat.le_of_ble_eq_true rfl) (fun _ => cc5_two e2) rfl ?_
  exact lj_eq C dL_996 (by decide) (kk X' R' h')
theorem law_c25 (C : lj_C D cA gX gR z p s m meth c b L xs) (hi : i + 6 ≤ L) (h : Rel MX MR) (kk : ∀ MX2 MR2, Rel MX2 MR2 → lj_A D cA gX gR p l e s m below meth c b 1752 (lj_v gX gR b i) [] MX2 MR2) : lj_A D cA gX gR p l e s m below meth c b 1001 (lj_v gX gR b i) [] MX MR := by
  obtain ⟨r, X', R', e1, e2, h'⟩ := st_restless h 
  refine lj_aload C dL_1001 rfl 1 rfl ?_
  refine lj_callX C (r := r) (M2 := X') (As := []) (rest := []) yy_X4_restless ⟨q_527, q_528⟩ q_526 dL_1002 rfl ⟨by decide, by decide⟩ (Nat.le_of_ble_eq_true rfl) (fun _ => cc4_restless e1) rfl ?_
  refine lj_aload C dL_1005 rfl 2 rfl ?_
  refine lj_callR C (r := r) (M2 := R') (As := []) (rest := [.int r]) yy_X5_restless ⟨q_1142, q_1143⟩ q_1141 dL_1006 rfl ⟨by decide, by decide⟩ (Nat.le_of_ble_eq_true rfl) (fun _ => cc5_restless e2) rfl ?_
  exact lj_eq C dL_1009 (by decide) (kk X' R' h')
theorem law_c26 (C : lj_C D cA gX gR z p s m meth c b L xs) (hi : i + 6 ≤ L) (h : Rel MX MR) (kk : ∀ MX2 MR2, Rel MX2 MR2 → lj_A D cA gX gR p l e s m below meth c b 1752 (lj_v gX gR b i) [] MX2 MR2) : lj_A D cA gX gR p l e s m below meth c b 1014 (lj_v gX gR b i) [] MX MR := by
  obtain ⟨r, X', R', e1, e2, h'⟩ := st_walk h 
  refine lj_aload C dL_1014 rfl 1 rfl ?_
  refine lj_callX C (r := r) (M2 := X') (As := []) (rest := []) yy_X4_walk ⟨q_531, q_532⟩ q_530 dL_1015 rfl ⟨by decide, by decide⟩ (Nat.le_of_ble_eq_true rfl) (fun _ => cc4_walk e1) rfl ?_
  refine lj_aload C dL_1018 rfl 2 rfl ?_
  refine lj_callR C (r := r) (M2 := R') (As := []) (rest := [.int r]) yy_X5_walk ⟨q_1146, q_1147⟩ q_1145 dL_1019 rfl ⟨by decide, by decide⟩ (Nat.le_of_ble_eq_true rfl) (fun _ => cc5_walk e2) rfl ?_
  exact lj_eq C dL_1022 (by decide) (kk X' R' h')
theorem law_c27 (C : lj_C D cA gX gR z p s m meth c b L xs) (hi : i + 6 ≤ L) (h : Rel MX MR) (kk : ∀ MX2 MR2, Rel MX2 MR2 → lj_A D cA gX gR p l e s m below meth c b 1752 (lj_v gX gR b i) [] MX2 MR2) : lj_A D cA gX gR p l e s m below meth c b 1027 (lj_v gX gR b i) [] MX MR := by
  obtain ⟨r, R', e1, e2, h'⟩ := st_blind h
  refine lj_aload C dL_1027 rfl 1 rfl ?_
  refine lj_callX C (r := r) (M2 := MX) (As := []) (rest := []) yy_X4_blind ⟨q_539, q_540⟩ q_538 dL_1028 rfl ⟨by decide, by decide⟩ (Nat.le_of_ble_eq_true rfl) (fun _ => cc4_blind e1) rfl ?_
  refine lj_aload C dL_1031 rfl 2 rfl ?_
  refine lj_callR C (r := r) (M2 := R') (As := []) (rest := [.int r]) yy_X5_blind ⟨q_1154, q_1155⟩ q_1153 dL_1032 rfl ⟨by decide, by decide⟩ (Nat.le_of_ble_eq_true rfl) (fun _ => cc5_blind e2) rfl ?_
  exact lj_eq C dL_1035 (by decide) (kk MX R' h')
theorem law_c28 (C : lj_C D cA gX gR z p s m meth c b L xs) (hi : i + 6 ≤ L) (h : Rel MX MR) (kk : ∀ MX2 MR2, Rel MX2 MR2 → lj_A D cA gX gR p l e s m below meth c b 1752 (lj_v gX gR b i) [] MX2 MR2) : lj_A D cA gX gR p l e s m below meth c b 1040 (lj_v gX gR b i) [] MX MR := by
  obtain ⟨r, X', R', e1, e2, h'⟩ := st_heights h (xs (i + 1)) (xs (i + 2)) (xs (i + 3))
  refine lj_aload C dL_1040 rfl 1 rfl ?_
  refine lj_arg C (k := 1) dL_1041 dL_1042 dL_1043 dL_1044 dL_1045 rfl (by omega) ?_
  refine lj_arg C (k := 2) dL_1046 dL_1047 dL_1048 dL_1049 dL_1050 rfl (by omega) ?_
  refine lj_arg C (k := 3) dL_1051 dL_1052 dL_1053 dL_1054 dL_1055 rfl (by omega) ?_
  refine lj_callX C (r := r) (M2 := X') (As := [.int (xs (i + 1)), .int (xs (i + 2)), .int (xs (i + 3))]) (rest := []) yy_X4_heights ⟨q_548, q_549⟩ q_547 dL_1056 rfl ⟨by decide, by decide⟩ (Nat.le_of_ble_eq_true rfl) (fun _ => cc4_heights e1) rfl ?_
  refine lj_aload C dL_1059 rfl 2 rfl ?_
  refine lj_arg C (k := 1) dL_1060 dL_1061 dL_1062 dL_1063 dL_1064 rfl (by omega) ?_
  refine lj_arg C (k := 2) dL_1065 dL_1066 dL_1067 dL_1068 dL_1069 rfl (by omega) ?_
  refine lj_arg C (k := 3) dL_1070 dL_1071 dL_1072 dL_1073 dL_1074 rfl (by omega) ?_
  refine lj_callR C (r := r) (M2 := R') (As := [.int (xs (i + 1)), .int (xs (i + 2)), .int (xs (i + 3))]) (rest := [.int r]) yy_X5_heights ⟨q_1159, q_1160⟩ q_1158 dL_1075 rfl ⟨by decide, by decide⟩ (Nat.le_of_ble_eq_true rfl) (fun _ => cc5_heights e2) rfl ?_
  exact lj_eq C dL_1078 (by decide) (kk X' R' h')
theorem law_c29 (C : lj_C D cA gX gR z p s m meth c b L xs) (hi : i + 6 ≤ L) (h : Rel MX MR) (kk : ∀ MX2 MR2, Rel MX2 MR2 → lj_A D cA gX gR p l e s m below meth c b 1752 (lj_v gX gR b i) [] MX2 MR2) : lj_A D cA gX gR p l e s m below meth c b 1083 (lj_v gX gR b i) [] MX MR := by
  obtain ⟨r, X', R', e1, e2, h'⟩ := st_height h (xs (i + 1)) (xs (i + 2)) (xs (i + 3)) (xs (i + 4))
  refine lj_aload C dL_1083 rfl 1 rfl ?_
  refine lj_arg C (k := 1) dL_1084 dL_1085 dL_1086 dL_1087 dL_1088 rfl (by omega) ?_
  refine lj_arg C (k := 2) dL_1089 dL_1090 dL_1091 dL_1092 dL_1093 rfl (by omega) ?_
  refine lj_arg C (k := 3) dL_1094 dL_1095 dL_1096 dL_1097 dL_1098 rfl (by omega) ?_
  refine lj_arg C (k := 4) dL_1099 dL_1100 dL_1101 dL_1102 dL_1103 rfl (by omega) ?_
  refine lj_callX C (r := r) (M2 := X') (As := [.int (xs (i + 1)), .int (xs (i + 2)), .int (xs (i + 3)), .int (xs (i + 4))]) (rest := []) yy_X4_height ⟨q_552, q_553⟩ q_551 dL_1104 rfl ⟨by decide, by decide⟩ (Nat.le_of_ble_eq_true rfl) (fun _ => cc4_height e1) rfl ?_
  refine lj_aload C dL_1107 rfl 2 rfl ?_
  refine lj_arg C (k := 1) dL_1108 dL_1109 dL_1110 dL_1111 dL_1112 rfl (by omega) ?_
  refine lj_arg C (k := 2) dL_1113 dL_1114 dL_1115 dL_1116 dL_1117 rfl (by omega) ?_
  refine lj_arg C (k := 3) dL_1118 dL_1119 dL_1120 dL_1121 dL_1122 rfl (by omega) ?_
  refine lj_arg C (k := 4) dL_1123 dL_1124 dL_1125 dL_1126 dL_1127 rfl (by omega) ?_
  refine lj_callR C (r := r) (M2 := R') (As := [.int (xs (i + 1)), .int (xs (i + 2)), .int (xs (i + 3)), .int (xs (i + 4))]) (rest := [.int r]) yy_X5_height ⟨q_1167, q_1168⟩ q_1166 dL_1128 rfl ⟨by decide, by decide⟩ (Nat.le_of_ble_eq_true rfl) (fun _ => cc5_height e2) rfl ?_
  exact lj_eq C dL_1131 (by decide) (kk X' R' h')
theorem law_c30 (C : lj_C D cA gX gR z p s m meth c b L xs) (hi : i + 6 ≤ L) (h : Rel MX MR) (kk : ∀ MX2 MR2, Rel MX2 MR2 → lj_A D cA gX gR p l e s m below meth c b 1752 (lj_v gX gR b i) [] MX2 MR2) : lj_A D cA gX gR p l e s m below meth c b 1136 (lj_v gX gR b i) [] MX MR := by
  obtain ⟨r, X', R', e1, e2, h'⟩ := st_which h (xs (i + 1)) (xs (i + 2))
  refine lj_aload C dL_1136 rfl 1 rfl ?_
  refine lj_arg C (k := 1) dL_1137 dL_1138 dL_1139 dL_1140 dL_1141 rfl (by omega) ?_
  refine lj_arg C (k := 2) dL_1142 dL_1143 dL_1144 dL_1145 dL_1146 rfl (by omega) ?_
  refine lj_callX C (r := r) (M2 := X') (As := [.int (xs (i + 1)), .int (xs (i + 2))]) (rest := []) yy_X4_which ⟨q_556, q_557⟩ q_555 dL_1147 rfl ⟨by decide, by decide⟩ (Nat.le_of_ble_eq_true rfl) (fun _ => cc4_which e1) rfl ?_
  refine lj_aload C dL_1150 rfl 2 rfl ?_
  refine lj_arg C (k := 1) dL_1151 dL_1152 dL_1153 dL_1154 dL_1155 rfl (by omega) ?_
  refine lj_arg C (k := 2) dL_1156 dL_1157 dL_1158 dL_1159 dL_1160 rfl (by omega) ?_
  refine lj_callR C (r := r) (M2 := R') (As := [.int (xs (i + 1)), .int (xs (i + 2))]) (rest := [.int r]) yy_X5_which ⟨q_1171, q_1172⟩ q_1170 dL_1161 rfl ⟨by decide, by decide⟩ (Nat.le_of_ble_eq_true rfl) (fun _ => cc5_which e2) rfl ?_
  exact lj_eq C dL_1164 (by decide) (kk X' R' h')
theorem law_c31 (C : lj_C D cA gX gR z p s m meth c b L xs) (hi : i + 6 ≤ L) (h : Rel MX MR) (kk : ∀ MX2 MR2, Rel MX2 MR2 → lj_A D cA gX gR p l e s m below meth c b 1752 (lj_v gX gR b i) [] MX2 MR2) : lj_A D cA gX gR p l e s m below meth c b 1169 (lj_v gX gR b i) [] MX MR := by
  obtain ⟨r, X', R', e1, e2, h'⟩ := st_years h (xs (i + 1))
  refine lj_aload C dL_1169 rfl 1 rfl ?_
  refine lj_arg C (k := 1) dL_1170 dL_1171 dL_1172 dL_1173 dL_1174 rfl (by omega) ?_
  refine lj_callX C (r := r) (M2 := X') (As := [.int (xs (i + 1))]) (rest := []) yy_X4_years ⟨q_560, q_561⟩ q_559 dL_1175 rfl ⟨by decide, by decide⟩ (Nat.le_of_ble_eq_true rfl) (fun _ => cc4_years e1) rfl ?_
  refine lj_aload C dL_1178 rfl 2 rfl ?_
  refine lj_arg C (k := 1) dL_1179 dL_1180 dL_1181 dL_1182 dL_1183 rfl (by omega) ?_
  refine lj_callR C (r := r) (M2 := R') (As := [.int (xs (i + 1))]) (rest := [.int r]) yy_X5_years ⟨q_1175, q_1176⟩ q_1174 dL_1184 rfl ⟨by decide, by decide⟩ (Nat.le_of_ble_eq_true rfl) (fun _ => cc5_years e2) rfl ?_
  exact lj_eq C dL_1187 (by decide) (kk X' R' h')
theorem law_c32 (C : lj_C D cA gX gR z p s m meth c b L xs) (hi : i + 6 ≤ L) (h : Rel MX MR) (kk : ∀ MX2 MR2, Rel MX2 MR2 → lj_A D cA gX gR p l e s m below meth c b 1752 (lj_v gX gR b i) [] MX2 MR2) : lj_A D cA gX gR p l e s m below meth c b 1192 (lj_v gX gR b i) [] MX MR := by
  obtain ⟨r, X', R', e1, e2, h'⟩ := st_ahead h (xs (i + 1)) (xs (i + 2))
  refine lj_aload C dL_1192 rfl 1 rfl ?_
  refine lj_arg C (k := 1) dL_1193 dL_1194 dL_1195 dL_1196 dL_1197 rfl (by omega) ?_
  refine lj_arg C (k := 2) dL_1198 dL_1199 dL_1200 dL_1201 dL_1202 rfl (by omega) ?_
  refine lj_callX C (r := r) (M2 := X') (As := [.int (xs (i + 1)), .int (xs (i + 2))]) (rest := []) yy_X4_ahead ⟨q_564, q_565⟩ q_563 dL_1203 rfl ⟨by decide, by decide⟩ (Nat.le_of_ble_eq_true rfl) (fun _ => cc4_ahead e1) rfl ?_
  refine lj_aload C dL_1206 rfl 2 rfl ?_
  refine lj_arg C (k := 1) dL_1207 dL_1208 dL_1209 dL_1210 dL_1211 rfl (by omega) ?_
  refine lj_arg C (k := 2) dL_1212 dL_1213 dL_1214 dL_1215 dL_1216 rfl (by omega) ?_
  refine lj_callR C (r := r) (M2 := R') (As := [.int (xs (i + 1)), .int (xs (i + 2))]) (rest := [.int r]) yy_X5_ahead ⟨q_1179, q_1180⟩ q_1178 dL_1217 rfl ⟨by decide, by decide⟩ (Nat.le_of_ble_eq_true rfl) (fun _ => cc5_ahead e2) rfl ?_
  exact lj_eq C dL_1220 (by decide) (kk X' R' h')
theorem law_c33 (C : lj_C D cA gX gR z p s m meth c b L xs) (hi : i + 6 ≤ L) (h : Rel MX MR) (kk : ∀ MX2 MR2, Rel MX2 MR2 → lj_A D cA gX gR p l e s m below meth c b 1752 (lj_v gX gR b i) [] MX2 MR2) : lj_A D cA gX gR p l e s m below meth c b 1225 (lj_v gX gR b i) [] MX MR := by
  obtain ⟨r, X', R', e1, e2, h'⟩ := st_lost h (xs (i + 1)) (xs (i + 2))
  refine lj_aload C dL_1225 rfl 1 rfl ?_
  refine lj_arg C (k := 1) dL_1226 dL_1227 dL_1228 dL_1229 dL_1230 rfl (by omega) ?_
  refine lj_arg C (k := 2) dL_1231 dL_1232 dL_1233 dL_1234 dL_1235 rfl (by omega) ?_
  refine lj_callX C (r := r) (M2 := X') (As := [.int (xs (i + 1)), .int (xs (i + 2))]) (rest := []) yy_X4_lost ⟨q_568, q_569⟩ q_567 dL_1236 rfl ⟨by decide, by decide⟩ (Nat.le_of_ble_eq_true rfl) (fun _ => cc4_lost e1) rfl ?_
  refine lj_aload C dL_1239 rfl 2 rfl ?_
  refine lj_arg C (k := 1) dL_1240 dL_1241 dL_1242 dL_1243 dL_1244 rfl (by omega) ?_
  refine lj_arg C (k := 2) dL_1245 dL_1246 dL_1247 dL_1248 dL_1249 rfl (by omega) ?_
  refine lj_callR C (r := r) (M2 := R') (As := [.int (xs (i + 1)), .int (xs (i + 2))]) (rest := [.int r]) yy_X5_lost ⟨q_1183, q_1184⟩ q_1182 dL_1250 rfl ⟨by decide, by decide⟩ (Nat.le_of_ble_eq_true rfl) (fun _ => cc5_lost e2) rfl ?_
  exact lj_eq C dL_1253 (by decide) (kk X' R' h')
theorem law_c34 (C : lj_C D cA gX gR z p s m meth c b L xs) (hi : i + 6 ≤ L) (h : Rel MX MR) (kk : ∀ MX2 MR2, Rel MX2 MR2 → lj_A D cA gX gR p l e s m below meth c b 1752 (lj_v gX gR b i) [] MX2 MR2) : lj_A D cA gX gR p l e s m below meth c b 1258 (lj_v gX gR b i) [] MX MR := by
  obtain ⟨r, X', R', e1, e2, h'⟩ := st_when h (xs (i + 1))
  refine lj_aload C dL_1258 rfl 1 rfl ?_
  refine lj_arg C (k := 1) dL_1259 dL_1260 dL_1261 dL_1262 dL_1263 rfl (by omega) ?_
  refine lj_callX C (r := r) (M2 := X') (As := [.int (xs (i + 1))]) (rest := []) yy_X4_when ⟨q_572, q_573⟩ q_571 dL_1264 rfl ⟨by decide, by decide⟩ (Nat.le_of_ble_eq_true rfl) (fun _ => cc4_when e1) rfl ?_
  refine lj_aload C dL_1267 rfl 2 rfl ?_
  refine lj_arg C (k := 1) dL_1268 dL_1269 dL_1270 dL_1271 dL_1272 rfl (by omega) ?_
  refine lj_callR C (r := r) (M2 := R') (As := [.int (xs (i + 1))]) (rest := [.int r]) yy_X5_when ⟨q_1187, q_1188⟩ q_1186 dL_1273 rfl ⟨by decide, by decide⟩ (Nat.le_of_ble_eq_true rfl) (fun _ => cc5_when e2) rfl ?_
  exact lj_eq C dL_1276 (by decide) (kk X' R' h')
theorem law_c35 (C : lj_C D cA gX gR z p s m meth c b L xs) (hi : i + 6 ≤ L) (h : Rel MX MR) (kk : ∀ MX2 MR2, Rel MX2 MR2 → lj_A D cA gX gR p l e s m below meth c b 1752 (lj_v gX gR b i) [] MX2 MR2) : lj_A D cA gX gR p l e s m below meth c b 1281 (lj_v gX gR b i) [] MX MR := by
  obtain ⟨r, X', R', e1, e2, h'⟩ := st_quake h (xs (i + 1))
  refine lj_aload C dL_1281 rfl 1 rfl ?_
  refine lj_arg C (k := 1) dL_1282 dL_1283 dL_1284 dL_1285 dL_1286 rfl (by omega) ?_
  refine lj_callX C (r := r) (M2 := X') (As := [.int (xs (i + 1))]) (rest := []) yy_X4_quake ⟨q_576, q_577⟩ q_575 dL_1287 rfl ⟨by decide, by decide⟩ (Nat.le_of_ble_eq_true rfl) (fun _ => cc4_quake e1) rfl ?_
  refine lj_aload C dL_1290 rfl 2 rfl ?_
  refine lj_arg C (k := 1) dL_1291 dL_1292 dL_1293 dL_1294 dL_1295 rfl (by omega) ?_
  refine lj_callR C (r := r) (M2 := R') (As := [.int (xs (i + 1))]) (rest := [.int r]) yy_X5_quake ⟨q_1191, q_1192⟩ q_1190 dL_1296 rfl ⟨by decide, by decide⟩ (Nat.le_of_ble_eq_true rfl) (fun _ => cc5_quake e2) rfl ?_
  exact lj_eq C dL_1299 (by decide) (kk X' R' h')
theorem law_c36 (C : lj_C D cA gX gR z p s m meth c b L xs) (hi : i + 6 ≤ L) (h : Rel MX MR) (kk : ∀ MX2 MR2, Rel MX2 MR2 → lj_A D cA gX gR p l e s m below meth c b 1752 (lj_v gX gR b i) [] MX2 MR2) : lj_A D cA gX gR p l e s m below meth c b 1304 (lj_v gX gR b i) [] MX MR := by
  obtain ⟨r, X', R', e1, e2, h'⟩ := st_seed h (xs (i + 1))
  refine lj_aload C dL_1304 rfl 1 rfl ?_
  refine lj_arg C (k := 1) dL_1305 dL_1306 dL_1307 dL_1308 dL_1309 rfl (by omega) ?_
  refine lj_callX C (r := r) (M2 := X') (As := [.int (xs (i + 1))]) (rest := []) yy_X4_seed ⟨q_585, q_586⟩ q_584 dL_1310 rfl ⟨by decide, by decide⟩ (Nat.le_of_ble_eq_true rfl) (fun _ => cc4_seed e1) rfl ?_
  refine lj_aload C dL_1313 rfl 2 rfl ?_
  refine lj_arg C (k := 1) dL_1314 dL_1315 dL_1316 dL_1317 dL_1318 rfl (by omega) ?_
  refine lj_callR C (r := r) (M2 := R') (As := [.int (xs (i + 1))]) (rest := [.int r]) yy_X5_seed ⟨q_1201, q_1202⟩ q_1200 dL_1319 rfl ⟨by decide, by decide⟩ (Nat.le_of_ble_eq_true rfl) (fun _ => cc5_seed e2) rfl ?_
  exact lj_eq C dL_1322 (by decide) (kk X' R' h')
theorem law_c37 (C : lj_C D cA gX gR z p s m meth c b L xs) (hi : i + 6 ≤ L) (h : Rel MX MR) (kk : ∀ MX2 MR2, Rel MX2 MR2 → lj_A D cA gX gR p l e s m below meth c b 1752 (lj_v gX gR b i) [] MX2 MR2) : lj_A D cA gX gR p l e s m below meth c b 1327 (lj_v gX gR b i) [] MX MR := by
  obtain ⟨r, X', R', e1, e2, h'⟩ := st_feed h (xs (i + 1)) (xs (i + 2))
  refine lj_aload C dL_1327 rfl 1 rfl ?_
  refine lj_arg C (k := 1) dL_1328 dL_1329 dL_1330 dL_1331 dL_1332 rfl (by omega) ?_
  refine lj_arg C (k := 2) dL_1333 dL_1334 dL_1335 dL_1336 dL_1337 rfl (by omega) ?_
  refine lj_callX C (r := r) (M2 := X') (As := [.int (xs (i + 1)), .int (xs (i + 2))]) (rest := []) yy_X4_feed ⟨q_589, q_590⟩ q_588 dL_1338 rfl ⟨by decide, by decide⟩ (Nat.le_of_ble_eq_true rfl) (fun _ => cc4_feed e1) rfl ?_
  refine lj_aload C dL_1341 rfl 2 rfl ?_
  refine lj_arg C (k := 1) dL_1342 dL_1343 dL_1344 dL_1345 dL_1346 rfl (by omega) ?_
  refine lj_arg C (k := 2) dL_1347 dL_1348 dL_1349 dL_1350 dL_1351 rfl (by omega) ?_
  refine lj_callR C (r := r) (M2 := R') (As := [.int (xs (i + 1)), .int (xs (i + 2))]) (rest := [.int r]) yy_X5_feed ⟨q_1205, q_1206⟩ q_1204 dL_1352 rfl ⟨by decide, by decide⟩ (Nat.le_of_ble_eq_true rfl) (fun _ => cc5_feed e2) rfl ?_
  exact lj_eq C dL_1355 (by decide) (kk X' R' h')
theorem law_c38 (C : lj_C D cA gX gR z p s m meth c b L xs) (hi : i + 6 ≤ L) (h : Rel MX MR) (kk : ∀ MX2 MR2, Rel MX2 MR2 → lj_A D cA gX gR p l e s m below meth c b 1752 (lj_v gX gR b i) [] MX2 MR2) : lj_A D cA gX gR p l e s m below meth c b 1360 (lj_v gX gR b i) [] MX MR := by
  obtain ⟨r, X', R', e1, e2, h'⟩ := st_wipe h 
  refine lj_aload C dL_1360 rfl 1 rfl ?_
  refine lj_callX C (r := r) (M2 := X') (As := []) (rest := []) yy_X4_wipe ⟨q_601, q_602⟩ q_600 dL_1361 rfl ⟨by decide, by decide⟩ (Nat.le_of_ble_eq_true rfl) (fun _ => cc4_wipe e1) rfl ?_
  refine lj_aload C dL_1364 rfl 2 rfl ?_
  refine lj_callR C (r := r) (M2 := R') (As := []) (rest := [.int r]) yy_X5_wipe ⟨q_1209, q_1210⟩ q_1208 dL_1365 rfl ⟨by decide, by decide⟩ (Nat.le_of_ble_eq_true rfl) (fun _ => cc5_wipe e2) rfl ?_
  exact lj_eq C dL_1368 (by decide) (kk X' R' h')
theorem law_c39 (C : lj_C D cA gX gR z p s m meth c b L xs) (hi : i + 6 ≤ L) (h : Rel MX MR) (kk : ∀ MX2 MR2, Rel MX2 MR2 → lj_A D cA gX gR p l e s m below meth c b 1752 (lj_v gX gR b i) [] MX2 MR2) : lj_A D cA gX gR p l e s m below meth c b 1373 (lj_v gX gR b i) [] MX MR := by
  obtain ⟨r, X', R', e1, e2, h'⟩ := st_text h 
  refine lj_aload C dL_1373 rfl 1 rfl ?_
  refine lj_callX C (r := r) (M2 := X') (As := []) (rest := []) yy_X4_text ⟨q_605, q_606⟩ q_604 dL_1374 rfl ⟨by decide, by decide⟩ (Nat.le_of_ble_eq_true rfl) (fun _ => cc4_text e1) rfl ?_
  refine lj_aload C dL_1377 rfl 2 rfl ?_
  refine lj_callR C (r := r) (M2 := R') (As := []) (rest := [.int r]) yy_X5_text ⟨q_1213, q_1214⟩ q_1212 dL_1378 rfl ⟨by decide, by decide⟩ (Nat.le_of_ble_eq_true rfl) (fun _ => cc5_text e2) rfl ?_
  exact lj_eq C dL_1381 (by decide) (kk X' R' h')
theorem law_c40 (C : lj_C D cA gX gR z p s m meth c b L xs) (hi : i + 6 ≤ L) (h : Rel MX MR) (kk : ∀ MX2 MR2, Rel MX2 MR2 → lj_A D cA gX gR p l e s m below meth c b 1752 (lj_v gX gR b i) [] MX2 MR2) : lj_A D cA gX gR p l e s m below meth c b 1386 (lj_v gX gR b i) [] MX MR := by
  obtain ⟨r, X', R', e1, e2, h'⟩ := st_hold h (xs (i + 1)) (xs (i + 2))
  refine lj_aload C dL_1386 rfl 1 rfl ?_
  refine lj_arg C (k := 1) dL_1387 dL_1388 dL_1389 dL_1390 dL_1391 rfl (by omega) ?_
  refine lj_arg C (k := 2) dL_1392 dL_1393 dL_1394 dL_1395 dL_1396 rfl (by omega) ?_
  refine lj_callX C (r := r) (M2 := X') (As := [.int (xs (i + 1)), .int (xs (i + 2))]) (rest := []) yy_X4_hold ⟨q_741, q_742⟩ q_740 dL_1397 rfl ⟨by decide, by decide⟩ (Nat.le_of_ble_eq_true rfl) (fun _ => cc4_hold e1) rfl ?_
  refine lj_aload C dL_1400 rfl 2 rfl ?_
  refine lj_arg C (k := 1) dL_1401 dL_1402 dL_1403 dL_1404 dL_1405 rfl (by omega) ?_
  refine lj_arg C (k := 2) dL_1406 dL_1407 dL_1408 dL_1409 dL_1410 rfl (by omega) ?_
  refine lj_callR C (r := r) (M2 := R') (As := [.int (xs (i + 1)), .int (xs (i + 2))]) (rest := [.int r]) yy_X5_hold ⟨q_1286, q_1287⟩ q_1285 dL_1411 rfl ⟨by decide, by decide⟩ (Nat.le_of_ble_eq_true rfl) (fun _ => cc5_hold e2) rfl ?_
  exact lj_eq C dL_1414 (by decide) (kk X' R' h')
theorem law_c41 (C : lj_C D cA gX gR z p s m meth c b L xs) (hi : i + 6 ≤ L) (h : Rel MX MR) (kk : ∀ MX2 MR2, Rel MX2 MR2 → lj_A D cA gX gR p l e s m below meth c b 1752 (lj_v gX gR b i) [] MX2 MR2) : lj_A D cA gX gR p l e s m below meth c b 1419 (lj_v gX gR b i) [] MX MR := by
  obtain ⟨r, X', R', e1, e2, h'⟩ := st_as h (xs (i + 1)) (xs (i + 2))
  refine lj_aload C dL_1419 rfl 1 rfl ?_
  refine lj_arg C (k := 1) dL_1420 dL_1421 dL_1422 dL_1423 dL_1424 rfl (by omega) ?_
  refine lj_arg C (k := 2) dL_1425 dL_1426 dL_1427 dL_1428 dL_1429 rfl (by omega) ?_
  refine lj_callX C (r := r) (M2 := X') (As := [.int (xs (i + 1)), .int (xs (i + 2))]) (rest := []) yy_X4_as ⟨q_748, q_749⟩ q_747 dL_1430 rfl ⟨by decide, by decide⟩ (Nat.le_of_ble_eq_true rfl) (fun _ => cc4_as e1) rfl ?_
  refine lj_aload C dL_1433 rfl 2 rfl ?_
  refine lj_arg C (k := 1) dL_1434 dL_1435 dL_1436 dL_1437 dL_1438 rfl (by omega) ?_
  refine lj_arg C (k := 2) dL_1439 dL_1440 dL_1441 dL_1442 dL_1443 rfl (by omega) ?_
  refine lj_callR C (r := r) (M2 := R') (As := [.int (xs (i + 1)), .int (xs (i + 2))]) (rest := [.int r]) yy_X5_as ⟨q_1292, q_1293⟩ q_1291 dL_1444 rfl ⟨by decide, by decide⟩ (Nat.le_of_ble_eq_true rfl) (fun _ => cc5_as e2) rfl ?_
  exact lj_eq C dL_1447 (by decide) (kk X' R' h')
theorem law_c42 (C : lj_C D cA gX gR z p s m meth c b L xs) (hi : i + 6 ≤ L) (h : Rel MX MR) (kk : ∀ MX2 MR2, Rel MX2 MR2 → lj_A D cA gX gR p l e s m below meth c b 1752 (lj_v gX gR b i) [] MX2 MR2) : lj_A D cA gX gR p l e s m below meth c b 1452 (lj_v gX gR b i) [] MX MR := by
  obtain ⟨r, X', R', e1, e2, h'⟩ := st_sheet h (xs (i + 1)) (xs (i + 2)) (xs (i + 3))
  refine lj_aload C dL_1452 rfl 1 rfl ?_
  refine lj_arg C (k := 1) dL_1453 dL_1454 dL_1455 dL_1456 dL_1457 rfl (by omega) ?_
  refine lj_arg C (k := 2) dL_1458 dL_1459 dL_1460 dL_1461 dL_1462 rfl (by omega) ?_
  refine lj_arg C (k := 3) dL_1463 dL_1464 dL_1465 dL_1466 dL_1467 rfl (by omega) ?_
  refine lj_callX C (r := r) (M2 := X') (As := [.int (xs (i + 1)), .int (xs (i + 2)), .int (xs (i + 3))]) (rest := []) yy_X4_sheet ⟨q_757, q_758⟩ q_756 dL_1468 rfl ⟨by decide, by decide⟩ (Nat.le_of_ble_eq_true rfl) (fun _ => cc4_sheet e1) rfl ?_
  refine lj_aload C dL_1471 rfl 2 rfl ?_
  refine lj_arg C (k := 1) dL_1472 dL_1473 dL_1474 dL_1475 dL_1476 rfl (by omega) ?_
  refine lj_arg C (k := 2) dL_1477 dL_1478 dL_1479 dL_1480 dL_1481 rfl (by omega) ?_
  refine lj_arg C (k := 3) dL_1482 dL_1483 dL_1484 dL_1485 dL_1486 rfl (by omega) ?_
  refine lj_callR C (r := r) (M2 := R') (As := [.int (xs (i + 1)), .int (xs (i + 2)), .int (xs (i + 3))]) (rest := [.int r]) yy_X5_sheet ⟨q_1298, q_1299⟩ q_1297 dL_1487 rfl ⟨by decide, by decide⟩ (Nat.le_of_ble_eq_true rfl) (fun _ => cc5_sheet e2) rfl ?_
  exact lj_eq C dL_1490 (by decide) (kk X' R' h')
theorem law_c43 (C : lj_C D cA gX gR z p s m meth c b L xs) (hi : i + 6 ≤ L) (h : Rel MX MR) (kk : ∀ MX2 MR2, Rel MX2 MR2 → lj_A D cA gX gR p l e s m below meth c b 1752 (lj_v gX gR b i) [] MX2 MR2) : lj_A D cA gX gR p l e s m below meth c b 1495 (lj_v gX gR b i) [] MX MR := by
  obtain ⟨r, X', R', e1, e2, h'⟩ := st_write h (xs (i + 1)) (xs (i + 2)) (xs (i + 3))
  refine lj_aload C dL_1495 rfl 1 rfl ?_
  refine lj_arg C (k := 1) dL_1496 dL_1497 dL_1498 dL_1499 dL_1500 rfl (by omega) ?_
  refine lj_arg C (k := 2) dL_1501 dL_1502 dL_1503 dL_1504 dL_1505 rfl (by omega) ?_
  refine lj_arg C (k := 3) dL_1506 dL_1507 dL_1508 dL_1509 dL_1510 rfl (by omega) ?_
  refine lj_callX C (r := r) (M2 := X') (As := [.int (xs (i + 1)), .int (xs (i + 2)), .int (xs (i + 3))]) (rest := []) yy_X4_write ⟨q_768, q_769⟩ q_767 dL_1511 rfl ⟨by decide, by decide⟩ (Nat.le_of_ble_eq_true rfl) (fun _ => cc4_write e1) rfl ?_
  refine lj_aload C dL_1514 rfl 2 rfl ?_
  refine lj_arg C (k := 1) dL_1515 dL_1516 dL_1517 dL_1518 dL_1519 rfl (by omega) ?_
  refine lj_arg C (k := 2) dL_1520 dL_1521 dL_1522 dL_1523 dL_1524 rfl (by omega) ?_
  refine lj_arg C (k := 3) dL_1525 dL_1526 dL_1527 dL_1528 dL_1529 rfl (by omega) ?_
  refine lj_callR C (r := r) (M2 := R') (As := [.int (xs (i + 1)), .int (xs (i + 2)), .int (xs (i + 3))]) (rest := [.int r]) yy_X5_write ⟨q_1306, q_1307⟩ q_1305 dL_1530 rfl ⟨by decide, by decide⟩ (Nat.le_of_ble_eq_true rfl) (fun _ => cc5_write e2) rfl ?_
  exact lj_eq C dL_1533 (by decide) (kk X' R' h')
theorem law_c44 (C : lj_C D cA gX gR z p s m meth c b L xs) (hi : i + 6 ≤ L) (h : Rel MX MR) (kk : ∀ MX2 MR2, Rel MX2 MR2 → lj_A D cA gX gR p l e s m below meth c b 1752 (lj_v gX gR b i) [] MX2 MR2) : lj_A D cA gX gR p l e s m below meth c b 1538 (lj_v gX gR b i) [] MX MR := by
  obtain ⟨r, X', R', e1, e2, h'⟩ := st_copy h (xs (i + 1)) (xs (i + 2)) (xs (i + 3)) (xs (i + 4)) (xs (i + 5))
  refine lj_aload C dL_1538 rfl 1 rfl ?_
  refine lj_arg C (k := 1) dL_1539 dL_1540 dL_1541 dL_1542 dL_1543 rfl (by omega) ?_
  refine lj_arg C (k := 2) dL_1544 dL_1545 dL_1546 dL_1547 dL_1548 rfl (by omega) ?_
  refine lj_arg C (k := 3) dL_1549 dL_1550 dL_1551 dL_1552 dL_1553 rfl (by omega) ?_
  refine lj_arg C (k := 4) dL_1554 dL_1555 dL_1556 dL_1557 dL_1558 rfl (by omega) ?_
  refine lj_arg C (k := 5) dL_1559 dL_1560 dL_1561 dL_1562 dL_1563 rfl (by omega) ?_
  refine lj_callX C (r := r) (M2 := X') (As := [.int (xs (i + 1)), .int (xs (i + 2)), .int (xs (i + 3)), .int (xs (i + 4)), .int (xs (i + 5))]) (rest := []) yy_X4_copy ⟨q_787, q_788⟩ q_786 dL_1564 rfl ⟨by decide, by decide⟩ (Nat.le_of_ble_eq_true rfl) (fun _ => cc4_copy e1) rfl ?_
  refine lj_aload C dL_1567 rfl 2 rfl ?_
  refine lj_arg C (k := 1) dL_1568 dL_1569 dL_1570 dL_1571 dL_1572 rfl (by omega) ?_
  refine lj_arg C (k := 2) dL_1573 dL_1574 dL_1575 dL_1576 dL_1577 rfl (by omega) ?_
  refine lj_arg C (k := 3) dL_1578 dL_1579 dL_1580 dL_1581 dL_1582 rfl (by omega) ?_
  refine lj_arg C (k := 4) dL_1583 dL_1584 dL_1585 dL_1586 dL_1587 rfl (by omega) ?_
  refine lj_arg C (k := 5) dL_1588 dL_1589 dL_1590 dL_1591 dL_1592 rfl (by omega) ?_
  refine lj_callR C (r := r) (M2 := R') (As := [.int (xs (i + 1)), .int (xs (i + 2)), .int (xs (i + 3)), .int (xs (i + 4)), .int (xs (i + 5))]) (rest := [.int r]) yy_X5_copy ⟨q_1317, q_1318⟩ q_1316 dL_1593 rfl ⟨by decide, by decide⟩ (Nat.le_of_ble_eq_true rfl) (fun _ => cc5_copy e2) rfl ?_
  exact lj_eq C dL_1596 (by decide) (kk X' R' h')
theorem law_c45 (C : lj_C D cA gX gR z p s m meth c b L xs) (hi : i + 6 ≤ L) (h : Rel MX MR) (kk : ∀ MX2 MR2, Rel MX2 MR2 → lj_A D cA gX gR p l e s m below meth c b 1752 (lj_v gX gR b i) [] MX2 MR2) : lj_A D cA gX gR p l e s m below meth c b 1601 (lj_v gX gR b i) [] MX MR := by
  obtain ⟨r, X', R', e1, e2, h'⟩ := st_load h (xs (i + 1)) (xs (i + 2))
  refine lj_aload C dL_1601 rfl 1 rfl ?_
  refine lj_arg C (k := 1) dL_1602 dL_1603 dL_1604 dL_1605 dL_1606 rfl (by omega) ?_
  refine lj_arg C (k := 2) dL_1607 dL_1608 dL_1609 dL_1610 dL_1611 rfl (by omega) ?_
  refine lj_callX C (r := r) (M2 := X') (As := [.int (xs (i + 1)), .int (xs (i + 2))]) (rest := []) yy_X4_load ⟨q_796, q_797⟩ q_795 dL_1612 rfl ⟨by decide, by decide⟩ (Nat.le_of_ble_eq_true rfl) (fun _ => cc4_load e1) rfl ?_
  refine lj_aload C dL_1615 rfl 2 rfl ?_
  refine lj_arg C (k := 1) dL_1616 dL_1617 dL_1618 dL_1619 dL_1620 rfl (by omega) ?_
  refine lj_arg C (k := 2) dL_1621 dL_1622 dL_1623 dL_1624 dL_1625 rfl (by omega) ?_
  refine lj_callR C (r := r) (M2 := R') (As := [.int (xs (i + 1)), .int (xs (i + 2))]) (rest := [.int r]) yy_X5_load ⟨q_1321, q_1322⟩ q_1320 dL_1626 rfl ⟨by decide, by decide⟩ (Nat.le_of_ble_eq_true rfl) (fun _ => cc5_load e2) rfl ?_
  exact lj_eq C dL_1629 (by decide) (kk X' R' h')
theorem law_c46 (C : lj_C D cA gX gR z p s m meth c b L xs) (hi : i + 6 ≤ L) (h : Rel MX MR) (kk : ∀ MX2 MR2, Rel MX2 MR2 → lj_A D cA gX gR p l e s m below meth c b 1752 (lj_v gX gR b i) [] MX2 MR2) : lj_A D cA gX gR p l e s m below meth c b 1634 (lj_v gX gR b i) [] MX MR := by
  obtain ⟨r, X', R', e1, e2, h'⟩ := st_judge h (xs (i + 1)) (xs (i + 2))
  refine lj_aload C dL_1634 rfl 1 rfl ?_
  refine lj_arg C (k := 1) dL_1635 dL_1636 dL_1637 dL_1638 dL_1639 rfl (by omega) ?_
  refine lj_arg C (k := 2) dL_1640 dL_1641 dL_1642 dL_1643 dL_1644 rfl (by omega) ?_
  refine lj_callX C (r := r) (M2 := X') (As := [.int (xs (i + 1)), .int (xs (i + 2))]) (rest := []) yy_X4_judge ⟨q_804, q_805⟩ q_803 dL_1645 rfl ⟨by decide, by decide⟩ (Nat.le_of_ble_eq_true rfl) (fun _ => cc4_judge e1) rfl ?_
  refine lj_aload C dL_1648 rfl 2 rfl ?_
  refine lj_arg C (k := 1) dL_1649 dL_1650 dL_1651 dL_1652 dL_1653 rfl (by omega) ?_
  refine lj_arg C (k := 2) dL_1654 dL_1655 dL_1656 dL_1657 dL_1658 rfl (by omega) ?_
  refine lj_callR C (r := r) (M2 := R') (As := [.int (xs (i + 1)), .int (xs (i + 2))]) (rest := [.int r]) yy_X5_judge ⟨q_1325, q_1326⟩ q_1324 dL_1659 rfl ⟨by decide, by decide⟩ (Nat.le_of_ble_eq_true rfl) (fun _ => cc5_judge e2) rfl ?_
  exact lj_eq C dL_1662 (by decide) (kk X' R' h')
theorem law_c47 (C : lj_C D cA gX gR z p s m meth c b L xs) (hi : i + 6 ≤ L) (h : Rel MX MR) (kk : ∀ MX2 MR2, Rel MX2 MR2 → lj_A D cA gX gR p l e s m below meth c b 1752 (lj_v gX gR b i) [] MX2 MR2) : lj_A D cA gX gR p l e s m below meth c b 1667 (lj_v gX gR b i) [] MX MR := by
  obtain ⟨r, X', R', e1, e2, h'⟩ := st_image h 
  refine lj_aload C dL_1667 rfl 1 rfl ?_
  refine lj_callX C (r := r) (M2 := X') (As := []) (rest := []) yy_X4_image ⟨q_808, q_809⟩ q_807 dL_1668 rfl ⟨by decide, by decide⟩ (Nat.le_of_ble_eq_true rfl) (fun _ => cc4_image e1) rfl ?_
  refine lj_aload C dL_1671 rfl 2 rfl ?_
  refine lj_callR C (r := r) (M2 := R') (As := []) (rest := [.int r]) yy_X5_image ⟨q_1329, q_1330⟩ q_1328 dL_1672 rfl ⟨by decide, by decide⟩ (Nat.le_of_ble_eq_true rfl) (fun _ => cc5_image e2) rfl ?_
  exact lj_eq C dL_1675 (by decide) (kk X' R' h')
theorem law_c48 (C : lj_C D cA gX gR z p s m meth c b L xs) (hi : i + 6 ≤ L) (h : Rel MX MR) (kk : ∀ MX2 MR2, Rel MX2 MR2 → lj_A D cA gX gR p l e s m below meth c b 1752 (lj_v gX gR b i) [] MX2 MR2) : lj_A D cA gX gR p l e s m below meth c b 1680 (lj_v gX gR b i) [] MX MR := by
  obtain ⟨r, X', R', e1, e2, h'⟩ := st_undo h 
  refine lj_aload C dL_1680 rfl 1 rfl ?_
  refine lj_callX C (r := r) (M2 := X') (As := []) (rest := []) yy_X4_undo ⟨q_812, q_813⟩ q_811 dL_1681 rfl ⟨by decide, by decide⟩ (Nat.le_of_ble_eq_true rfl) (fun _ => cc4_undo e1) rfl ?_
  refine lj_aload C dL_1684 rfl 2 rfl ?_
  refine lj_callR C (r := r) (M2 := R') (As := []) (rest := [.int r]) yy_X5_undo ⟨q_1333, q_1334⟩ q_1332 dL_1685 rfl ⟨by decide, by decide⟩ (Nat.le_of_ble_eq_true rfl) (fun _ => cc5_undo e2) rfl ?_
  exact lj_eq C dL_1688 (by decide) (kk X' R' h')
theorem law_c49 (C : lj_C D cA gX gR z p s m meth c b L xs) (hi : i + 6 ≤ L) (h : Rel MX MR) (kk : ∀ MX2 MR2, Rel MX2 MR2 → lj_A D cA gX gR p l e s m below meth c b 1752 (lj_v gX gR b i) [] MX2 MR2) : lj_A D cA gX gR p l e s m below meth c b 1693 (lj_v gX gR b i) [] MX MR := by
  obtain ⟨r, X', R', e1, e2, h'⟩ := st_tear h 
  refine lj_aload C dL_1693 rfl 1 rfl ?_
  refine lj_callX C (r := r) (M2 := X') (As := []) (rest := []) yy_X4_tear ⟨q_816, q_817⟩ q_815 dL_1694 rfl ⟨by decide, by decide⟩ (Nat.le_of_ble_eq_true rfl) (fun _ => cc4_tear e1) rfl ?_
  refine lj_aload C dL_1697 rfl 2 rfl ?_
  refine lj_callR C (r := r) (M2 := R') (As := []) (rest := [.int r]) yy_X5_tear ⟨q_1337, q_1338⟩ q_1336 dL_1698 rfl ⟨by decide, by decide⟩ (Nat.le_of_ble_eq_true rfl) (fun _ => cc5_tear e2) rfl ?_
  exact lj_eq C dL_1701 (by decide) (kk X' R' h')
theorem law_c50 (C : lj_C D cA gX gR z p s m meth c b L xs) (hi : i + 6 ≤ L) (h : Rel MX MR) (kk : ∀ MX2 MR2, Rel MX2 MR2 → lj_A D cA gX gR p l e s m below meth c b 1752 (lj_v gX gR b i) [] MX2 MR2) : lj_A D cA gX gR p l e s m below meth c b 1706 (lj_v gX gR b i) [] MX MR := by
  obtain ⟨r, X', R', e1, e2, h'⟩ := st_count h (xs (i + 1))
  refine lj_aload C dL_1706 rfl 1 rfl ?_
  refine lj_arg C (k := 1) dL_1707 dL_1708 dL_1709 dL_1710 dL_1711 rfl (by omega) ?_
  refine lj_callX C (r := r) (M2 := X') (As := [.int (xs (i + 1))]) (rest := []) yy_X4_count ⟨q_820, q_821⟩ q_819 dL_1712 rfl ⟨by decide, by decide⟩ (Nat.le_of_ble_eq_true rfl) (fun _ => cc4_count e1) rfl ?_
  refine lj_aload C dL_1715 rfl 2 rfl ?_
  refine lj_arg C (k := 1) dL_1716 dL_1717 dL_1718 dL_1719 dL_1720 rfl (by omega) ?_
  refine lj_callR C (r := r) (M2 := R') (As := [.int (xs (i + 1))]) (rest := [.int r]) yy_X5_count ⟨q_1341, q_1342⟩ q_1340 dL_1721 rfl ⟨by decide, by decide⟩ (Nat.le_of_ble_eq_true rfl) (fun _ => cc5_count e2) rfl ?_
  exact lj_eq C dL_1724 (by decide) (kk X' R' h')
theorem law_c51 (C : lj_C D cA gX gR z p s m meth c b L xs) (hi : i + 6 ≤ L) (h : Rel MX MR) (kk : ∀ MX2 MR2, Rel MX2 MR2 → lj_A D cA gX gR p l e s m below meth c b 1752 (lj_v gX gR b i) [] MX2 MR2) : lj_A D cA gX gR p l e s m below meth c b 1729 (lj_v gX gR b i) [] MX MR := by
  obtain ⟨r, X', R', e1, e2, h'⟩ := st_status h (xs (i + 1))
  refine lj_aload C dL_1729 rfl 1 rfl ?_
  refine lj_arg C (k := 1) dL_1730 dL_1731 dL_1732 dL_1733 dL_1734 rfl (by omega) ?_
  refine lj_callX C (r := r) (M2 := X') (As := [.int (xs (i + 1))]) (rest := []) yy_X4_status ⟨q_828, q_829⟩ q_827 dL_1735 rfl ⟨by decide, by decide⟩ (Nat.le_of_ble_eq_true rfl) (fun _ => cc4_status e1) rfl ?_
  refine lj_aload C dL_1738 rfl 2 rfl ?_
  refine lj_arg C (k := 1) dL_1739 dL_1740 dL_1741 dL_1742 dL_1743 rfl (by omega) ?_
  refine lj_callR C (r := r) (M2 := R') (As := [.int (xs (i + 1))]) (rest := [.int r]) yy_X5_status ⟨q_1345, q_1346⟩ q_1344 dL_1744 rfl ⟨by decide, by decide⟩ (Nat.le_of_ble_eq_true rfl) (fun _ => cc5_status e2) rfl ?_
  exact lj_eq C dL_1747 (by decide) (kk X' R' h')
end LC
