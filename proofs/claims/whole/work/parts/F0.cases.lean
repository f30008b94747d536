/-! the law: its cases -/
def yL (nm : String) : MethodName := ⟨"TableNineLaw", nm, ""⟩
section
variable {κ : Kx} {G : GT} {nm : String} {ret : Option FieldType} {a b n : Nat} {Q : State → Prop} {bb L : Nat} {xs : Nat → Int32} {i : Int} {q : Nat → Nat → Nat} {J : Nat → Bool} {T : Nat → Ob} {qm : Nat → Nat} {M : Ob}
theorem lw_feed (C : Cx κ G (yL nm) code ret 4 room_1) (hX : Sc κ bb L xs) (h : Inv2 n T J M) (hn : n + 1 ≤ 512) (hi : 0 ≤ i) (hL : i + 6 < L) (hL2 : L ≤ 3584) (ha : a ≤ 600000) (hb : b ≤ 7302250) (K : ∀ T' M', Inv2 (n + 1) T' J M' → X κ G 4 (WL G q J T' qm M') 2535 (lvL bb (q 11 31) (qm 31) i) [] a b Q) : X κ G 4 (WL G q J T qm M) 308 (lvL bb (q 11 31) (qm 31) i) [] a b Q := by
  have e : Nx n T J (fX7_feed T (xi xs (i + 1).toNat) (xi xs (i + 2).toNat) (xi xs (i + 3).toNat) (xi xs (i + 4).toNat) (xi xs (i + 5).toNat)) (fX8_feed M (xi xs (i + 1).toNat) (xi xs (i + 2).toNat) (xi xs (i + 3).toNat) (xi xs (i + 4).toNat) (xi xs (i + 5).toNat)) := op_feed h hn
  obtain ⟨r, T', M', e1, e2, e3, e4⟩ := e
  refine X.aload_n C dL_308 rfl 2 rfl ?_
  refine X.arg (k := 1) C hX hi (by decide) (by omega) hL2 dL_309 dL_310 dL_311 dL_312 dL_313 ?_
  refine X.arg (k := 2) C hX hi (by decide) (by omega) hL2 dL_314 dL_315 dL_316 dL_317 dL_318 ?_
  refine X.arg (k := 3) C hX hi (by decide) (by omega) hL2 dL_319 dL_320 dL_321 dL_322 dL_323 ?_
  refine X.arg (k := 4) C hX hi (by decide) (by omega) hL2 dL_324 dL_325 dL_326 dL_327 dL_328 ?_
  refine X.arg (k := 5) C hX hi (by decide) (by omega) hL2 dL_329 dL_330 dL_331 dL_332 dL_333 ?_
  refine X.callC (T' := T') (r := r) (As := [vi (xi xs (i + 1).toNat), vi (xi xs (i + 2).toNat), vi (xi xs (i + 3).toNat), vi (xi xs (i + 4).toNat), vi (xi xs (i + 5).toNat)]) (rest := []) C dL_334 ml_L_13 mX7_feed (kX7_feed q T (xi xs (i + 1).toNat) (xi xs (i + 2).toNat) (xi xs (i + 3).toNat) (xi xs (i + 4).toNat) (xi xs (i + 5).toNat) _ e1) e4 rfl rfl rfl rfl rfl ha hb ?_
  refine X.aload_n C dL_337 rfl 1 rfl ?_
  refine X.arg (k := 1) C hX hi (by decide) (by omega) hL2 dL_338 dL_339 dL_340 dL_341 dL_342 ?_
  refine X.arg (k := 2) C hX hi (by decide) (by omega) hL2 dL_343 dL_344 dL_345 dL_346 dL_347 ?_
  refine X.arg (k := 3) C hX hi (by decide) (by omega) hL2 dL_348 dL_349 dL_350 dL_351 dL_352 ?_
  refine X.arg (k := 4) C hX hi (by decide) (by omega) hL2 dL_353 dL_354 dL_355 dL_356 dL_357 ?_
  refine X.arg (k := 5) C hX hi (by decide) (by omega) hL2 dL_358 dL_359 dL_360 dL_361 dL_362 ?_
  refine X.callM (M' := M') (r := r) (As := [vi (xi xs (i + 1).toNat), vi (xi xs (i + 2).toNat), vi (xi xs (i + 3).toNat), vi (xi xs (i + 4).toNat), vi (xi xs (i + 5).toNat)]) (rest := [vi r]) C dL_363 ml_L_17 mX8_feed (kX8_feed qm M (xi xs (i + 1).toNat) (xi xs (i + 2).toNat) (xi xs (i + 3).toNat) (xi xs (i + 4).toNat) (xi xs (i + 5).toNat) _ e2) rfl rfl rfl rfl rfl ha hb ?_
  exact X.same (tgt := 2535) C dL_366 (by decide) (K T' M' e3)
theorem lw_end (C : Cx κ G (yL nm) code ret 4 room_1) (hX : Sc κ bb L xs) (h : Inv2 n T J M) (hn : n + 1 ≤ 512) (hi : 0 ≤ i) (hL : i + 6 < L) (hL2 : L ≤ 3584) (ha : a ≤ 600000) (hb : b ≤ 7302250) (K : ∀ T' M', Inv2 (n + 1) T' J M' → X κ G 4 (WL G q J T' qm M') 2535 (lvL bb (q 11 31) (qm 31) i) [] a b Q) : X κ G 4 (WL G q J T qm M) 371 (lvL bb (q 11 31) (qm 31) i) [] a b Q := by
  have e : Nx n T J (fX7_end T (xi xs (i + 1).toNat)) (fX8_end M (xi xs (i + 1).toNat)) := op_end h hn (xi_r xs _)
  obtain ⟨r, T', M', e1, e2, e3, e4⟩ := e
  refine X.aload_n C dL_371 rfl 2 rfl ?_
  refine X.arg (k := 1) C hX hi (by decide) (by omega) hL2 dL_372 dL_373 dL_374 dL_375 dL_376 ?_
  refine X.callC (T' := T') (r := r) (As := [vi (xi xs (i + 1).toNat)]) (rest := []) C dL_377 ml_L_18 mX7_end (kX7_end q T (xi xs (i + 1).toNat) _ e1) e4 rfl rfl rfl rfl rfl ha hb ?_
  refine X.aload_n C dL_380 rfl 1 rfl ?_
  refine X.arg (k := 1) C hX hi (by decide) (by omega) hL2 dL_381 dL_382 dL_383 dL_384 dL_385 ?_
  refine X.callM (M' := M') (r := r) (As := [vi (xi xs (i + 1).toNat)]) (rest := [vi r]) C dL_386 ml_L_22 mX8_end (kX8_end qm M (xi xs (i + 1).toNat) _ e2) rfl rfl rfl rfl rfl ha hb ?_
  exact X.same (tgt := 2535) C dL_389 (by decide) (K T' M' e3)
theorem lw_square (C : Cx κ G (yL nm) code ret 4 room_1) (hX : Sc κ bb L xs) (h : Inv2 n T J M) (hn : n + 1 ≤ 512) (hi : 0 ≤ i) (hL : i + 6 < L) (hL2 : L ≤ 3584) (ha : a ≤ 600000) (hb : b ≤ 7302250) (K : ∀ T' M', Inv2 (n + 1) T' J M' → X κ G 4 (WL G q J T' qm M') 2535 (lvL bb (q 11 31) (qm 31) i) [] a b Q) : X κ G 4 (WL G q J T qm M) 394 (lvL bb (q 11 31) (qm 31) i) [] a b Q := by
  have e : Nx n T J (fX7_square T) (fX8_square M) := op_square h hn
  obtain ⟨r, T', M', e1, e2, e3, e4⟩ := e
  refine X.aload_n C dL_394 rfl 2 rfl ?_
  refine X.callC (T' := T') (r := r) (As := []) (rest := []) C dL_395 ml_L_23 mX7_square (kX7_square q T _ e1) e4 rfl rfl rfl rfl rfl ha hb ?_
  refine X.aload_n C dL_398 rfl 1 rfl ?_
  refine X.callM (M' := M') (r := r) (As := []) (rest := [vi r]) C dL_399 ml_L_27 mX8_square (kX8_square qm M _ e2) rfl rfl rfl rfl rfl ha hb ?_
  exact X.same (tgt := 2535) C dL_402 (by decide) (K T' M' e3)
theorem lw_fault (C : Cx κ G (yL nm) code ret 4 room_1) (hX : Sc κ bb L xs) (h : Inv2 n T J M) (hn : n + 1 ≤ 512) (hi : 0 ≤ i) (hL : i + 6 < L) (hL2 : L ≤ 3584) (ha : a ≤ 600000) (hb : b ≤ 7302250) (K : ∀ T' M', Inv2 (n + 1) T' J M' → X κ G 4 (WL G q J T' qm M') 2535 (lvL bb (q 11 31) (qm 31) i) [] a b Q) : X κ G 4 (WL G q J T qm M) 407 (lvL bb (q 11 31) (qm 31) i) [] a b Q := by
  have e : Eqv (fX7_fault T (xi xs (i + 1).toNat)) (fX8_fault M (xi xs (i + 1).toNat)) := op_fault h.1
  obtain ⟨r, e1, e2⟩ := e
  refine X.aload_n C dL_407 rfl 2 rfl ?_
  refine X.arg (k := 1) C hX hi (by decide) (by omega) hL2 dL_408 dL_409 dL_410 dL_411 dL_412 ?_
  refine X.callC (T' := T) (r := r) (As := [vi (xi xs (i + 1).toNat)]) (rest := []) C dL_413 ml_L_28 mX7_fault (kX7_fault q T (xi xs (i + 1).toNat) _ e1) (fun _ _ => rfl) rfl rfl rfl rfl rfl ha hb ?_
  refine X.aload_n C dL_416 rfl 1 rfl ?_
  refine X.arg (k := 1) C hX hi (by decide) (by omega) hL2 dL_417 dL_418 dL_419 dL_420 dL_421 ?_
  refine X.callM (M' := M) (r := r) (As := [vi (xi xs (i + 1).toNat)]) (rest := [vi r]) C dL_422 ml_L_31 mX8_fault (kX8_fault qm M (xi xs (i + 1).toNat) _ e2) rfl rfl rfl rfl rfl ha hb ?_
  exact X.same (tgt := 2535) C dL_425 (by decide) (K T M (h.next hn))
theorem lw_pace (C : Cx κ G (yL nm) code ret 4 room_1) (hX : Sc κ bb L xs) (h : Inv2 n T J M) (hn : n + 1 ≤ 512) (hi : 0 ≤ i) (hL : i + 6 < L) (hL2 : L ≤ 3584) (ha : a ≤ 600000) (hb : b ≤ 7302250) (K : ∀ T' M', Inv2 (n + 1) T' J M' → X κ G 4 (WL G q J T' qm M') 2535 (lvL bb (q 11 31) (qm 31) i) [] a b Q) : X κ G 4 (WL G q J T qm M) 430 (lvL bb (q 11 31) (qm 31) i) [] a b Q := by
  have e : Eqv (fX7_pace T (xi xs (i + 1).toNat)) (fX8_pace M (xi xs (i + 1).toNat)) := op_pace (T := T) (M := M) (xi_r xs _)
  obtain ⟨r, e1, e2⟩ := e
  refine X.aload_n C dL_430 rfl 2 rfl ?_
  refine X.arg (k := 1) C hX hi (by decide) (by omega) hL2 dL_431 dL_432 dL_433 dL_434 dL_435 ?_
  refine X.callC (T' := T) (r := r) (As := [vi (xi xs (i + 1).toNat)]) (rest := []) C dL_436 ml_L_32 mX7_pace (kX7_pace q T (xi xs (i + 1).toNat) _ e1) (fun _ _ => rfl) rfl rfl rfl rfl rfl ha hb ?_
  refine X.aload_n C dL_439 rfl 1 rfl ?_
  refine X.arg (k := 1) C hX hi (by decide) (by omega) hL2 dL_440 dL_441 dL_442 dL_443 dL_444 ?_
  refine X.callM (M' := M) (r := r) (As := [vi (xi xs (i + 1).toNat)]) (rest := [vi r]) C dL_445 ml_L_35 mX8_pace (kX8_pace qm M (xi xs (i + 1).toNat) _ e2) rfl rfl rfl rfl rfl ha hb ?_
  exact X.same (tgt := 2535) C dL_448 (by decide) (K T M (h.next hn))
theorem lw_blow (C : Cx κ G (yL nm) code ret 4 room_1) (hX : Sc κ bb L xs) (h : Inv2 n T J M) (hn : n + 1 ≤ 512) (hi : 0 ≤ i) (hL : i + 6 < L) (hL2 : L ≤ 3584) (ha : a ≤ 600000) (hb : b ≤ 7302250) (K : ∀ T' M', Inv2 (n + 1) T' J M' → X κ G 4 (WL G q J T' qm M') 2535 (lvL bb (q 11 31) (qm 31) i) [] a b Q) : X κ G 4 (WL G q J T qm M) 453 (lvL bb (q 11 31) (qm 31) i) [] a b Q := by
  have e : Nx n T J (fX7_blow T (xi xs (i + 1).toNat)) (fX8_blow M (xi xs (i + 1).toNat)) := op_blow h hn (xi_r xs _)
  obtain ⟨r, T', M', e1, e2, e3, e4⟩ := e
  refine X.aload_n C dL_453 rfl 2 rfl ?_
  refine X.arg (k := 1) C hX hi (by decide) (by omega) hL2 dL_454 dL_455 dL_456 dL_457 dL_458 ?_
  refine X.callC (T' := T') (r := r) (As := [vi (xi xs (i + 1).toNat)]) (rest := []) C dL_459 ml_L_36 mX7_blow (kX7_blow q T (xi xs (i + 1).toNat) _ e1) e4 rfl rfl rfl rfl rfl ha hb ?_
  refine X.aload_n C dL_462 rfl 1 rfl ?_
  refine X.arg (k := 1) C hX hi (by decide) (by omega) hL2 dL_463 dL_464 dL_465 dL_466 dL_467 ?_
  refine X.callM (M' := M') (r := r) (As := [vi (xi xs (i + 1).toNat)]) (rest := [vi r]) C dL_468 ml_L_39 mX8_blow (kX8_blow qm M (xi xs (i + 1).toNat) _ e2) rfl rfl rfl rfl rfl ha hb ?_
  exact X.same (tgt := 2535) C dL_471 (by decide) (K T' M' e3)
theorem lw_blows (C : Cx κ G (yL nm) code ret 4 room_1) (hX : Sc κ bb L xs) (h : Inv2 n T J M) (hn : n + 1 ≤ 512) (hi : 0 ≤ i) (hL : i + 6 < L) (hL2 : L ≤ 3584) (ha : a ≤ 600000) (hb : b ≤ 7302250) (K : ∀ T' M', Inv2 (n + 1) T' J M' → X κ G 4 (WL G q J T' qm M') 2535 (lvL bb (q 11 31) (qm 31) i) [] a b Q) : X κ G 4 (WL G q J T qm M) 476 (lvL bb (q 11 31) (qm 31) i) [] a b Q := by
  have e : Nx n T J (fX7_blows T (xi xs (i + 1).toNat) (xi xs (i + 2).toNat)) (fX8_blows M (xi xs (i + 1).toNat) (xi xs (i + 2).toNat)) := op_blows h hn (xi_r xs _) (xi_r xs _)
  obtain ⟨r, T', M', e1, e2, e3, e4⟩ := e
  refine X.aload_n C dL_476 rfl 2 rfl ?_
  refine X.arg (k := 1) C hX hi (by decide) (by omega) hL2 dL_477 dL_478 dL_479 dL_480 dL_481 ?_
  refine X.arg (k := 2) C hX hi (by decide) (by omega) hL2 dL_482 dL_483 dL_484 dL_485 dL_486 ?_
  refine X.callC (T' := T') (r := r) (As := [vi (xi xs (i + 1).toNat), vi (xi xs (i + 2).toNat)]) (rest := []) C dL_487 ml_L_40 mX7_blows (kX7_blows q T (xi xs (i + 1).toNat) (xi xs (i + 2).toNat) _ e1) e4 rfl rfl rfl rfl rfl ha hb ?_
  refine X.aload_n C dL_490 rfl 1 rfl ?_
  refine X.arg (k := 1) C hX hi (by decide) (by omega) hL2 dL_491 dL_492 dL_493 dL_494 dL_495 ?_
  refine X.arg (k := 2) C hX hi (by decide) (by omega) hL2 dL_496 dL_497 dL_498 dL_499 dL_500 ?_
  refine X.callM (M' := M') (r := r) (As := [vi (xi xs (i + 1).toNat), vi (xi xs (i + 2).toNat)]) (rest := [vi r]) C dL_501 ml_L_44 mX8_blows (kX8_blows qm M (xi xs (i + 1).toNat) (xi xs (i + 2).toNat) _ e2) rfl rfl rfl rfl rfl ha hb ?_
  exact X.same (tgt := 2535) C dL_504 (by decide) (K T' M' e3)
theorem lw_day (C : Cx κ G (yL nm) code ret 4 room_1) (hX : Sc κ bb L xs) (h : Inv2 n T J M) (hn : n + 1 ≤ 512) (hi : 0 ≤ i) (hL : i + 6 < L) (hL2 : L ≤ 3584) (ha : a ≤ 600000) (hb : b ≤ 7302250) (K : ∀ T' M', Inv2 (n + 1) T' J M' → X κ G 4 (WL G q J T' qm M') 2535 (lvL bb (q 11 31) (qm 31) i) [] a b Q) : X κ G 4 (WL G q J T qm M) 509 (lvL bb (q 11 31) (qm 31) i) [] a b Q := by
  have e : Nx n T J (fX7_day T (xi xs (i + 1).toNat)) (fX8_day M (xi xs (i + 1).toNat)) := op_day h hn (xi_r xs _)
  obtain ⟨r, T', M', e1, e2, e3, e4⟩ := e
  refine X.aload_n C dL_509 rfl 2 rfl ?_
  refine X.arg (k := 1) C hX hi (by decide) (by omega) hL2 dL_510 dL_511 dL_512 dL_513 dL_514 ?_
  refine X.callC (T' := T') (r := r) (As := [vi (xi xs (i + 1).toNat)]) (rest := []) C dL_515 ml_L_45 mX7_day (kX7_day q T (xi xs (i + 1).toNat) _ e1) e4 rfl rfl rfl rfl rfl ha hb ?_
  refine X.aload_n C dL_518 rfl 1 rfl ?_
  refine X.arg (k := 1) C hX hi (by decide) (by omega) hL2 dL_519 dL_520 dL_521 dL_522 dL_523 ?_
  refine X.callM (M' := M') (r := r) (As := [vi (xi xs (i + 1).toNat)]) (rest := [vi r]) C dL_524 ml_L_48 mX8_day (kX8_day qm M (xi xs (i + 1).toNat) _ e2) rfl rfl rfl rfl rfl ha hb ?_
  exact X.same (tgt := 2535) C dL_527 (by decide) (K T' M' e3)
theorem lw_wet (C : Cx κ G (yL nm) code ret 4 room_1) (hX : Sc κ bb L xs) (h : Inv2 n T J M) (hn : n + 1 ≤ 512) (hi : 0 ≤ i) (hL : i + 6 < L) (hL2 : L ≤ 3584) (ha : a ≤ 600000) (hb : b ≤ 7302250) (K : ∀ T' M', Inv2 (n + 1) T' J M' → X κ G 4 (WL G q J T' qm M') 2535 (lvL bb (q 11 31) (qm 31) i) [] a b Q) : X κ G 4 (WL G q J T qm M) 532 (lvL bb (q 11 31) (qm 31) i) [] a b Q := by
  have e : Eqv (fX7_wet T (xi xs (i + 1).toNat) (xi xs (i + 2).toNat)) (fX8_wet M (xi xs (i + 1).toNat) (xi xs (i + 2).toNat)) := op_wet h.1 (xi_r xs _) (xi_r xs _)
  obtain ⟨r, e1, e2⟩ := e
  refine X.aload_n C dL_532 rfl 2 rfl ?_
  refine X.arg (k := 1) C hX hi (by decide) (by omega) hL2 dL_533 dL_534 dL_535 dL_536 dL_537 ?_
  refine X.arg (k := 2) C hX hi (by decide) (by omega) hL2 dL_538 dL_539 dL_540 dL_541 dL_542 ?_
  refine X.callC (T' := T) (r := r) (As := [vi (xi xs (i + 1).toNat), vi (xi xs (i + 2).toNat)]) (rest := []) C dL_543 ml_L_49 mX7_wet (kX7_wet q T (xi xs (i + 1).toNat) (xi xs (i + 2).toNat) _ e1) (fun _ _ => rfl) rfl rfl rfl rfl rfl ha hb ?_
  refine X.aload_n C dL_546 rfl 1 rfl ?_
  refine X.arg (k := 1) C hX hi (by decide) (by omega) hL2 dL_547 dL_548 dL_549 dL_550 dL_551 ?_
  refine X.arg (k := 2) C hX hi (by decide) (by omega) hL2 dL_552 dL_553 dL_554 dL_555 dL_556 ?_
  refine X.callM (M' := M) (r := r) (As := [vi (xi xs (i + 1).toNat), vi (xi xs (i + 2).toNat)]) (rest := [vi r]) C dL_557 ml_L_52 mX8_wet (kX8_wet qm M (xi xs (i + 1).toNat) (xi xs (i + 2).toNat) _ e2) rfl rfl rfl rfl rfl ha hb ?_
  exact X.same (tgt := 2535) C dL_560 (by decide) (K T M (h.next hn))
theorem lw_table (C : Cx κ G (yL nm) code ret 4 room_1) (hX : Sc κ bb L xs) (h : Inv2 n T J M) (hn : n + 1 ≤ 512) (hi : 0 ≤ i) (hL : i + 6 < L) (hL2 : L ≤ 3584) (ha : a ≤ 600000) (hb : b ≤ 7302250) (K : ∀ T' M', Inv2 (n + 1) T' J M' → X κ G 4 (WL G q J T' qm M') 2535 (lvL bb (q 11 31) (qm 31) i) [] a b Q) : X κ G 4 (WL G q J T qm M) 565 (lvL bb (q 11 31) (qm 31) i) [] a b Q := by
  have e : Eqv (fX7_table T (xi xs (i + 1).toNat) (xi xs (i + 2).toNat)) (fX8_table M (xi xs (i + 1).toNat) (xi xs (i + 2).toNat)) := op_table h.1 (xi_r xs _) (xi_r xs _)
  obtain ⟨r, e1, e2⟩ := e
  refine X.aload_n C dL_565 rfl 2 rfl ?_
  refine X.arg (k := 1) C hX hi (by decide) (by omega) hL2 dL_566 dL_567 dL_568 dL_569 dL_570 ?_
  refine X.arg (k := 2) C hX hi (by decide) (by omega) hL2 dL_571 dL_572 dL_573 dL_574 dL_575 ?_
  refine X.callC (T' := T) (r := r) (As := [vi (xi xs (i + 1).toNat), vi (xi xs (i + 2).toNat)]) (rest := []) C dL_576 ml_L_53 mX7_table (kX7_table q T (xi xs (i + 1).toNat) (xi xs (i + 2).toNat) _ e1) (fun _ _ => rfl) rfl rfl rfl rfl rfl ha hb ?_
  refine X.aload_n C dL_579 rfl 1 rfl ?_
  refine X.arg (k := 1) C hX hi (by decide) (by omega) hL2 dL_580 dL_581 dL_582 dL_583 dL_584 ?_
  refine X.arg (k := 2) C hX hi (by decide) (by omega) hL2 dL_585 dL_586 dL_587 dL_588 dL_589 ?_
  refine X.callM (M' := M) (r := r) (As := [vi (xi xs (i + 1).toNat), vi (xi xs (i + 2).toNat)]) (rest := [vi r]) C dL_590 ml_L_56 mX8_table (kX8_table qm M (xi xs (i + 1).toNat) (xi xs (i + 2).toNat) _ e2) rfl rfl rfl rfl rfl ha hb ?_
  exact X.same (tgt := 2535) C dL_593 (by decide) (K T M (h.next hn))
theorem lw_over (C : Cx κ G (yL nm) code ret 4 room_1) (hX : Sc κ bb L xs) (h : Inv2 n T J M) (hn : n + 1 ≤ 512) (hi : 0 ≤ i) (hL : i + 6 < L) (hL2 : L ≤ 3584) (ha : a ≤ 600000) (hb : b ≤ 7302250) (K : ∀ T' M', Inv2 (n + 1) T' J M' → X κ G 4 (WL G q J T' qm M') 2535 (lvL bb (q 11 31) (qm 31) i) [] a b Q) : X κ G 4 (WL G q J T qm M) 598 (lvL bb (q 11 31) (qm 31) i) [] a b Q := by
  have e : Eqv (fX7_over T) (fX8_over M) := op_over h.1
  obtain ⟨r, e1, e2⟩ := e
  refine X.aload_n C dL_598 rfl 2 rfl ?_
  refine X.callC (T' := T) (r := r) (As := []) (rest := []) C dL_599 ml_L_57 mX7_over (kX7_over q T _ e1) (fun _ _ => rfl) rfl rfl rfl rfl rfl ha hb ?_
  refine X.aload_n C dL_602 rfl 1 rfl ?_
  refine X.callM (M' := M) (r := r) (As := []) (rest := [vi r]) C dL_603 ml_L_60 mX8_over (kX8_over qm M _ e2) rfl rfl rfl rfl rfl ha hb ?_
  exact X.same (tgt := 2535) C dL_606 (by decide) (K T M (h.next hn))
theorem lw_water (C : Cx κ G (yL nm) code ret 4 room_1) (hX : Sc κ bb L xs) (h : Inv2 n T J M) (hn : n + 1 ≤ 512) (hi : 0 ≤ i) (hL : i + 6 < L) (hL2 : L ≤ 3584) (ha : a ≤ 600000) (hb : b ≤ 7302250) (K : ∀ T' M', Inv2 (n + 1) T' J M' → X κ G 4 (WL G q J T' qm M') 2535 (lvL bb (q 11 31) (qm 31) i) [] a b Q) : X κ G 4 (WL G q J T qm M) 611 (lvL bb (q 11 31) (qm 31) i) [] a b Q := by
  have e : Eqv (fX7_water T (xi xs (i + 1).toNat)) (fX8_water M (xi xs (i + 1).toNat)) := op_water h.1
  obtain ⟨r, e1, e2⟩ := e
  refine X.aload_n C dL_611 rfl 2 rfl ?_
  refine X.arg (k := 1) C hX hi (by decide) (by omega) hL2 dL_612 dL_613 dL_614 dL_615 dL_616 ?_
  refine X.callC (T' := T) (r := r) (As := [vi (xi xs (i + 1).toNat)]) (rest := []) C dL_617 ml_L_61 mX7_water (kX7_water q T (xi xs (i + 1).toNat) _ e1) (fun _ _ => rfl) rfl rfl rfl rfl rfl ha hb ?_
  refine X.aload_n C dL_620 rfl 1 rfl ?_
  refine X.arg (k := 1) C hX hi (by decide) (by omega) hL2 dL_621 dL_622 dL_623 dL_624 dL_625 ?_
  refine X.callM (M' := M) (r := r) (As := [vi (xi xs (i + 1).toNat)]) (rest := [vi r]) C dL_626 ml_L_64 mX8_water (kX8_water qm M (xi xs (i + 1).toNat) _ e2) rfl rfl rfl rfl rfl ha hb ?_
  exact X.same (tgt := 2535) C dL_629 (by decide) (K T M (h.next hn))
theorem lw_jet (C : Cx κ G (yL nm) code ret 4 room_1) (hX : Sc κ bb L xs) (h : Inv2 n T J M) (hn : n + 1 ≤ 512) (hi : 0 ≤ i) (hL : i + 6 < L) (hL2 : L ≤ 3584) (ha : a ≤ 600000) (hb : b ≤ 7302250) (K : ∀ T' M', Inv2 (n + 1) T' J M' → X κ G 4 (WL G q J T' qm M') 2535 (lvL bb (q 11 31) (qm 31) i) [] a b Q) : X κ G 4 (WL G q J T qm M) 634 (lvL bb (q 11 31) (qm 31) i) [] a b Q := by
  have e : Eqv (fX7_jet T (xi xs (i + 1).toNat)) (fX8_jet M (xi xs (i + 1).toNat)) := op_jet h.1
  obtain ⟨r, e1, e2⟩ := e
  refine X.aload_n C dL_634 rfl 2 rfl ?_
  refine X.arg (k := 1) C hX hi (by decide) (by omega) hL2 dL_635 dL_636 dL_637 dL_638 dL_639 ?_
  refine X.callC (T' := T) (r := r) (As := [vi (xi xs (i + 1).toNat)]) (rest := []) C dL_640 ml_L_65 mX7_jet (kX7_jet q T (xi xs (i + 1).toNat) _ e1) (fun _ _ => rfl) rfl rfl rfl rfl rfl ha hb ?_
  refine X.aload_n C dL_643 rfl 1 rfl ?_
  refine X.arg (k := 1) C hX hi (by decide) (by omega) hL2 dL_644 dL_645 dL_646 dL_647 dL_648 ?_
  refine X.callM (M' := M) (r := r) (As := [vi (xi xs (i + 1).toNat)]) (rest := [vi r]) C dL_649 ml_L_68 mX8_jet (kX8_jet qm M (xi xs (i + 1).toNat) _ e2) rfl rfl rfl rfl rfl ha hb ?_
  exact X.same (tgt := 2535) C dL_652 (by decide) (K T M (h.next hn))
theorem lw_lets (C : Cx κ G (yL nm) code ret 4 room_1) (hX : Sc κ bb L xs) (h : Inv2 n T J M) (hn : n + 1 ≤ 512) (hi : 0 ≤ i) (hL : i + 6 < L) (hL2 : L ≤ 3584) (ha : a ≤ 600000) (hb : b ≤ 7302250) (K : ∀ T' M', Inv2 (n + 1) T' J M' → X κ G 4 (WL G q J T' qm M') 2535 (lvL bb (q 11 31) (qm 31) i) [] a b Q) : X κ G 4 (WL G q J T qm M) 657 (lvL bb (q 11 31) (qm 31) i) [] a b Q := by
  have e : Eqv (fX7_lets T (xi xs (i + 1).toNat)) (fX8_lets M (xi xs (i + 1).toNat)) := op_lets h.1 (xi_r xs _)
  obtain ⟨r, e1, e2⟩ := e
  refine X.aload_n C dL_657 rfl 2 rfl ?_
  refine X.arg (k := 1) C hX hi (by decide) (by omega) hL2 dL_658 dL_659 dL_660 dL_661 dL_662 ?_
  refine X.callC (T' := T) (r := r) (As := [vi (xi xs (i + 1).toNat)]) (rest := []) C dL_663 ml_L_69 mX7_lets (kX7_lets q T (xi xs (i + 1).toNat) _ e1) (fun _ _ => rfl) rfl rfl rfl rfl rfl ha hb ?_
  refine X.aload_n C dL_666 rfl 1 rfl ?_
  refine X.arg (k := 1) C hX hi (by decide) (by omega) hL2 dL_667 dL_668 dL_669 dL_670 dL_671 ?_
  refine X.callM (M' := M) (r := r) (As := [vi (xi xs (i + 1).toNat)]) (rest := [vi r]) C dL_672 ml_L_72 mX8_lets (kX8_lets qm M (xi xs (i + 1).toNat) _ e2) rfl rfl rfl rfl rfl ha hb ?_
  exact X.same (tgt := 2535) C dL_675 (by decide) (K T M (h.next hn))
theorem lw_land (C : Cx κ G (yL nm) code ret 4 room_1) (hX : Sc κ bb L xs) (h : Inv2 n T J M) (hn : n + 1 ≤ 512) (hi : 0 ≤ i) (hL : i + 6 < L) (hL2 : L ≤ 3584) (ha : a ≤ 600000) (hb : b ≤ 7302250) (K : ∀ T' M', Inv2 (n + 1) T' J M' → X κ G 4 (WL G q J T' qm M') 2535 (lvL bb (q 11 31) (qm 31) i) [] a b Q) : X κ G 4 (WL G q J T qm M) 680 (lvL bb (q 11 31) (qm 31) i) [] a b Q := by
  have e : Eqv (fX7_land T (xi xs (i + 1).toNat) (xi xs (i + 2).toNat) (xi xs (i + 3).toNat)) (fX8_land M (xi xs (i + 1).toNat) (xi xs (i + 2).toNat) (xi xs (i + 3).toNat)) := op_land h.1 (xi_r xs _) (xi_r xs _) (xi_r xs _)
  obtain ⟨r, e1, e2⟩ := e
  refine X.aload_n C dL_680 rfl 2 rfl ?_
  refine X.arg (k := 1) C hX hi (by decide) (by omega) hL2 dL_681 dL_682 dL_683 dL_684 dL_685 ?_
  refine X.arg (k := 2) C hX hi (by decide) (by omega) hL2 dL_686 dL_687 dL_688 dL_689 dL_690 ?_
  refine X.arg (k := 3) C hX hi (by decide) (by omega) hL2 dL_691 dL_692 dL_693 dL_694 dL_695 ?_
  refine X.callC (T' := T) (r := r) (As := [vi (xi xs (i + 1).toNat), vi (xi xs (i + 2).toNat), vi (xi xs (i + 3).toNat)]) (rest := []) C dL_696 ml_L_73 mX7_land (kX7_land q T (xi xs (i + 1).toNat) (xi xs (i + 2).toNat) (xi xs (i + 3).toNat) _ e1) (fun _ _ => rfl) rfl rfl rfl rfl rfl ha hb ?_
  refine X.aload_n C dL_699 rfl 1 rfl ?_
  refine X.arg (k := 1) C hX hi (by decide) (by omega) hL2 dL_700 dL_701 dL_702 dL_703 dL_704 ?_
  refine X.arg (k := 2) C hX hi (by decide) (by omega) hL2 dL_705 dL_706 dL_707 dL_708 dL_709 ?_
  refine X.arg (k := 3) C hX hi (by decide) (by omega) hL2 dL_710 dL_711 dL_712 dL_713 dL_714 ?_
  refine X.callM (M' := M) (r := r) (As := [vi (xi xs (i + 1).toNat), vi (xi xs (i + 2).toNat), vi (xi xs (i + 3).toNat)]) (rest := [vi r]) C dL_715 ml_L_77 mX8_land (kX8_land qm M (xi xs (i + 1).toNat) (xi xs (i + 2).toNat) (xi xs (i + 3).toNat) _ e2) rfl rfl rfl rfl rfl ha hb ?_
  exact X.same (tgt := 2535) C dL_718 (by decide) (K T M (h.next hn))
theorem lw_drift (C : Cx κ G (yL nm) code ret 4 room_1) (hX : Sc κ bb L xs) (h : Inv2 n T J M) (hn : n + 1 ≤ 512) (hi : 0 ≤ i) (hL : i + 6 < L) (hL2 : L ≤ 3584) (ha : a ≤ 600000) (hb : b ≤ 7302250) (K : ∀ T' M', Inv2 (n + 1) T' J M' → X κ G 4 (WL G q J T' qm M') 2535 (lvL bb (q 11 31) (qm 31) i) [] a b Q) : X κ G 4 (WL G q J T qm M) 723 (lvL bb (q 11 31) (qm 31) i) [] a b Q := by
  have e : Eqv (fX7_drift T (xi xs (i + 1).toNat) (xi xs (i + 2).toNat) (xi xs (i + 3).toNat)) (fX8_drift M (xi xs (i + 1).toNat) (xi xs (i + 2).toNat) (xi xs (i + 3).toNat)) := op_drift h.1 (xi_r xs _) (xi_r xs _) (xi_r xs _)
  obtain ⟨r, e1, e2⟩ := e
  refine X.aload_n C dL_723 rfl 2 rfl ?_
  refine X.arg (k := 1) C hX hi (by decide) (by omega) hL2 dL_724 dL_725 dL_726 dL_727 dL_728 ?_
  refine X.arg (k := 2) C hX hi (by decide) (by omega) hL2 dL_729 dL_730 dL_731 dL_732 dL_733 ?_
  refine X.arg (k := 3) C hX hi (by decide) (by omega) hL2 dL_734 dL_735 dL_736 dL_737 dL_738 ?_
  refine X.callC (T' := T) (r := r) (As := [vi (xi xs (i + 1).toNat), vi (xi xs (i + 2).toNat), vi (xi xs (i + 3).toNat)]) (rest := []) C dL_739 ml_L_78 mX7_drift (kX7_drift q T (xi xs (i + 1).toNat) (xi xs (i + 2).toNat) (xi xs (i + 3).toNat) _ e1) (fun _ _ => rfl) rfl rfl rfl rfl rfl ha hb ?_
  refine X.aload_n C dL_742 rfl 1 rfl ?_
  refine X.arg (k := 1) C hX hi (by decide) (by omega) hL2 dL_743 dL_744 dL_745 dL_746 dL_747 ?_
  refine X.arg (k := 2) C hX hi (by decide) (by omega) hL2 dL_748 dL_749 dL_750 dL_751 dL_752 ?_
  refine X.arg (k := 3) C hX hi (by decide) (by omega) hL2 dL_753 dL_754 dL_755 dL_756 dL_757 ?_
  refine X.callM (M' := M) (r := r) (As := [vi (xi xs (i + 1).toNat), vi (xi xs (i + 2).toNat), vi (xi xs (i + 3).toNat)]) (rest := [vi r]) C dL_758 ml_L_81 mX8_drift (kX8_drift qm M (xi xs (i + 1).toNat) (xi xs (i + 2).toNat) (xi xs (i + 3).toNat) _ e2) rfl rfl rfl rfl rfl ha hb ?_
  exact X.same (tgt := 2535) C dL_761 (by decide) (K T M (h.next hn))
end
