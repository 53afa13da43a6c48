set_option maxRecDepth 100000 in
set_option maxHeartbeats 2000000 in
/-- join -/
theorem lw_join {F : Fx} {Q : State → Prop} {b L x m k w g : Nat} {xs : Nat → Int32} {S M : PS} (X : LX F b L xs) (hk : 6 * k + 6 ≤ L) (hI : LJ F.nw x m w g S M) (nx : ∀ (S2 M2 : PS) (w2 g2 : Nat), LJ F.nw x m w2 g2 S2 M2 → G2 F 4 S2 M2 (200 + (k + 1) + 12 * (300 - w2) + g2) (170000 + 1024 * (k + 1) + 12288 * (300 - w2) + 60000 * g2) Q 984 (lvL b x m (6 * k)) []) : G2 F 4 S M (200 + k + 12 * (300 - w) + g) (170000 + 1024 * k + 12288 * (300 - w) + 60000 * g) Q 353 (lvL b x m (6 * k)) [] := by
  obtain ⟨Z, -, -, -, hL, hRf, hRc, hRs, hRl⟩ := id X
  obtain ⟨sa, pl, la, br, h, n, u, rd, rk, rt, fa, so, O, V, B, hx, hg, A, C, R, ho, rfl, hM, hB, hfa, hw⟩ := hI
  have hw3 : w ≤ 300 := hx.1.1.2.2.2.2.2.2.2.2.2
  have hV := hx.2.2
  by_cases hyp : isS (xs (6 * k + 1)) ∧ isS (xs (6 * k + 3)) ∧ isS (xs (6 * k + 4)) ∧ ¬ (xs (6 * k + 2)) < 0 ∧ (xs (6 * k + 2)) ≤ 3 ∧ 1 ≤ w
  · obtain ⟨⟨jt, hjt, et⟩, ⟨ja, hja, ea⟩, ⟨jb, hjb, eb⟩, hc0, hc3, hw1⟩ := id hyp
    have hX1 := f_X6_join_w F.l F.D F.cy F.nw S x sa pl la br h n u rd rk rt w fa so O V B hx jt ja jb hjt hja hjb (xs (6 * k + 2)) hc0 hc3 hw1
    rw [← et, ← ea, ← eb] at hX1
    have hX2 := f_X7_join_w F.l F.D F.cy F.nw A m ho C R V hM hV w hw3 hw jt ja jb hjt hja hjb (xs (6 * k + 2)) hc0 hc3 hw1
    rw [← et, ← ea, ← eb] at hX2
    refine h_aload_n Z dL_law_353 rfl ?_
    refine h_arg X 354 1 (by omega) (by decide) dL_law_354 dL_law_355 dL_law_356 dL_law_357 dL_law_358 ?_
    refine h_arg X 359 2 (by omega) (by decide) dL_law_359 dL_law_360 dL_law_361 dL_law_362 dL_law_363 ?_
    refine h_arg X 364 3 (by omega) (by decide) dL_law_364 dL_law_365 dL_law_366 dL_law_367 dL_law_368 ?_
    refine h_arg X 369 4 (by omega) (by decide) dL_law_369 dL_law_370 dL_law_371 dL_law_372 dL_law_373 ?_
    refine h_xI Z (hX1) 4 gL_law_X6_join rfl (by decide +kernel) (by rw [hRf, hRl]; decide) hx.1.1.1 (κ := 5) hx.1.1.2.1 rfl (by decide) rfl rfl (Nat.le_of_ble_eq_true rfl) dL_law_374 (by rw [hRc, hRs]; omega) (fun r T hp => ?_)
    refine h_pop Z dL_law_377 rfl ?_
    refine h_aload_n Z dL_law_378 rfl ?_
    refine h_arg X 379 1 (by omega) (by decide) dL_law_379 dL_law_380 dL_law_381 dL_law_382 dL_law_383 ?_
    refine h_arg X 384 2 (by omega) (by decide) dL_law_384 dL_law_385 dL_law_386 dL_law_387 dL_law_388 ?_
    refine h_arg X 389 3 (by omega) (by decide) dL_law_389 dL_law_390 dL_law_391 dL_law_392 dL_law_393 ?_
    refine h_arg X 394 4 (by omega) (by decide) dL_law_394 dL_law_395 dL_law_396 dL_law_397 dL_law_398 ?_
    refine h_mI Z (hX2) 4 gL_law_X7_join rfl (by decide +kernel) (by rw [hRf, hRl]; decide) mP_x (κ := 6) mP_Kx rfl (by decide) rfl rfl (Nat.le_of_ble_eq_true rfl) dL_law_399 (by clear hp; rw [hRc, hRs]; omega) (fun r2 T2 hp2 => ?_)
    refine h_pop Z dL_law_402 rfl ?_
    refine h_goto Z 984 dL_law_403 (by decide) ?_
    obtain ⟨O2, V2, hx2, hr⟩ := hp
    obtain ⟨E, V3, rfl, hM2, hr2⟩ := hp2
    rcases hr with ⟨W, h3, h4, h5⟩ | ⟨h3, h4, h5⟩ <;> rcases hr2 with ⟨W2, k3, k4, k5⟩ | ⟨k3, k4, k5⟩
    · rw [h3] at k3; obtain rfl := Option.some.inj k3
      subst k5
      exact h_widen (by omega) (by omega) (nx T _ (w - 1) g ⟨sa, pl, la, br, h, n, u, rd, rk, rt, fa, so, O2, V2, B, hx2, hg, A, E, _, ho, rfl, hM2.cg h5, hB, hfa, rfl⟩)
    · rw [h3] at k3; cases k3
    · rw [h3] at k3; cases k3
    · subst k5
      exact h_widen (by omega) (by omega) (nx T _ (w - 1) g ⟨sa, pl, la, br, h, n, u, rd, rk, rt, fa, so, O2, V2, B, hx2, hg, A, E, _, ho, rfl, hM2.cg h5, hB, hfa, rfl⟩)
  · skip
    refine h_aload_n Z dL_law_353 rfl ?_
    refine h_arg X 354 1 (by omega) (by decide) dL_law_354 dL_law_355 dL_law_356 dL_law_357 dL_law_358 ?_
    refine h_arg X 359 2 (by omega) (by decide) dL_law_359 dL_law_360 dL_law_361 dL_law_362 dL_law_363 ?_
    refine h_arg X 364 3 (by omega) (by decide) dL_law_364 dL_law_365 dL_law_366 dL_law_367 dL_law_368 ?_
    refine h_arg X 369 4 (by omega) (by decide) dL_law_369 dL_law_370 dL_law_371 dL_law_372 dL_law_373 ?_
    refine h_xI Z (f_X6_join_n F.l F.D F.cy F.nw S x sa pl la br h n u rd rk rt w fa so O V B hx _ _ _ _ hyp) 4 gL_law_X6_join rfl (by decide +kernel) (by rw [hRf, hRl]; decide) hx.1.1.1 (κ := 5) hx.1.1.2.1 rfl (by decide) rfl rfl (Nat.le_of_ble_eq_true rfl) dL_law_374 (by rw [hRc, hRs]; omega) (fun r T hp => ?_)
    refine h_pop Z dL_law_377 rfl ?_
    refine h_aload_n Z dL_law_378 rfl ?_
    refine h_arg X 379 1 (by omega) (by decide) dL_law_379 dL_law_380 dL_law_381 dL_law_382 dL_law_383 ?_
    refine h_arg X 384 2 (by omega) (by decide) dL_law_384 dL_law_385 dL_law_386 dL_law_387 dL_law_388 ?_
    refine h_arg X 389 3 (by omega) (by decide) dL_law_389 dL_law_390 dL_law_391 dL_law_392 dL_law_393 ?_
    refine h_arg X 394 4 (by omega) (by decide) dL_law_394 dL_law_395 dL_law_396 dL_law_397 dL_law_398 ?_
    refine h_mI Z (f_X7_join_n F.l F.D F.cy F.nw A m ho C R w hw3 hw _ _ _ _ hyp) 4 gL_law_X7_join rfl (by decide +kernel) (by rw [hRf, hRl]; decide) mP_x (κ := 6) mP_Kx rfl (by decide) rfl rfl (Nat.le_of_ble_eq_true rfl) dL_law_399 (by clear hp; rw [hRc, hRs]; omega) (fun r2 T2 hp2 => ?_)
    refine h_pop Z dL_law_402 rfl ?_
    refine h_goto Z 984 dL_law_403 (by decide) ?_
    obtain ⟨rfl, er⟩ := hp
    obtain ⟨rfl, er2⟩ := hp2
    exact h_widen (by omega) (by omega) (nx S _ w g ⟨sa, pl, la, br, h, n, u, rd, rk, rt, fa, so, O, V, B, hx, hg, A, C, R, ho, rfl, hM, hB, hfa, hw⟩)

set_option maxRecDepth 100000 in
set_option maxHeartbeats 2000000 in
/-- shrink -/
theorem lw_shrink {F : Fx} {Q : State → Prop} {b L x m k w g : Nat} {xs : Nat → Int32} {S M : PS} (X : LX F b L xs) (hk : 6 * k + 6 ≤ L) (hI : LJ F.nw x m w g S M) (nx : ∀ (S2 M2 : PS) (w2 g2 : Nat), LJ F.nw x m w2 g2 S2 M2 → G2 F 4 S2 M2 (200 + (k + 1) + 12 * (300 - w2) + g2) (170000 + 1024 * (k + 1) + 12288 * (300 - w2) + 60000 * g2) Q 984 (lvL b x m (6 * k)) []) : G2 F 4 S M (200 + k + 12 * (300 - w) + g) (170000 + 1024 * k + 12288 * (300 - w) + 60000 * g) Q 406 (lvL b x m (6 * k)) [] := by
  obtain ⟨Z, -, -, -, hL, hRf, hRc, hRs, hRl⟩ := id X
  obtain ⟨sa, pl, la, br, h, n, u, rd, rk, rt, fa, so, O, V, B, hx, hg, A, C, R, ho, rfl, hM, hB, hfa, hw⟩ := hI
  have hw3 : w ≤ 300 := hx.1.1.2.2.2.2.2.2.2.2.2
  have hV := hx.2.2
  refine h_aload_n Z dL_law_406 rfl ?_
  refine h_arg X 407 1 (by omega) (by decide) dL_law_407 dL_law_408 dL_law_409 dL_law_410 dL_law_411 ?_
  refine h_xI Z (f_X6_shrink F.l F.D F.cy F.nw S x sa pl la br h n u rd rk rt w fa so O V B hx _) 1 gL_law_X6_shrink rfl (by decide +kernel) (by rw [hRf, hRl]; decide) hx.1.1.1 (κ := 5) hx.1.1.2.1 rfl (by decide) rfl rfl (Nat.le_of_ble_eq_true rfl) dL_law_412 (by rw [hRc, hRs]; omega) (fun r T hp => ?_)
  refine h_pop Z dL_law_415 rfl ?_
  refine h_aload_n Z dL_law_416 rfl ?_
  refine h_arg X 417 1 (by omega) (by decide) dL_law_417 dL_law_418 dL_law_419 dL_law_420 dL_law_421 ?_
  refine h_mI Z (f_X7_shrink F.l F.D F.cy F.nw A m ho C R V hM hV w hw3 hw _) 1 gL_law_X7_shrink rfl (by decide +kernel) (by rw [hRf, hRl]; decide) mP_x (κ := 6) mP_Kx rfl (by decide) rfl rfl (Nat.le_of_ble_eq_true rfl) dL_law_422 (by clear hp; rw [hRc, hRs]; omega) (fun r2 T2 hp2 => ?_)
  refine h_pop Z dL_law_425 rfl ?_
  refine h_goto Z 984 dL_law_426 (by decide) ?_
  rcases hp with ⟨j, hj, ej, hw1, er, O2, hx2⟩ | ⟨hno, rfl, er⟩ <;> rcases hp2 with ⟨j2, hj2, ej2, hw2, er2, E, rfl, hM2⟩ | ⟨hno2, rfl, er2⟩
  · have e1 := s_eq (ej.symm.trans ej2) (by omega) (by omega)
    subst e1
    exact h_widen (by omega) (by omega) (nx T _ (w - 1) g ⟨sa, pl, la, br, h, n, u, rd, rk, rt, fa, so, O2, _, B, hx2, hg, A, E, _, ho, rfl, hM2, hB, hfa, rfl⟩)
  · exact absurd ⟨⟨j, hj, ej⟩, hw1⟩ hno2
  · exact absurd ⟨⟨j2, hj2, ej2⟩, hw2⟩ hno
  · exact h_widen (by omega) (by omega) (nx S _ w g ⟨sa, pl, la, br, h, n, u, rd, rk, rt, fa, so, O, V, B, hx, hg, A, C, R, ho, rfl, hM, hB, hfa, hw⟩)

set_option maxRecDepth 100000 in
set_option maxHeartbeats 2000000 in
/-- formula -/
theorem lw_formula {F : Fx} {Q : State → Prop} {b L x m k w g : Nat} {xs : Nat → Int32} {S M : PS} (X : LX F b L xs) (hk : 6 * k + 6 ≤ L) (hI : LJ F.nw x m w g S M) (nx : ∀ (S2 M2 : PS) (w2 g2 : Nat), LJ F.nw x m w2 g2 S2 M2 → G2 F 4 S2 M2 (200 + (k + 1) + 12 * (300 - w2) + g2) (170000 + 1024 * (k + 1) + 12288 * (300 - w2) + 60000 * g2) Q 984 (lvL b x m (6 * k)) []) : G2 F 4 S M (200 + k + 12 * (300 - w) + g) (170000 + 1024 * k + 12288 * (300 - w) + 60000 * g) Q 429 (lvL b x m (6 * k)) [] := by
  obtain ⟨Z, -, -, -, hL, hRf, hRc, hRs, hRl⟩ := id X
  obtain ⟨sa, pl, la, br, h, n, u, rd, rk, rt, fa, so, O, V, B, hx, hg, A, C, R, ho, rfl, hM, hB, hfa, hw⟩ := hI
  have hw3 : w ≤ 300 := hx.1.1.2.2.2.2.2.2.2.2.2
  have hV := hx.2.2
  by_cases hyp : isS (xs (6 * k + 1)) ∧ ∃ q : Nat, 1 ≤ q ∧ q ≤ 8 ∧ (xs (6 * k + 4)) = nI q ∧ hts (lgp (xs (6 * k + 2)) (xs (6 * k + (2 + 1)))) q = some 1 ∧ q ≤ w
  · obtain ⟨⟨jt, hjt, et⟩, q, hq1, hq8, eq, hhq, hqw⟩ := id hyp
    have hX1 := f_X6_formula_w F.l F.D F.cy F.nw S x sa pl la br h n u rd rk rt w fa so O V B hx jt hjt (lgp (xs (6 * k + 2)) (xs (6 * k + (2 + 1)))) q hq1 hq8 hhq hqw
    rw [← et, ← eq] at hX1
    have hX2 := f_X7_formula_w F.l F.D F.cy F.nw A m ho C R V hM hV w hw3 hw jt hjt (lgp (xs (6 * k + 2)) (xs (6 * k + (2 + 1)))) q hq1 hq8 hhq hqw
    rw [← et, ← eq] at hX2
    refine h_aload_n Z dL_law_429 rfl ?_
    refine h_arg X 430 1 (by omega) (by decide) dL_law_430 dL_law_431 dL_law_432 dL_law_433 dL_law_434 ?_
    refine h_lng X 435 2 (by omega) (by decide) (by decide) dL_law_435 dL_law_436 dL_law_437 dL_law_438 dL_law_439 dL_law_440 dL_law_441 dL_law_443 dL_law_444 dL_law_445 dL_law_446 dL_law_447 dL_law_448 dL_law_449 dL_law_450 dL_law_453 dL_law_454 ?_
    refine h_arg X 455 4 (by omega) (by decide) dL_law_455 dL_law_456 dL_law_457 dL_law_458 dL_law_459 ?_
    refine h_xI Z (hX1) 3 gL_law_X6_formula rfl (by decide +kernel) (by rw [hRf, hRl]; decide) hx.1.1.1 (κ := 5) hx.1.1.2.1 rfl (by decide) rfl rfl (Nat.le_of_ble_eq_true rfl) dL_law_460 (by rw [hRc, hRs]; omega) (fun r T hp => ?_)
    refine h_pop Z dL_law_463 rfl ?_
    refine h_aload_n Z dL_law_464 rfl ?_
    refine h_arg X 465 1 (by omega) (by decide) dL_law_465 dL_law_466 dL_law_467 dL_law_468 dL_law_469 ?_
    refine h_lng X 470 2 (by omega) (by decide) (by decide) dL_law_470 dL_law_471 dL_law_472 dL_law_473 dL_law_474 dL_law_475 dL_law_476 dL_law_478 dL_law_479 dL_law_480 dL_law_481 dL_law_482 dL_law_483 dL_law_484 dL_law_485 dL_law_488 dL_law_489 ?_
    refine h_arg X 490 4 (by omega) (by decide) dL_law_490 dL_law_491 dL_law_492 dL_law_493 dL_law_494 ?_
    refine h_mI Z (hX2) 3 gL_law_X7_formula rfl (by decide +kernel) (by rw [hRf, hRl]; decide) mP_x (κ := 6) mP_Kx rfl (by decide) rfl rfl (Nat.le_of_ble_eq_true rfl) dL_law_495 (by clear hp; rw [hRc, hRs]; omega) (fun r2 T2 hp2 => ?_)
    refine h_pop Z dL_law_498 rfl ?_
    refine h_goto Z 984 dL_law_499 (by decide) ?_
    obtain ⟨O2, V2, hx2, hr⟩ := hp
    obtain ⟨E, V3, rfl, hM2, hr2⟩ := hp2
    rcases hr with ⟨W, h3, h4, h5⟩ | ⟨h3, h4, h5⟩ <;> rcases hr2 with ⟨W2, k3, k4, k5⟩ | ⟨k3, k4, k5⟩
    · rw [h3] at k3; obtain rfl := Option.some.inj k3
      subst k5
      exact h_widen (by omega) (by omega) (nx T _ (w - q) g ⟨sa, pl, la, br, h, n, u, rd, rk, rt, fa, so, O2, V2, B, hx2, hg, A, E, _, ho, rfl, hM2.cg h5, hB, hfa, rfl⟩)
    · rw [h3] at k3; cases k3
    · rw [h3] at k3; cases k3
    · subst k5
      exact h_widen (by omega) (by omega) (nx T _ (w - q) g ⟨sa, pl, la, br, h, n, u, rd, rk, rt, fa, so, O2, V2, B, hx2, hg, A, E, _, ho, rfl, hM2.cg h5, hB, hfa, rfl⟩)
  · skip
    refine h_aload_n Z dL_law_429 rfl ?_
    refine h_arg X 430 1 (by omega) (by decide) dL_law_430 dL_law_431 dL_law_432 dL_law_433 dL_law_434 ?_
    refine h_lng X 435 2 (by omega) (by decide) (by decide) dL_law_435 dL_law_436 dL_law_437 dL_law_438 dL_law_439 dL_law_440 dL_law_441 dL_law_443 dL_law_444 dL_law_445 dL_law_446 dL_law_447 dL_law_448 dL_law_449 dL_law_450 dL_law_453 dL_law_454 ?_
    refine h_arg X 455 4 (by omega) (by decide) dL_law_455 dL_law_456 dL_law_457 dL_law_458 dL_law_459 ?_
    refine h_xI Z (f_X6_formula_n F.l F.D F.cy F.nw S x sa pl la br h n u rd rk rt w fa so O V B hx _ _ _ hyp) 3 gL_law_X6_formula rfl (by decide +kernel) (by rw [hRf, hRl]; decide) hx.1.1.1 (κ := 5) hx.1.1.2.1 rfl (by decide) rfl rfl (Nat.le_of_ble_eq_true rfl) dL_law_460 (by rw [hRc, hRs]; omega) (fun r T hp => ?_)
    refine h_pop Z dL_law_463 rfl ?_
    refine h_aload_n Z dL_law_464 rfl ?_
    refine h_arg X 465 1 (by omega) (by decide) dL_law_465 dL_law_466 dL_law_467 dL_law_468 dL_law_469 ?_
    refine h_lng X 470 2 (by omega) (by decide) (by decide) dL_law_470 dL_law_471 dL_law_472 dL_law_473 dL_law_474 dL_law_475 dL_law_476 dL_law_478 dL_law_479 dL_law_480 dL_law_481 dL_law_482 dL_law_483 dL_law_484 dL_law_485 dL_law_488 dL_law_489 ?_
    refine h_arg X 490 4 (by omega) (by decide) dL_law_490 dL_law_491 dL_law_492 dL_law_493 dL_law_494 ?_
    refine h_mI Z (f_X7_formula_n F.l F.D F.cy F.nw A m ho C R w hw3 hw _ _ _ hyp) 3 gL_law_X7_formula rfl (by decide +kernel) (by rw [hRf, hRl]; decide) mP_x (κ := 6) mP_Kx rfl (by decide) rfl rfl (Nat.le_of_ble_eq_true rfl) dL_law_495 (by clear hp; rw [hRc, hRs]; omega) (fun r2 T2 hp2 => ?_)
    refine h_pop Z dL_law_498 rfl ?_
    refine h_goto Z 984 dL_law_499 (by decide) ?_
    obtain ⟨rfl, er⟩ := hp
    obtain ⟨rfl, er2⟩ := hp2
    exact h_widen (by omega) (by omega) (nx S _ w g ⟨sa, pl, la, br, h, n, u, rd, rk, rt, fa, so, O, V, B, hx, hg, A, C, R, ho, rfl, hM, hB, hfa, hw⟩)

set_option maxRecDepth 100000 in
set_option maxHeartbeats 2000000 in
/-- has -/
theorem lw_has {F : Fx} {Q : State → Prop} {b L x m k w g : Nat} {xs : Nat → Int32} {S M : PS} (X : LX F b L xs) (hk : 6 * k + 6 ≤ L) (hI : LJ F.nw x m w g S M) (nx : ∀ (S2 M2 : PS) (w2 g2 : Nat), LJ F.nw x m w2 g2 S2 M2 → G2 F 4 S2 M2 (200 + (k + 1) + 12 * (300 - w2) + g2) (170000 + 1024 * (k + 1) + 12288 * (300 - w2) + 60000 * g2) Q 984 (lvL b x m (6 * k)) []) : G2 F 4 S M (200 + k + 12 * (300 - w) + g) (170000 + 1024 * k + 12288 * (300 - w) + 60000 * g) Q 502 (lvL b x m (6 * k)) [] := by
  obtain ⟨Z, -, -, -, hL, hRf, hRc, hRs, hRl⟩ := id X
  obtain ⟨sa, pl, la, br, h, n, u, rd, rk, rt, fa, so, O, V, B, hx, hg, A, C, R, ho, rfl, hM, hB, hfa, hw⟩ := hI
  have hw3 : w ≤ 300 := hx.1.1.2.2.2.2.2.2.2.2.2
  have hV := hx.2.2
  refine h_aload_n Z dL_law_502 rfl ?_
  refine h_arg X 503 1 (by omega) (by decide) dL_law_503 dL_law_504 dL_law_505 dL_law_506 dL_law_507 ?_
  refine h_arg X 508 2 (by omega) (by decide) dL_law_508 dL_law_509 dL_law_510 dL_law_511 dL_law_512 ?_
  refine h_xI Z (s_X6_has F.l F.D F.cy F.nw S x sa pl la br h n u rd rk rt w fa so O V B hx _ _) 2 gL_law_X6_has rfl (by decide +kernel) (by rw [hRf, hRl]; decide) hx.1.1.1 (κ := 5) hx.1.1.2.1 rfl (by decide) rfl rfl (Nat.le_of_ble_eq_true rfl) dL_law_513 (by rw [hRc, hRs]; omega) (fun r T hp => ?_)
  refine h_pop Z dL_law_516 rfl ?_
  refine h_aload_n Z dL_law_517 rfl ?_
  refine h_arg X 518 1 (by omega) (by decide) dL_law_518 dL_law_519 dL_law_520 dL_law_521 dL_law_522 ?_
  refine h_arg X 523 2 (by omega) (by decide) dL_law_523 dL_law_524 dL_law_525 dL_law_526 dL_law_527 ?_
  refine h_mI Z (s_X7_has F.l F.D F.cy F.nw A m ho C R hM.inv _ _) 2 gL_law_X7_has rfl (by decide +kernel) (by rw [hRf, hRl]; decide) mP_x (κ := 6) mP_Kx rfl (by decide) rfl rfl (Nat.le_of_ble_eq_true rfl) dL_law_528 (by clear hp; rw [hRc, hRs]; omega) (fun r2 T2 hp2 => ?_)
  refine h_pop Z dL_law_531 rfl ?_
  refine h_goto Z 984 dL_law_532 (by decide) ?_
  subst hp
  subst hp2
  exact h_widen (by omega) (by omega) (nx S _ w g ⟨sa, pl, la, br, h, n, u, rd, rk, rt, fa, so, O, V, B, hx, hg, A, C, R, ho, rfl, hM, hB, hfa, hw⟩)

set_option maxRecDepth 100000 in
set_option maxHeartbeats 2000000 in
/-- rank -/
theorem lw_rank {F : Fx} {Q : State → Prop} {b L x m k w g : Nat} {xs : Nat → Int32} {S M : PS} (X : LX F b L xs) (hk : 6 * k + 6 ≤ L) (hI : LJ F.nw x m w g S M) (nx : ∀ (S2 M2 : PS) (w2 g2 : Nat), LJ F.nw x m w2 g2 S2 M2 → G2 F 4 S2 M2 (200 + (k + 1) + 12 * (300 - w2) + g2) (170000 + 1024 * (k + 1) + 12288 * (300 - w2) + 60000 * g2) Q 984 (lvL b x m (6 * k)) []) : G2 F 4 S M (200 + k + 12 * (300 - w) + g) (170000 + 1024 * k + 12288 * (300 - w) + 60000 * g) Q 535 (lvL b x m (6 * k)) [] := by
  obtain ⟨Z, -, -, -, hL, hRf, hRc, hRs, hRl⟩ := id X
  obtain ⟨sa, pl, la, br, h, n, u, rd, rk, rt, fa, so, O, V, B, hx, hg, A, C, R, ho, rfl, hM, hB, hfa, hw⟩ := hI
  have hw3 : w ≤ 300 := hx.1.1.2.2.2.2.2.2.2.2.2
  have hV := hx.2.2
  refine h_aload_n Z dL_law_535 rfl ?_
  refine h_arg X 536 1 (by omega) (by decide) dL_law_536 dL_law_537 dL_law_538 dL_law_539 dL_law_540 ?_
  refine h_arg X 541 2 (by omega) (by decide) dL_law_541 dL_law_542 dL_law_543 dL_law_544 dL_law_545 ?_
  refine h_xI Z (s_X6_rank F.l F.D F.cy F.nw S x sa pl la br h n u rd rk rt w fa so O V B hx _ _) 2 gL_law_X6_rank rfl (by decide +kernel) (by rw [hRf, hRl]; decide) hx.1.1.1 (κ := 5) hx.1.1.2.1 rfl (by decide) rfl rfl (Nat.le_of_ble_eq_true rfl) dL_law_546 (by rw [hRc, hRs]; omega) (fun r T hp => ?_)
  refine h_pop Z dL_law_549 rfl ?_
  refine h_aload_n Z dL_law_550 rfl ?_
  refine h_arg X 551 1 (by omega) (by decide) dL_law_551 dL_law_552 dL_law_553 dL_law_554 dL_law_555 ?_
  refine h_arg X 556 2 (by omega) (by decide) dL_law_556 dL_law_557 dL_law_558 dL_law_559 dL_law_560 ?_
  refine h_mI Z (s_X7_rank F.l F.D F.cy F.nw A m ho C R hM.inv _ _) 2 gL_law_X7_rank rfl (by decide +kernel) (by rw [hRf, hRl]; decide) mP_x (κ := 6) mP_Kx rfl (by decide) rfl rfl (Nat.le_of_ble_eq_true rfl) dL_law_561 (by clear hp; rw [hRc, hRs]; omega) (fun r2 T2 hp2 => ?_)
  refine h_pop Z dL_law_564 rfl ?_
  refine h_goto Z 984 dL_law_565 (by decide) ?_
  subst hp
  subst hp2
  exact h_widen (by omega) (by omega) (nx S _ w g ⟨sa, pl, la, br, h, n, u, rd, rk, rt, fa, so, O, V, B, hx, hg, A, C, R, ho, rfl, hM, hB, hfa, hw⟩)

set_option maxRecDepth 100000 in
set_option maxHeartbeats 2000000 in
/-- select -/
theorem lw_select {F : Fx} {Q : State → Prop} {b L x m k w g : Nat} {xs : Nat → Int32} {S M : PS} (X : LX F b L xs) (hk : 6 * k + 6 ≤ L) (hI : LJ F.nw x m w g S M) (nx : ∀ (S2 M2 : PS) (w2 g2 : Nat), LJ F.nw x m w2 g2 S2 M2 → G2 F 4 S2 M2 (200 + (k + 1) + 12 * (300 - w2) + g2) (170000 + 1024 * (k + 1) + 12288 * (300 - w2) + 60000 * g2) Q 984 (lvL b x m (6 * k)) []) : G2 F 4 S M (200 + k + 12 * (300 - w) + g) (170000 + 1024 * k + 12288 * (300 - w) + 60000 * g) Q 568 (lvL b x m (6 * k)) [] := by
  obtain ⟨Z, -, -, -, hL, hRf, hRc, hRs, hRl⟩ := id X
  obtain ⟨sa, pl, la, br, h, n, u, rd, rk, rt, fa, so, O, V, B, hx, hg, A, C, R, ho, rfl, hM, hB, hfa, hw⟩ := hI
  have hw3 : w ≤ 300 := hx.1.1.2.2.2.2.2.2.2.2.2
  have hV := hx.2.2
  refine h_aload_n Z dL_law_568 rfl ?_
  refine h_arg X 569 1 (by omega) (by decide) dL_law_569 dL_law_570 dL_law_571 dL_law_572 dL_law_573 ?_
  refine h_arg X 574 2 (by omega) (by decide) dL_law_574 dL_law_575 dL_law_576 dL_law_577 dL_law_578 ?_
  refine h_xL Z (s_X6_select F.l F.D F.cy F.nw S x sa pl la br h n u rd rk rt w fa so O V B hx _ _) 2 gL_law_X6_select rfl (by decide +kernel) (by rw [hRf, hRl]; decide) hx.1.1.1 (κ := 5) hx.1.1.2.1 rfl (by decide) rfl rfl (Nat.le_of_ble_eq_true rfl) dL_law_579 (by rw [hRc, hRs]; omega) (fun r T hp => ?_)
  refine h_pop2 Z dL_law_582 rfl ?_
  refine h_aload_n Z dL_law_583 rfl ?_
  refine h_arg X 584 1 (by omega) (by decide) dL_law_584 dL_law_585 dL_law_586 dL_law_587 dL_law_588 ?_
  refine h_arg X 589 2 (by omega) (by decide) dL_law_589 dL_law_590 dL_law_591 dL_law_592 dL_law_593 ?_
  refine h_mL Z (s_X7_select F.l F.D F.cy F.nw A m ho C R hM.inv _ _) 2 gL_law_X7_select rfl (by decide +kernel) (by rw [hRf, hRl]; decide) mP_x (κ := 6) mP_Kx rfl (by decide) rfl rfl (Nat.le_of_ble_eq_true rfl) dL_law_594 (by clear hp; rw [hRc, hRs]; omega) (fun r2 T2 hp2 => ?_)
  refine h_pop2 Z dL_law_597 rfl ?_
  refine h_goto Z 984 dL_law_598 (by decide) ?_
  subst hp
  subst hp2
  exact h_widen (by omega) (by omega) (nx S _ w g ⟨sa, pl, la, br, h, n, u, rd, rk, rt, fa, so, O, V, B, hx, hg, A, C, R, ho, rfl, hM, hB, hfa, hw⟩)

set_option maxRecDepth 100000 in
set_option maxHeartbeats 2000000 in
/-- next -/
theorem lw_next {F : Fx} {Q : State → Prop} {b L x m k w g : Nat} {xs : Nat → Int32} {S M : PS} (X : LX F b L xs) (hk : 6 * k + 6 ≤ L) (hI : LJ F.nw x m w g S M) (nx : ∀ (S2 M2 : PS) (w2 g2 : Nat), LJ F.nw x m w2 g2 S2 M2 → G2 F 4 S2 M2 (200 + (k + 1) + 12 * (300 - w2) + g2) (170000 + 1024 * (k + 1) + 12288 * (300 - w2) + 60000 * g2) Q 984 (lvL b x m (6 * k)) []) : G2 F 4 S M (200 + k + 12 * (300 - w) + g) (170000 + 1024 * k + 12288 * (300 - w) + 60000 * g) Q 601 (lvL b x m (6 * k)) [] := by
  obtain ⟨Z, -, -, -, hL, hRf, hRc, hRs, hRl⟩ := id X
  obtain ⟨sa, pl, la, br, h, n, u, rd, rk, rt, fa, so, O, V, B, hx, hg, A, C, R, ho, rfl, hM, hB, hfa, hw⟩ := hI
  have hw3 : w ≤ 300 := hx.1.1.2.2.2.2.2.2.2.2.2
  have hV := hx.2.2
  refine h_aload_n Z dL_law_601 rfl ?_
  refine h_arg X 602 1 (by omega) (by decide) dL_law_602 dL_law_603 dL_law_604 dL_law_605 dL_law_606 ?_
  refine h_arg X 607 2 (by omega) (by decide) dL_law_607 dL_law_608 dL_law_609 dL_law_610 dL_law_611 ?_
  refine h_xL Z (s_X6_next F.l F.D F.cy F.nw S x sa pl la br h n u rd rk rt w fa so O V B hx _ _) 2 gL_law_X6_next rfl (by decide +kernel) (by rw [hRf, hRl]; decide) hx.1.1.1 (κ := 5) hx.1.1.2.1 rfl (by decide) rfl rfl (Nat.le_of_ble_eq_true rfl) dL_law_612 (by rw [hRc, hRs]; omega) (fun r T hp => ?_)
  refine h_pop2 Z dL_law_615 rfl ?_
  refine h_aload_n Z dL_law_616 rfl ?_
  refine h_arg X 617 1 (by omega) (by decide) dL_law_617 dL_law_618 dL_law_619 dL_law_620 dL_law_621 ?_
  refine h_arg X 622 2 (by omega) (by decide) dL_law_622 dL_law_623 dL_law_624 dL_law_625 dL_law_626 ?_
  refine h_mL Z (s_X7_next F.l F.D F.cy F.nw A m ho C R hM.inv _ _) 2 gL_law_X7_next rfl (by decide +kernel) (by rw [hRf, hRl]; decide) mP_x (κ := 6) mP_Kx rfl (by decide) rfl rfl (Nat.le_of_ble_eq_true rfl) dL_law_627 (by clear hp; rw [hRc, hRs]; omega) (fun r2 T2 hp2 => ?_)
  refine h_pop2 Z dL_law_630 rfl ?_
  refine h_goto Z 984 dL_law_631 (by decide) ?_
  subst hp
  subst hp2
  exact h_widen (by omega) (by omega) (nx S _ w g ⟨sa, pl, la, br, h, n, u, rd, rk, rt, fa, so, O, V, B, hx, hg, A, C, R, ho, rfl, hM, hB, hfa, hw⟩)
