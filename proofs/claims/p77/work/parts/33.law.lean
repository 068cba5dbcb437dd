theorem kL_b352 {G : GT} {X : CT} {b L : Nat} {xs : Nat → Int32} (cx : Cx G X RL code 4 1000) (sx : SX X b L xs) (hE : ∀ (σ : St) (lv : List (Nat × Value)) (pc : Nat), decode code pc = .ok (.ireturn, 1) → WW G X 4 σ lv pc [.int 1]) {kr18 : St → Int32 → Option Int32} (hk18 : ∀ (σ : St) (x3 : Int32), kr18 σ x3 = some 1 → WW G X 4 σ [(0, .ref b), (1, .ref (gad G 0)), (2, .ref (gad G 62)), (3, .int x3)] 18 []) (σ : St) (x3 : Int32) (hF : fL_b352 L xs kr18 σ x3 = some 1) : WW G X 4 σ [(0, .ref b), (1, .ref (gad G 0)), (2, .ref (gad G 62)), (3, .int x3)] 352 [] := by
  unfold fL_b352 at hF
  refine ww_aload_n cx dL_law_352 rfl 1 rfl ?_
  refine ww_aload_n cx dL_law_353 rfl 0 rfl ?_
  refine ww_iload_n cx dL_law_354 rfl 3 rfl ?_
  refine ww_iconst cx dL_law_355 ic_1 ?_
  refine ww_iadd cx dL_law_356 ?_
  refine ww_sld cx sx dL_law_357 hF (fun hF => ?_)
  refine ww_aload_n cx dL_law_358 rfl 0 rfl ?_
  refine ww_iload_n cx dL_law_359 rfl 3 rfl ?_
  refine ww_iconst cx dL_law_360 ic_2 ?_
  refine ww_iadd cx dL_law_361 ?_
  refine ww_sld cx sx dL_law_362 hF (fun hF => ?_)
  refine ww_aload_n cx dL_law_363 rfl 0 rfl ?_
  refine ww_iload_n cx dL_law_364 rfl 3 rfl ?_
  refine ww_iconst cx dL_law_365 ic_3 ?_
  refine ww_iadd cx dL_law_366 ?_
  refine ww_sld cx sx dL_law_367 hF (fun hF => ?_)
  refine ww_aload_n cx dL_law_368 rfl 0 rfl ?_
  refine ww_iload_n cx dL_law_369 rfl 3 rfl ?_
  refine ww_iconst cx dL_law_370 ic_4 ?_
  refine ww_iadd cx dL_law_371 ?_
  refine ww_sld cx sx dL_law_372 hF (fun hF => ?_)
  refine ww_aload_n cx dL_law_373 rfl 0 rfl ?_
  refine ww_iload_n cx dL_law_374 rfl 3 rfl ?_
  refine ww_iconst cx dL_law_375 ic_5 ?_
  refine ww_iadd cx dL_law_376 ?_
  refine ww_sld cx sx dL_law_377 hF (fun hF => ?_)
  refine ww_V5_si kv_L_13 rfl cx sh_0 ⟨Nat.le_of_ble_eq_true rfl, Nat.le_of_ble_eq_true rfl⟩ (Nat.le_of_ble_eq_true rfl) dL_law_378 (kX7_feed G) hF (fun r1 σ2 hF => ?_)
  refine ww_pop cx dL_law_381 rfl ?_
  refine ww_aload_n cx dL_law_382 rfl 2 rfl ?_
  refine ww_aload_n cx dL_law_383 rfl 0 rfl ?_
  refine ww_iload_n cx dL_law_384 rfl 3 rfl ?_
  refine ww_iconst cx dL_law_385 ic_1 ?_
  refine ww_iadd cx dL_law_386 ?_
  refine ww_sld cx sx dL_law_387 hF (fun hF => ?_)
  refine ww_aload_n cx dL_law_388 rfl 0 rfl ?_
  refine ww_iload_n cx dL_law_389 rfl 3 rfl ?_
  refine ww_iconst cx dL_law_390 ic_2 ?_
  refine ww_iadd cx dL_law_391 ?_
  refine ww_sld cx sx dL_law_392 hF (fun hF => ?_)
  refine ww_aload_n cx dL_law_393 rfl 0 rfl ?_
  refine ww_iload_n cx dL_law_394 rfl 3 rfl ?_
  refine ww_iconst cx dL_law_395 ic_3 ?_
  refine ww_iadd cx dL_law_396 ?_
  refine ww_sld cx sx dL_law_397 hF (fun hF => ?_)
  refine ww_aload_n cx dL_law_398 rfl 0 rfl ?_
  refine ww_iload_n cx dL_law_399 rfl 3 rfl ?_
  refine ww_iconst cx dL_law_400 ic_4 ?_
  refine ww_iadd cx dL_law_401 ?_
  refine ww_sld cx sx dL_law_402 hF (fun hF => ?_)
  refine ww_aload_n cx dL_law_403 rfl 0 rfl ?_
  refine ww_iload_n cx dL_law_404 rfl 3 rfl ?_
  refine ww_iconst cx dL_law_405 ic_5 ?_
  refine ww_iadd cx dL_law_406 ?_
  refine ww_sld cx sx dL_law_407 hF (fun hF => ?_)
  refine ww_V5_si kv_L_17 rfl cx sh_62 ⟨Nat.le_of_ble_eq_true rfl, Nat.le_of_ble_eq_true rfl⟩ (Nat.le_of_ble_eq_true rfl) dL_law_408 (kX8_feed G) hF (fun r3 σ4 hF => ?_)
  refine ww_pop cx dL_law_411 rfl ?_
  refine ww_goto cx dL_law_412 (tgt := 2390) rfl ?_
  refine ww_iinc (j := 3) (ks := [0, 1, 2, 3]) (lv' := fun v5 => [(3, .int v5), (0, .ref b), (1, .ref (gad G 0)), (2, .ref (gad G 62))]) cx dL_law_2390 (by decide) rfl ic_6 hF (fun _ => rfl) (fun v5 hF => ?_)
  refine ww_goto cx dL_law_2393 (tgt := 18) rfl ?_
  exact ww_sub [1, 2, 3, 0] rfl (hk18 _ _ hF)
theorem kL_b415 {G : GT} {X : CT} {b L : Nat} {xs : Nat → Int32} (cx : Cx G X RL code 4 1000) (sx : SX X b L xs) (hE : ∀ (σ : St) (lv : List (Nat × Value)) (pc : Nat), decode code pc = .ok (.ireturn, 1) → WW G X 4 σ lv pc [.int 1]) {kr18 : St → Int32 → Option Int32} (hk18 : ∀ (σ : St) (x3 : Int32), kr18 σ x3 = some 1 → WW G X 4 σ [(0, .ref b), (1, .ref (gad G 0)), (2, .ref (gad G 62)), (3, .int x3)] 18 []) (σ : St) (x3 : Int32) (hF : fL_b415 L xs kr18 σ x3 = some 1) : WW G X 4 σ [(0, .ref b), (1, .ref (gad G 0)), (2, .ref (gad G 62)), (3, .int x3)] 415 [] := by
  unfold fL_b415 at hF
  refine ww_aload_n cx dL_law_415 rfl 1 rfl ?_
  refine ww_aload_n cx dL_law_416 rfl 0 rfl ?_
  refine ww_iload_n cx dL_law_417 rfl 3 rfl ?_
  refine ww_iconst cx dL_law_418 ic_1 ?_
  refine ww_iadd cx dL_law_419 ?_
  refine ww_sld cx sx dL_law_420 hF (fun hF => ?_)
  refine ww_V1_si kv_L_18 rfl cx sh_0 ⟨Nat.le_of_ble_eq_true rfl, Nat.le_of_ble_eq_true rfl⟩ (Nat.le_of_ble_eq_true rfl) dL_law_421 (kX7_end G) hF (fun r6 σ7 hF => ?_)
  refine ww_pop cx dL_law_424 rfl ?_
  refine ww_aload_n cx dL_law_425 rfl 2 rfl ?_
  refine ww_aload_n cx dL_law_426 rfl 0 rfl ?_
  refine ww_iload_n cx dL_law_427 rfl 3 rfl ?_
  refine ww_iconst cx dL_law_428 ic_1 ?_
  refine ww_iadd cx dL_law_429 ?_
  refine ww_sld cx sx dL_law_430 hF (fun hF => ?_)
  refine ww_V1_si kv_L_22 rfl cx sh_62 ⟨Nat.le_of_ble_eq_true rfl, Nat.le_of_ble_eq_true rfl⟩ (Nat.le_of_ble_eq_true rfl) dL_law_431 (kX8_end G) hF (fun r8 σ9 hF => ?_)
  refine ww_pop cx dL_law_434 rfl ?_
  refine ww_goto cx dL_law_435 (tgt := 2390) rfl ?_
  refine ww_iinc (j := 3) (ks := [0, 1, 2, 3]) (lv' := fun v10 => [(3, .int v10), (0, .ref b), (1, .ref (gad G 0)), (2, .ref (gad G 62))]) cx dL_law_2390 (by decide) rfl ic_6 hF (fun _ => rfl) (fun v10 hF => ?_)
  refine ww_goto cx dL_law_2393 (tgt := 18) rfl ?_
  exact ww_sub [1, 2, 3, 0] rfl (hk18 _ _ hF)
theorem kL_b438 {G : GT} {X : CT} {b L : Nat} {xs : Nat → Int32} (cx : Cx G X RL code 4 1000) (sx : SX X b L xs) (hE : ∀ (σ : St) (lv : List (Nat × Value)) (pc : Nat), decode code pc = .ok (.ireturn, 1) → WW G X 4 σ lv pc [.int 1]) {kr18 : St → Int32 → Option Int32} (hk18 : ∀ (σ : St) (x3 : Int32), kr18 σ x3 = some 1 → WW G X 4 σ [(0, .ref b), (1, .ref (gad G 0)), (2, .ref (gad G 62)), (3, .int x3)] 18 []) (σ : St) (x3 : Int32) (hF : fL_b438 L xs kr18 σ x3 = some 1) : WW G X 4 σ [(0, .ref b), (1, .ref (gad G 0)), (2, .ref (gad G 62)), (3, .int x3)] 438 [] := by
  unfold fL_b438 at hF
  refine ww_aload_n cx dL_law_438 rfl 1 rfl ?_
  refine ww_V0_si kv_L_23 rfl cx sh_0 ⟨Nat.le_of_ble_eq_true rfl, Nat.le_of_ble_eq_true rfl⟩ (Nat.le_of_ble_eq_true rfl) dL_law_439 (kX7_table G) hF (fun r11 σ12 hF => ?_)
  refine ww_pop cx dL_law_442 rfl ?_
  refine ww_aload_n cx dL_law_443 rfl 2 rfl ?_
  refine ww_V0_si kv_L_27 rfl cx sh_62 ⟨Nat.le_of_ble_eq_true rfl, Nat.le_of_ble_eq_true rfl⟩ (Nat.le_of_ble_eq_true rfl) dL_law_444 (kX8_table G) hF (fun r13 σ14 hF => ?_)
  refine ww_pop cx dL_law_447 rfl ?_
  refine ww_goto cx dL_law_448 (tgt := 2390) rfl ?_
  refine ww_iinc (j := 3) (ks := [0, 1, 2, 3]) (lv' := fun v15 => [(3, .int v15), (0, .ref b), (1, .ref (gad G 0)), (2, .ref (gad G 62))]) cx dL_law_2390 (by decide) rfl ic_6 hF (fun _ => rfl) (fun v15 hF => ?_)
  refine ww_goto cx dL_law_2393 (tgt := 18) rfl ?_
  exact ww_sub [1, 2, 3, 0] rfl (hk18 _ _ hF)
theorem kL_b451 {G : GT} {X : CT} {b L : Nat} {xs : Nat → Int32} (cx : Cx G X RL code 4 1000) (sx : SX X b L xs) (hE : ∀ (σ : St) (lv : List (Nat × Value)) (pc : Nat), decode code pc = .ok (.ireturn, 1) → WW G X 4 σ lv pc [.int 1]) {kr18 : St → Int32 → Option Int32} (hk18 : ∀ (σ : St) (x3 : Int32), kr18 σ x3 = some 1 → WW G X 4 σ [(0, .ref b), (1, .ref (gad G 0)), (2, .ref (gad G 62)), (3, .int x3)] 18 []) (σ : St) (x3 : Int32) (hF : fL_b451 L xs kr18 σ x3 = some 1) : WW G X 4 σ [(0, .ref b), (1, .ref (gad G 0)), (2, .ref (gad G 62)), (3, .int x3)] 451 [] := by
  unfold fL_b451 at hF
  refine ww_aload_n cx dL_law_451 rfl 1 rfl ?_
  refine ww_aload_n cx dL_law_452 rfl 0 rfl ?_
  refine ww_iload_n cx dL_law_453 rfl 3 rfl ?_
  refine ww_iconst cx dL_law_454 ic_1 ?_
  refine ww_iadd cx dL_law_455 ?_
  refine ww_sld cx sx dL_law_456 hF (fun hF => ?_)
  refine ww_V1_pi kv_L_28 rfl cx sh_0 ⟨Nat.le_of_ble_eq_true rfl, Nat.le_of_ble_eq_true rfl⟩ (Nat.le_of_ble_eq_true rfl) dL_law_457 (kX7_fault G) hF (fun r16 hF => ?_)
  refine ww_pop cx dL_law_460 rfl ?_
  refine ww_aload_n cx dL_law_461 rfl 2 rfl ?_
  refine ww_aload_n cx dL_law_462 rfl 0 rfl ?_
  refine ww_iload_n cx dL_law_463 rfl 3 rfl ?_
  refine ww_iconst cx dL_law_464 ic_1 ?_
  refine ww_iadd cx dL_law_465 ?_
  refine ww_sld cx sx dL_law_466 hF (fun hF => ?_)
  refine ww_V1_pi kv_L_31 rfl cx sh_62 ⟨Nat.le_of_ble_eq_true rfl, Nat.le_of_ble_eq_true rfl⟩ (Nat.le_of_ble_eq_true rfl) dL_law_467 (kX8_fault G) hF (fun r17 hF => ?_)
  refine ww_pop cx dL_law_470 rfl ?_
  refine ww_goto cx dL_law_471 (tgt := 2390) rfl ?_
  refine ww_iinc (j := 3) (ks := [0, 1, 2, 3]) (lv' := fun v18 => [(3, .int v18), (0, .ref b), (1, .ref (gad G 0)), (2, .ref (gad G 62))]) cx dL_law_2390 (by decide) rfl ic_6 hF (fun _ => rfl) (fun v18 hF => ?_)
  refine ww_goto cx dL_law_2393 (tgt := 18) rfl ?_
  exact ww_sub [1, 2, 3, 0] rfl (hk18 _ _ hF)
theorem kL_b474 {G : GT} {X : CT} {b L : Nat} {xs : Nat → Int32} (cx : Cx G X RL code 4 1000) (sx : SX X b L xs) (hE : ∀ (σ : St) (lv : List (Nat × Value)) (pc : Nat), decode code pc = .ok (.ireturn, 1) → WW G X 4 σ lv pc [.int 1]) {kr18 : St → Int32 → Option Int32} (hk18 : ∀ (σ : St) (x3 : Int32), kr18 σ x3 = some 1 → WW G X 4 σ [(0, .ref b), (1, .ref (gad G 0)), (2, .ref (gad G 62)), (3, .int x3)] 18 []) (σ : St) (x3 : Int32) (hF : fL_b474 L xs kr18 σ x3 = some 1) : WW G X 4 σ [(0, .ref b), (1, .ref (gad G 0)), (2, .ref (gad G 62)), (3, .int x3)] 474 [] := by
  unfold fL_b474 at hF
  refine ww_aload_n cx dL_law_474 rfl 1 rfl ?_
  refine ww_aload_n cx dL_law_475 rfl 0 rfl ?_
  refine ww_iload_n cx dL_law_476 rfl 3 rfl ?_
  refine ww_iconst cx dL_law_477 ic_1 ?_
  refine ww_iadd cx dL_law_478 ?_
  refine ww_sld cx sx dL_law_479 hF (fun hF => ?_)
  refine ww_aload_n cx dL_law_480 rfl 0 rfl ?_
  refine ww_iload_n cx dL_law_481 rfl 3 rfl ?_
  refine ww_iconst cx dL_law_482 ic_2 ?_
  refine ww_iadd cx dL_law_483 ?_
  refine ww_sld cx sx dL_law_484 hF (fun hF => ?_)
  refine ww_V2_pi kv_L_32 rfl cx sh_0 ⟨Nat.le_of_ble_eq_true rfl, Nat.le_of_ble_eq_true rfl⟩ (Nat.le_of_ble_eq_true rfl) dL_law_485 (kX7_claim G) hF (fun r19 hF => ?_)
  refine ww_pop cx dL_law_488 rfl ?_
  refine ww_aload_n cx dL_law_489 rfl 2 rfl ?_
  refine ww_aload_n cx dL_law_490 rfl 0 rfl ?_
  refine ww_iload_n cx dL_law_491 rfl 3 rfl ?_
  refine ww_iconst cx dL_law_492 ic_1 ?_
  refine ww_iadd cx dL_law_493 ?_
  refine ww_sld cx sx dL_law_494 hF (fun hF => ?_)
  refine ww_aload_n cx dL_law_495 rfl 0 rfl ?_
  refine ww_iload_n cx dL_law_496 rfl 3 rfl ?_
  refine ww_iconst cx dL_law_497 ic_2 ?_
  refine ww_iadd cx dL_law_498 ?_
  refine ww_sld cx sx dL_law_499 hF (fun hF => ?_)
  refine ww_V2_pi kv_L_36 rfl cx sh_62 ⟨Nat.le_of_ble_eq_true rfl, Nat.le_of_ble_eq_true rfl⟩ (Nat.le_of_ble_eq_true rfl) dL_law_500 (kX8_claim G) hF (fun r20 hF => ?_)
  refine ww_pop cx dL_law_503 rfl ?_
  refine ww_goto cx dL_law_504 (tgt := 2390) rfl ?_
  refine ww_iinc (j := 3) (ks := [0, 1, 2, 3]) (lv' := fun v21 => [(3, .int v21), (0, .ref b), (1, .ref (gad G 0)), (2, .ref (gad G 62))]) cx dL_law_2390 (by decide) rfl ic_6 hF (fun _ => rfl) (fun v21 hF => ?_)
  refine ww_goto cx dL_law_2393 (tgt := 18) rfl ?_
  exact ww_sub [1, 2, 3, 0] rfl (hk18 _ _ hF)
theorem kL_b507 {G : GT} {X : CT} {b L : Nat} {xs : Nat → Int32} (cx : Cx G X RL code 4 1000) (sx : SX X b L xs) (hE : ∀ (σ : St) (lv : List (Nat × Value)) (pc : Nat), decode code pc = .ok (.ireturn, 1) → WW G X 4 σ lv pc [.int 1]) {kr18 : St → Int32 → Option Int32} (hk18 : ∀ (σ : St) (x3 : Int32), kr18 σ x3 = some 1 → WW G X 4 σ [(0, .ref b), (1, .ref (gad G 0)), (2, .ref (gad G 62)), (3, .int x3)] 18 []) (σ : St) (x3 : Int32) (hF : fL_b507 L xs kr18 σ x3 = some 1) : WW G X 4 σ [(0, .ref b), (1, .ref (gad G 0)), (2, .ref (gad G 62)), (3, .int x3)] 507 [] := by
  unfold fL_b507 at hF
  refine ww_aload_n cx dL_law_507 rfl 1 rfl ?_
  refine ww_aload_n cx dL_law_508 rfl 0 rfl ?_
  refine ww_iload_n cx dL_law_509 rfl 3 rfl ?_
  refine ww_iconst cx dL_law_510 ic_1 ?_
  refine ww_iadd cx dL_law_511 ?_
  refine ww_sld cx sx dL_law_512 hF (fun hF => ?_)
  refine ww_V1_pi kv_L_37 rfl cx sh_0 ⟨Nat.le_of_ble_eq_true rfl, Nat.le_of_ble_eq_true rfl⟩ (Nat.le_of_ble_eq_true rfl) dL_law_513 (kX7_holds G) hF (fun r22 hF => ?_)
  refine ww_pop cx dL_law_516 rfl ?_
  refine ww_aload_n cx dL_law_517 rfl 2 rfl ?_
  refine ww_aload_n cx dL_law_518 rfl 0 rfl ?_
  refine ww_iload_n cx dL_law_519 rfl 3 rfl ?_
  refine ww_iconst cx dL_law_520 ic_1 ?_
  refine ww_iadd cx dL_law_521 ?_
  refine ww_sld cx sx dL_law_522 hF (fun hF => ?_)
  refine ww_V1_pi kv_L_40 rfl cx sh_62 ⟨Nat.le_of_ble_eq_true rfl, Nat.le_of_ble_eq_true rfl⟩ (Nat.le_of_ble_eq_true rfl) dL_law_523 (kX8_holds G) hF (fun r23 hF => ?_)
  refine ww_pop cx dL_law_526 rfl ?_
  refine ww_goto cx dL_law_527 (tgt := 2390) rfl ?_
  refine ww_iinc (j := 3) (ks := [0, 1, 2, 3]) (lv' := fun v24 => [(3, .int v24), (0, .ref b), (1, .ref (gad G 0)), (2, .ref (gad G 62))]) cx dL_law_2390 (by decide) rfl ic_6 hF (fun _ => rfl) (fun v24 hF => ?_)
  refine ww_goto cx dL_law_2393 (tgt := 18) rfl ?_
  exact ww_sub [1, 2, 3, 0] rfl (hk18 _ _ hF)
theorem kL_b530 {G : GT} {X : CT} {b L : Nat} {xs : Nat → Int32} (cx : Cx G X RL code 4 1000) (sx : SX X b L xs) (hE : ∀ (σ : St) (lv : List (Nat × Value)) (pc : Nat), decode code pc = .ok (.ireturn, 1) → WW G X 4 σ lv pc [.int 1]) {kr18 : St → Int32 → Option Int32} (hk18 : ∀ (σ : St) (x3 : Int32), kr18 σ x3 = some 1 → WW G X 4 σ [(0, .ref b), (1, .ref (gad G 0)), (2, .ref (gad G 62)), (3, .int x3)] 18 []) (σ : St) (x3 : Int32) (hF : fL_b530 L xs kr18 σ x3 = some 1) : WW G X 4 σ [(0, .ref b), (1, .ref (gad G 0)), (2, .ref (gad G 62)), (3, .int x3)] 530 [] := by
  unfold fL_b530 at hF
  refine ww_aload_n cx dL_law_530 rfl 1 rfl ?_
  refine ww_aload_n cx dL_law_531 rfl 0 rfl ?_
  refine ww_iload_n cx dL_law_532 rfl 3 rfl ?_
  refine ww_iconst cx dL_law_533 ic_1 ?_
  refine ww_iadd cx dL_law_534 ?_
  refine ww_sld cx sx dL_law_535 hF (fun hF => ?_)
  refine ww_aload_n cx dL_law_536 rfl 0 rfl ?_
  refine ww_iload_n cx dL_law_537 rfl 3 rfl ?_
  refine ww_iconst cx dL_law_538 ic_2 ?_
  refine ww_iadd cx dL_law_539 ?_
  refine ww_sld cx sx dL_law_540 hF (fun hF => ?_)
  refine ww_V2_pi kv_L_41 rfl cx sh_0 ⟨Nat.le_of_ble_eq_true rfl, Nat.le_of_ble_eq_true rfl⟩ (Nat.le_of_ble_eq_true rfl) dL_law_541 (kX7_step G) hF (fun r25 hF => ?_)
  refine ww_pop cx dL_law_544 rfl ?_
  refine ww_aload_n cx dL_law_545 rfl 2 rfl ?_
  refine ww_aload_n cx dL_law_546 rfl 0 rfl ?_
  refine ww_iload_n cx dL_law_547 rfl 3 rfl ?_
  refine ww_iconst cx dL_law_548 ic_1 ?_
  refine ww_iadd cx dL_law_549 ?_
  refine ww_sld cx sx dL_law_550 hF (fun hF => ?_)
  refine ww_aload_n cx dL_law_551 rfl 0 rfl ?_
  refine ww_iload_n cx dL_law_552 rfl 3 rfl ?_
  refine ww_iconst cx dL_law_553 ic_2 ?_
  refine ww_iadd cx dL_law_554 ?_
  refine ww_sld cx sx dL_law_555 hF (fun hF => ?_)
  refine ww_V2_pi kv_L_44 rfl cx sh_62 ⟨Nat.le_of_ble_eq_true rfl, Nat.le_of_ble_eq_true rfl⟩ (Nat.le_of_ble_eq_true rfl) dL_law_556 (kX8_step G) hF (fun r26 hF => ?_)
  refine ww_pop cx dL_law_559 rfl ?_
  refine ww_goto cx dL_law_560 (tgt := 2390) rfl ?_
  refine ww_iinc (j := 3) (ks := [0, 1, 2, 3]) (lv' := fun v27 => [(3, .int v27), (0, .ref b), (1, .ref (gad G 0)), (2, .ref (gad G 62))]) cx dL_law_2390 (by decide) rfl ic_6 hF (fun _ => rfl) (fun v27 hF => ?_)
  refine ww_goto cx dL_law_2393 (tgt := 18) rfl ?_
  exact ww_sub [1, 2, 3, 0] rfl (hk18 _ _ hF)
theorem kL_b563 {G : GT} {X : CT} {b L : Nat} {xs : Nat → Int32} (cx : Cx G X RL code 4 1000) (sx : SX X b L xs) (hE : ∀ (σ : St) (lv : List (Nat × Value)) (pc : Nat), decode code pc = .ok (.ireturn, 1) → WW G X 4 σ lv pc [.int 1]) {kr18 : St → Int32 → Option Int32} (hk18 : ∀ (σ : St) (x3 : Int32), kr18 σ x3 = some 1 → WW G X 4 σ [(0, .ref b), (1, .ref (gad G 0)), (2, .ref (gad G 62)), (3, .int x3)] 18 []) (σ : St) (x3 : Int32) (hF : fL_b563 L xs kr18 σ x3 = some 1) : WW G X 4 σ [(0, .ref b), (1, .ref (gad G 0)), (2, .ref (gad G 62)), (3, .int x3)] 563 [] := by
  unfold fL_b563 at hF
  refine ww_aload_n cx dL_law_563 rfl 1 rfl ?_
  refine ww_aload_n cx dL_law_564 rfl 0 rfl ?_
  refine ww_iload_n cx dL_law_565 rfl 3 rfl ?_
  refine ww_iconst cx dL_law_566 ic_1 ?_
  refine ww_iadd cx dL_law_567 ?_
  refine ww_sld cx sx dL_law_568 hF (fun hF => ?_)
  refine ww_aload_n cx dL_law_569 rfl 0 rfl ?_
  refine ww_iload_n cx dL_law_570 rfl 3 rfl ?_
  refine ww_iconst cx dL_law_571 ic_2 ?_
  refine ww_iadd cx dL_law_572 ?_
  refine ww_sld cx sx dL_law_573 hF (fun hF => ?_)
  refine ww_V2_pi kv_L_45 rfl cx sh_0 ⟨Nat.le_of_ble_eq_true rfl, Nat.le_of_ble_eq_true rfl⟩ (Nat.le_of_ble_eq_true rfl) dL_law_574 (kX7_guest G) hF (fun r28 hF => ?_)
  refine ww_pop cx dL_law_577 rfl ?_
  refine ww_aload_n cx dL_law_578 rfl 2 rfl ?_
  refine ww_aload_n cx dL_law_579 rfl 0 rfl ?_
  refine ww_iload_n cx dL_law_580 rfl 3 rfl ?_
  refine ww_iconst cx dL_law_581 ic_1 ?_
  refine ww_iadd cx dL_law_582 ?_
  refine ww_sld cx sx dL_law_583 hF (fun hF => ?_)
  refine ww_aload_n cx dL_law_584 rfl 0 rfl ?_
  refine ww_iload_n cx dL_law_585 rfl 3 rfl ?_
  refine ww_iconst cx dL_law_586 ic_2 ?_
  refine ww_iadd cx dL_law_587 ?_
  refine ww_sld cx sx dL_law_588 hF (fun hF => ?_)
  refine ww_V2_pi kv_L_48 rfl cx sh_62 ⟨Nat.le_of_ble_eq_true rfl, Nat.le_of_ble_eq_true rfl⟩ (Nat.le_of_ble_eq_true rfl) dL_law_589 (kX8_guest G) hF (fun r29 hF => ?_)
  refine ww_pop cx dL_law_592 rfl ?_
  refine ww_goto cx dL_law_593 (tgt := 2390) rfl ?_
  refine ww_iinc (j := 3) (ks := [0, 1, 2, 3]) (lv' := fun v30 => [(3, .int v30), (0, .ref b), (1, .ref (gad G 0)), (2, .ref (gad G 62))]) cx dL_law_2390 (by decide) rfl ic_6 hF (fun _ => rfl) (fun v30 hF => ?_)
  refine ww_goto cx dL_law_2393 (tgt := 18) rfl ?_
  exact ww_sub [1, 2, 3, 0] rfl (hk18 _ _ hF)
theorem kL_b596 {G : GT} {X : CT} {b L : Nat} {xs : Nat → Int32} (cx : Cx G X RL code 4 1000) (sx : SX X b L xs) (hE : ∀ (σ : St) (lv : List (Nat × Value)) (pc : Nat), decode code pc = .ok (.ireturn, 1) → WW G X 4 σ lv pc [.int 1]) {kr18 : St → Int32 → Option Int32} (hk18 : ∀ (σ : St) (x3 : Int32), kr18 σ x3 = some 1 → WW G X 4 σ [(0, .ref b), (1, .ref (gad G 0)), (2, .ref (gad G 62)), (3, .int x3)] 18 []) (σ : St) (x3 : Int32) (hF : fL_b596 L xs kr18 σ x3 = some 1) : WW G X 4 σ [(0, .ref b), (1, .ref (gad G 0)), (2, .ref (gad G 62)), (3, .int x3)] 596 [] := by
  unfold fL_b596 at hF
  refine ww_aload_n cx dL_law_596 rfl 1 rfl ?_
  refine ww_V0_pi kv_L_49 rfl cx sh_0 ⟨Nat.le_of_ble_eq_true rfl, Nat.le_of_ble_eq_true rfl⟩ (Nat.le_of_ble_eq_true rfl) dL_law_597 (kX7_salted G) hF (fun r31 hF => ?_)
  refine ww_pop cx dL_law_600 rfl ?_
  refine ww_aload_n cx dL_law_601 rfl 2 rfl ?_
  refine ww_V0_pi kv_L_52 rfl cx sh_62 ⟨Nat.le_of_ble_eq_true rfl, Nat.le_of_ble_eq_true rfl⟩ (Nat.le_of_ble_eq_true rfl) dL_law_602 (kX8_salted G) hF (fun r32 hF => ?_)
  refine ww_pop cx dL_law_605 rfl ?_
  refine ww_goto cx dL_law_606 (tgt := 2390) rfl ?_
  refine ww_iinc (j := 3) (ks := [0, 1, 2, 3]) (lv' := fun v33 => [(3, .int v33), (0, .ref b), (1, .ref (gad G 0)), (2, .ref (gad G 62))]) cx dL_law_2390 (by decide) rfl ic_6 hF (fun _ => rfl) (fun v33 hF => ?_)
  refine ww_goto cx dL_law_2393 (tgt := 18) rfl ?_
  exact ww_sub [1, 2, 3, 0] rfl (hk18 _ _ hF)
theorem kL_b609 {G : GT} {X : CT} {b L : Nat} {xs : Nat → Int32} (cx : Cx G X RL code 4 1000) (sx : SX X b L xs) (hE : ∀ (σ : St) (lv : List (Nat × Value)) (pc : Nat), decode code pc = .ok (.ireturn, 1) → WW G X 4 σ lv pc [.int 1]) {kr18 : St → Int32 → Option Int32} (hk18 : ∀ (σ : St) (x3 : Int32), kr18 σ x3 = some 1 → WW G X 4 σ [(0, .ref b), (1, .ref (gad G 0)), (2, .ref (gad G 62)), (3, .int x3)] 18 []) (σ : St) (x3 : Int32) (hF : fL_b609 L xs kr18 σ x3 = some 1) : WW G X 4 σ [(0, .ref b), (1, .ref (gad G 0)), (2, .ref (gad G 62)), (3, .int x3)] 609 [] := by
  unfold fL_b609 at hF
  refine ww_aload_n cx dL_law_609 rfl 1 rfl ?_
  refine ww_aload_n cx dL_law_610 rfl 0 rfl ?_
  refine ww_iload_n cx dL_law_611 rfl 3 rfl ?_
  refine ww_iconst cx dL_law_612 ic_1 ?_
  refine ww_iadd cx dL_law_613 ?_
  refine ww_sld cx sx dL_law_614 hF (fun hF => ?_)
  refine ww_V1_pi kv_L_53 rfl cx sh_0 ⟨Nat.le_of_ble_eq_true rfl, Nat.le_of_ble_eq_true rfl⟩ (Nat.le_of_ble_eq_true rfl) dL_law_615 (kX7_follows G) hF (fun r34 hF => ?_)
  refine ww_pop cx dL_law_618 rfl ?_
  refine ww_aload_n cx dL_law_619 rfl 2 rfl ?_
  refine ww_aload_n cx dL_law_620 rfl 0 rfl ?_
  refine ww_iload_n cx dL_law_621 rfl 3 rfl ?_
  refine ww_iconst cx dL_law_622 ic_1 ?_
  refine ww_iadd cx dL_law_623 ?_
  refine ww_sld cx sx dL_law_624 hF (fun hF => ?_)
  refine ww_V1_pi kv_L_56 rfl cx sh_62 ⟨Nat.le_of_ble_eq_true rfl, Nat.le_of_ble_eq_true rfl⟩ (Nat.le_of_ble_eq_true rfl) dL_law_625 (kX8_follows G) hF (fun r35 hF => ?_)
  refine ww_pop cx dL_law_628 rfl ?_
  refine ww_goto cx dL_law_629 (tgt := 2390) rfl ?_
  refine ww_iinc (j := 3) (ks := [0, 1, 2, 3]) (lv' := fun v36 => [(3, .int v36), (0, .ref b), (1, .ref (gad G 0)), (2, .ref (gad G 62))]) cx dL_law_2390 (by decide) rfl ic_6 hF (fun _ => rfl) (fun v36 hF => ?_)
  refine ww_goto cx dL_law_2393 (tgt := 18) rfl ?_
  exact ww_sub [1, 2, 3, 0] rfl (hk18 _ _ hF)
theorem kL_b632 {G : GT} {X : CT} {b L : Nat} {xs : Nat → Int32} (cx : Cx G X RL code 4 1000) (sx : SX X b L xs) (hE : ∀ (σ : St) (lv : List (Nat × Value)) (pc : Nat), decode code pc = .ok (.ireturn, 1) → WW G X 4 σ lv pc [.int 1]) {kr18 : St → Int32 → Option Int32} (hk18 : ∀ (σ : St) (x3 : Int32), kr18 σ x3 = some 1 → WW G X 4 σ [(0, .ref b), (1, .ref (gad G 0)), (2, .ref (gad G 62)), (3, .int x3)] 18 []) (σ : St) (x3 : Int32) (hF : fL_b632 L xs kr18 σ x3 = some 1) : WW G X 4 σ [(0, .ref b), (1, .ref (gad G 0)), (2, .ref (gad G 62)), (3, .int x3)] 632 [] := by
  unfold fL_b632 at hF
  refine ww_aload_n cx dL_law_632 rfl 1 rfl ?_
  refine ww_aload_n cx dL_law_633 rfl 0 rfl ?_
  refine ww_iload_n cx dL_law_634 rfl 3 rfl ?_
  refine ww_iconst cx dL_law_635 ic_1 ?_
  refine ww_iadd cx dL_law_636 ?_
  refine ww_sld cx sx dL_law_637 hF (fun hF => ?_)
  refine ww_V1_pi kv_L_57 rfl cx sh_0 ⟨Nat.le_of_ble_eq_true rfl, Nat.le_of_ble_eq_true rfl⟩ (Nat.le_of_ble_eq_true rfl) dL_law_638 (kX7_counter G) hF (fun r37 hF => ?_)
  refine ww_pop cx dL_law_641 rfl ?_
  refine ww_aload_n cx dL_law_642 rfl 2 rfl ?_
  refine ww_aload_n cx dL_law_643 rfl 0 rfl ?_
  refine ww_iload_n cx dL_law_644 rfl 3 rfl ?_
  refine ww_iconst cx dL_law_645 ic_1 ?_
  refine ww_iadd cx dL_law_646 ?_
  refine ww_sld cx sx dL_law_647 hF (fun hF => ?_)
  refine ww_V1_pi kv_L_60 rfl cx sh_62 ⟨Nat.le_of_ble_eq_true rfl, Nat.le_of_ble_eq_true rfl⟩ (Nat.le_of_ble_eq_true rfl) dL_law_648 (kX8_counter G) hF (fun r38 hF => ?_)
  refine ww_pop cx dL_law_651 rfl ?_
  refine ww_goto cx dL_law_652 (tgt := 2390) rfl ?_
  refine ww_iinc (j := 3) (ks := [0, 1, 2, 3]) (lv' := fun v39 => [(3, .int v39), (0, .ref b), (1, .ref (gad G 0)), (2, .ref (gad G 62))]) cx dL_law_2390 (by decide) rfl ic_6 hF (fun _ => rfl) (fun v39 hF => ?_)
  refine ww_goto cx dL_law_2393 (tgt := 18) rfl ?_
  exact ww_sub [1, 2, 3, 0] rfl (hk18 _ _ hF)
theorem kL_b655 {G : GT} {X : CT} {b L : Nat} {xs : Nat → Int32} (cx : Cx G X RL code 4 1000) (sx : SX X b L xs) (hE : ∀ (σ : St) (lv : List (Nat × Value)) (pc : Nat), decode code pc = .ok (.ireturn, 1) → WW G X 4 σ lv pc [.int 1]) {kr18 : St → Int32 → Option Int32} (hk18 : ∀ (σ : St) (x3 : Int32), kr18 σ x3 = some 1 → WW G X 4 σ [(0, .ref b), (1, .ref (gad G 0)), (2, .ref (gad G 62)), (3, .int x3)] 18 []) (σ : St) (x3 : Int32) (hF : fL_b655 L xs kr18 σ x3 = some 1) : WW G X 4 σ [(0, .ref b), (1, .ref (gad G 0)), (2, .ref (gad G 62)), (3, .int x3)] 655 [] := by
  unfold fL_b655 at hF
  refine ww_aload_n cx dL_law_655 rfl 1 rfl ?_
  refine ww_aload_n cx dL_law_656 rfl 0 rfl ?_
  refine ww_iload_n cx dL_law_657 rfl 3 rfl ?_
  refine ww_iconst cx dL_law_658 ic_1 ?_
  refine ww_iadd cx dL_law_659 ?_
  refine ww_sld cx sx dL_law_660 hF (fun hF => ?_)
  refine ww_aload_n cx dL_law_661 rfl 0 rfl ?_
  refine ww_iload_n cx dL_law_662 rfl 3 rfl ?_
  refine ww_iconst cx dL_law_663 ic_2 ?_
  refine ww_iadd cx dL_law_664 ?_
  refine ww_sld cx sx dL_law_665 hF (fun hF => ?_)
  refine ww_V2_pi kv_L_61 rfl cx sh_0 ⟨Nat.le_of_ble_eq_true rfl, Nat.le_of_ble_eq_true rfl⟩ (Nat.le_of_ble_eq_true rfl) dL_law_666 (kX7_entails G) hF (fun r40 hF => ?_)
  refine ww_pop cx dL_law_669 rfl ?_
  refine ww_aload_n cx dL_law_670 rfl 2 rfl ?_
  refine ww_aload_n cx dL_law_671 rfl 0 rfl ?_
  refine ww_iload_n cx dL_law_672 rfl 3 rfl ?_
  refine ww_iconst cx dL_law_673 ic_1 ?_
  refine ww_iadd cx dL_law_674 ?_
  refine ww_sld cx sx dL_law_675 hF (fun hF => ?_)
  refine ww_aload_n cx dL_law_676 rfl 0 rfl ?_
  refine ww_iload_n cx dL_law_677 rfl 3 rfl ?_
  refine ww_iconst cx dL_law_678 ic_2 ?_
  refine ww_iadd cx dL_law_679 ?_
  refine ww_sld cx sx dL_law_680 hF (fun hF => ?_)
  refine ww_V2_pi kv_L_64 rfl cx sh_62 ⟨Nat.le_of_ble_eq_true rfl, Nat.le_of_ble_eq_true rfl⟩ (Nat.le_of_ble_eq_true rfl) dL_law_681 (kX8_entails G) hF (fun r41 hF => ?_)
  refine ww_pop cx dL_law_684 rfl ?_
  refine ww_goto cx dL_law_685 (tgt := 2390) rfl ?_
  refine ww_iinc (j := 3) (ks := [0, 1, 2, 3]) (lv' := fun v42 => [(3, .int v42), (0, .ref b), (1, .ref (gad G 0)), (2, .ref (gad G 62))]) cx dL_law_2390 (by decide) rfl ic_6 hF (fun _ => rfl) (fun v42 hF => ?_)
  refine ww_goto cx dL_law_2393 (tgt := 18) rfl ?_
  exact ww_sub [1, 2, 3, 0] rfl (hk18 _ _ hF)
theorem kL_b688 {G : GT} {X : CT} {b L : Nat} {xs : Nat → Int32} (cx : Cx G X RL code 4 1000) (sx : SX X b L xs) (hE : ∀ (σ : St) (lv : List (Nat × Value)) (pc : Nat), decode code pc = .ok (.ireturn, 1) → WW G X 4 σ lv pc [.int 1]) {kr18 : St → Int32 → Option Int32} (hk18 : ∀ (σ : St) (x3 : Int32), kr18 σ x3 = some 1 → WW G X 4 σ [(0, .ref b), (1, .ref (gad G 0)), (2, .ref (gad G 62)), (3, .int x3)] 18 []) (σ : St) (x3 : Int32) (hF : fL_b688 L xs kr18 σ x3 = some 1) : WW G X 4 σ [(0, .ref b), (1, .ref (gad G 0)), (2, .ref (gad G 62)), (3, .int x3)] 688 [] := by
  unfold fL_b688 at hF
  refine ww_aload_n cx dL_law_688 rfl 1 rfl ?_
  refine ww_aload_n cx dL_law_689 rfl 0 rfl ?_
  refine ww_iload_n cx dL_law_690 rfl 3 rfl ?_
  refine ww_iconst cx dL_law_691 ic_1 ?_
  refine ww_iadd cx dL_law_692 ?_
  refine ww_sld cx sx dL_law_693 hF (fun hF => ?_)
  refine ww_V1_pi kv_L_65 rfl cx sh_0 ⟨Nat.le_of_ble_eq_true rfl, Nat.le_of_ble_eq_true rfl⟩ (Nat.le_of_ble_eq_true rfl) dL_law_694 (kX7_alike G) hF (fun r43 hF => ?_)
  refine ww_pop cx dL_law_697 rfl ?_
  refine ww_aload_n cx dL_law_698 rfl 2 rfl ?_
  refine ww_aload_n cx dL_law_699 rfl 0 rfl ?_
  refine ww_iload_n cx dL_law_700 rfl 3 rfl ?_
  refine ww_iconst cx dL_law_701 ic_1 ?_
  refine ww_iadd cx dL_law_702 ?_
  refine ww_sld cx sx dL_law_703 hF (fun hF => ?_)
  refine ww_V1_pi kv_L_68 rfl cx sh_62 ⟨Nat.le_of_ble_eq_true rfl, Nat.le_of_ble_eq_true rfl⟩ (Nat.le_of_ble_eq_true rfl) dL_law_704 (kX8_alike G) hF (fun r44 hF => ?_)
  refine ww_pop cx dL_law_707 rfl ?_
  refine ww_goto cx dL_law_708 (tgt := 2390) rfl ?_
  refine ww_iinc (j := 3) (ks := [0, 1, 2, 3]) (lv' := fun v45 => [(3, .int v45), (0, .ref b), (1, .ref (gad G 0)), (2, .ref (gad G 62))]) cx dL_law_2390 (by decide) rfl ic_6 hF (fun _ => rfl) (fun v45 hF => ?_)
  refine ww_goto cx dL_law_2393 (tgt := 18) rfl ?_
  exact ww_sub [1, 2, 3, 0] rfl (hk18 _ _ hF)
theorem kL_b711 {G : GT} {X : CT} {b L : Nat} {xs : Nat → Int32} (cx : Cx G X RL code 4 1000) (sx : SX X b L xs) (hE : ∀ (σ : St) (lv : List (Nat × Value)) (pc : Nat), decode code pc = .ok (.ireturn, 1) → WW G X 4 σ lv pc [.int 1]) {kr18 : St → Int32 → Option Int32} (hk18 : ∀ (σ : St) (x3 : Int32), kr18 σ x3 = some 1 → WW G X 4 σ [(0, .ref b), (1, .ref (gad G 0)), (2, .ref (gad G 62)), (3, .int x3)] 18 []) (σ : St) (x3 : Int32) (hF : fL_b711 L xs kr18 σ x3 = some 1) : WW G X 4 σ [(0, .ref b), (1, .ref (gad G 0)), (2, .ref (gad G 62)), (3, .int x3)] 711 [] := by
  unfold fL_b711 at hF
  refine ww_aload_n cx dL_law_711 rfl 1 rfl ?_
  refine ww_aload_n cx dL_law_712 rfl 0 rfl ?_
  refine ww_iload_n cx dL_law_713 rfl 3 rfl ?_
  refine ww_iconst cx dL_law_714 ic_1 ?_
  refine ww_iadd cx dL_law_715 ?_
  refine ww_sld cx sx dL_law_716 hF (fun hF => ?_)
  refine ww_V1_pi kv_L_69 rfl cx sh_0 ⟨Nat.le_of_ble_eq_true rfl, Nat.le_of_ble_eq_true rfl⟩ (Nat.le_of_ble_eq_true rfl) dL_law_717 (kX7_falsity G) hF (fun r46 hF => ?_)
  refine ww_pop cx dL_law_720 rfl ?_
  refine ww_aload_n cx dL_law_721 rfl 2 rfl ?_
  refine ww_aload_n cx dL_law_722 rfl 0 rfl ?_
  refine ww_iload_n cx dL_law_723 rfl 3 rfl ?_
  refine ww_iconst cx dL_law_724 ic_1 ?_
  refine ww_iadd cx dL_law_725 ?_
  refine ww_sld cx sx dL_law_726 hF (fun hF => ?_)
  refine ww_V1_pi kv_L_72 rfl cx sh_62 ⟨Nat.le_of_ble_eq_true rfl, Nat.le_of_ble_eq_true rfl⟩ (Nat.le_of_ble_eq_true rfl) dL_law_727 (kX8_falsity G) hF (fun r47 hF => ?_)
  refine ww_pop cx dL_law_730 rfl ?_
  refine ww_goto cx dL_law_731 (tgt := 2390) rfl ?_
  refine ww_iinc (j := 3) (ks := [0, 1, 2, 3]) (lv' := fun v48 => [(3, .int v48), (0, .ref b), (1, .ref (gad G 0)), (2, .ref (gad G 62))]) cx dL_law_2390 (by decide) rfl ic_6 hF (fun _ => rfl) (fun v48 hF => ?_)
  refine ww_goto cx dL_law_2393 (tgt := 18) rfl ?_
  exact ww_sub [1, 2, 3, 0] rfl (hk18 _ _ hF)
theorem kL_b734 {G : GT} {X : CT} {b L : Nat} {xs : Nat → Int32} (cx : Cx G X RL code 4 1000) (sx : SX X b L xs) (hE : ∀ (σ : St) (lv : List (Nat × Value)) (pc : Nat), decode code pc = .ok (.ireturn, 1) → WW G X 4 σ lv pc [.int 1]) {kr18 : St → Int32 → Option Int32} (hk18 : ∀ (σ : St) (x3 : Int32), kr18 σ x3 = some 1 → WW G X 4 σ [(0, .ref b), (1, .ref (gad G 0)), (2, .ref (gad G 62)), (3, .int x3)] 18 []) (σ : St) (x3 : Int32) (hF : fL_b734 L xs kr18 σ x3 = some 1) : WW G X 4 σ [(0, .ref b), (1, .ref (gad G 0)), (2, .ref (gad G 62)), (3, .int x3)] 734 [] := by
  unfold fL_b734 at hF
  refine ww_aload_n cx dL_law_734 rfl 1 rfl ?_
  refine ww_V0_si kv_L_73 rfl cx sh_0 ⟨Nat.le_of_ble_eq_true rfl, Nat.le_of_ble_eq_true rfl⟩ (Nat.le_of_ble_eq_true rfl) dL_law_735 (kX7_proved G) hF (fun r49 σ50 hF => ?_)
  refine ww_pop cx dL_law_738 rfl ?_
  refine ww_aload_n cx dL_law_739 rfl 2 rfl ?_
  refine ww_V0_pi kv_L_76 rfl cx sh_62 ⟨Nat.le_of_ble_eq_true rfl, Nat.le_of_ble_eq_true rfl⟩ (Nat.le_of_ble_eq_true rfl) dL_law_740 (kX8_proved G) hF (fun r51 hF => ?_)
  refine ww_pop cx dL_law_743 rfl ?_
  refine ww_goto cx dL_law_744 (tgt := 2390) rfl ?_
  refine ww_iinc (j := 3) (ks := [0, 1, 2, 3]) (lv' := fun v52 => [(3, .int v52), (0, .ref b), (1, .ref (gad G 0)), (2, .ref (gad G 62))]) cx dL_law_2390 (by decide) rfl ic_6 hF (fun _ => rfl) (fun v52 hF => ?_)
  refine ww_goto cx dL_law_2393 (tgt := 18) rfl ?_
  exact ww_sub [1, 2, 3, 0] rfl (hk18 _ _ hF)
theorem kL_b747 {G : GT} {X : CT} {b L : Nat} {xs : Nat → Int32} (cx : Cx G X RL code 4 1000) (sx : SX X b L xs) (hE : ∀ (σ : St) (lv : List (Nat × Value)) (pc : Nat), decode code pc = .ok (.ireturn, 1) → WW G X 4 σ lv pc [.int 1]) {kr18 : St → Int32 → Option Int32} (hk18 : ∀ (σ : St) (x3 : Int32), kr18 σ x3 = some 1 → WW G X 4 σ [(0, .ref b), (1, .ref (gad G 0)), (2, .ref (gad G 62)), (3, .int x3)] 18 []) (σ : St) (x3 : Int32) (hF : fL_b747 L xs kr18 σ x3 = some 1) : WW G X 4 σ [(0, .ref b), (1, .ref (gad G 0)), (2, .ref (gad G 62)), (3, .int x3)] 747 [] := by
  unfold fL_b747 at hF
  refine ww_aload_n cx dL_law_747 rfl 1 rfl ?_
  refine ww_V0_si kv_L_77 rfl cx sh_0 ⟨Nat.le_of_ble_eq_true rfl, Nat.le_of_ble_eq_true rfl⟩ (Nat.le_of_ble_eq_true rfl) dL_law_748 (kX7_wrong G) hF (fun r53 σ54 hF => ?_)
  refine ww_pop cx dL_law_751 rfl ?_
  refine ww_aload_n cx dL_law_752 rfl 2 rfl ?_
  refine ww_V0_pi kv_L_80 rfl cx sh_62 ⟨Nat.le_of_ble_eq_true rfl, Nat.le_of_ble_eq_true rfl⟩ (Nat.le_of_ble_eq_true rfl) dL_law_753 (kX8_wrong G) hF (fun r55 hF => ?_)
  refine ww_pop cx dL_law_756 rfl ?_
  refine ww_goto cx dL_law_757 (tgt := 2390) rfl ?_
  refine ww_iinc (j := 3) (ks := [0, 1, 2, 3]) (lv' := fun v56 => [(3, .int v56), (0, .ref b), (1, .ref (gad G 0)), (2, .ref (gad G 62))]) cx dL_law_2390 (by decide) rfl ic_6 hF (fun _ => rfl) (fun v56 hF => ?_)
  refine ww_goto cx dL_law_2393 (tgt := 18) rfl ?_
  exact ww_sub [1, 2, 3, 0] rfl (hk18 _ _ hF)
theorem kL_b760 {G : GT} {X : CT} {b L : Nat} {xs : Nat → Int32} (cx : Cx G X RL code 4 1000) (sx : SX X b L xs) (hE : ∀ (σ : St) (lv : List (Nat × Value)) (pc : Nat), decode code pc = .ok (.ireturn, 1) → WW G X 4 σ lv pc [.int 1]) {kr18 : St → Int32 → Option Int32} (hk18 : ∀ (σ : St) (x3 : Int32), kr18 σ x3 = some 1 → WW G X 4 σ [(0, .ref b), (1, .ref (gad G 0)), (2, .ref (gad G 62)), (3, .int x3)] 18 []) (σ : St) (x3 : Int32) (hF : fL_b760 L xs kr18 σ x3 = some 1) : WW G X 4 σ [(0, .ref b), (1, .ref (gad G 0)), (2, .ref (gad G 62)), (3, .int x3)] 760 [] := by
  unfold fL_b760 at hF
  refine ww_aload_n cx dL_law_760 rfl 1 rfl ?_
  refine ww_V0_si kv_L_81 rfl cx sh_0 ⟨Nat.le_of_ble_eq_true rfl, Nat.le_of_ble_eq_true rfl⟩ (Nat.le_of_ble_eq_true rfl) dL_law_761 (kX7_covered G) hF (fun r57 σ58 hF => ?_)
  refine ww_pop cx dL_law_764 rfl ?_
  refine ww_aload_n cx dL_law_765 rfl 2 rfl ?_
  refine ww_V0_pi kv_L_84 rfl cx sh_62 ⟨Nat.le_of_ble_eq_true rfl, Nat.le_of_ble_eq_true rfl⟩ (Nat.le_of_ble_eq_true rfl) dL_law_766 (kX8_covered G) hF (fun r59 hF => ?_)
  refine ww_pop cx dL_law_769 rfl ?_
  refine ww_goto cx dL_law_770 (tgt := 2390) rfl ?_
  refine ww_iinc (j := 3) (ks := [0, 1, 2, 3]) (lv' := fun v60 => [(3, .int v60), (0, .ref b), (1, .ref (gad G 0)), (2, .ref (gad G 62))]) cx dL_law_2390 (by decide) rfl ic_6 hF (fun _ => rfl) (fun v60 hF => ?_)
  refine ww_goto cx dL_law_2393 (tgt := 18) rfl ?_
  exact ww_sub [1, 2, 3, 0] rfl (hk18 _ _ hF)
theorem kL_b773 {G : GT} {X : CT} {b L : Nat} {xs : Nat → Int32} (cx : Cx G X RL code 4 1000) (sx : SX X b L xs) (hE : ∀ (σ : St) (lv : List (Nat × Value)) (pc : Nat), decode code pc = .ok (.ireturn, 1) → WW G X 4 σ lv pc [.int 1]) {kr18 : St → Int32 → Option Int32} (hk18 : ∀ (σ : St) (x3 : Int32), kr18 σ x3 = some 1 → WW G X 4 σ [(0, .ref b), (1, .ref (gad G 0)), (2, .ref (gad G 62)), (3, .int x3)] 18 []) (σ : St) (x3 : Int32) (hF : fL_b773 L xs kr18 σ x3 = some 1) : WW G X 4 σ [(0, .ref b), (1, .ref (gad G 0)), (2, .ref (gad G 62)), (3, .int x3)] 773 [] := by
  unfold fL_b773 at hF
  refine ww_aload_n cx dL_law_773 rfl 1 rfl ?_
  refine ww_aload_n cx dL_law_774 rfl 0 rfl ?_
  refine ww_iload_n cx dL_law_775 rfl 3 rfl ?_
  refine ww_iconst cx dL_law_776 ic_1 ?_
  refine ww_iadd cx dL_law_777 ?_
  refine ww_sld cx sx dL_law_778 hF (fun hF => ?_)
  refine ww_V1_si kv_L_85 rfl cx sh_0 ⟨Nat.le_of_ble_eq_true rfl, Nat.le_of_ble_eq_true rfl⟩ (Nat.le_of_ble_eq_true rfl) dL_law_779 (kX7_reads G) hF (fun r61 σ62 hF => ?_)
  refine ww_pop cx dL_law_782 rfl ?_
  refine ww_aload_n cx dL_law_783 rfl 2 rfl ?_
  refine ww_aload_n cx dL_law_784 rfl 0 rfl ?_
  refine ww_iload_n cx dL_law_785 rfl 3 rfl ?_
  refine ww_iconst cx dL_law_786 ic_1 ?_
  refine ww_iadd cx dL_law_787 ?_
  refine ww_sld cx sx dL_law_788 hF (fun hF => ?_)
  refine ww_V1_si kv_L_88 rfl cx sh_62 ⟨Nat.le_of_ble_eq_true rfl, Nat.le_of_ble_eq_true rfl⟩ (Nat.le_of_ble_eq_true rfl) dL_law_789 (kX8_reads G) hF (fun r63 σ64 hF => ?_)
  refine ww_pop cx dL_law_792 rfl ?_
  refine ww_goto cx dL_law_793 (tgt := 2390) rfl ?_
  refine ww_iinc (j := 3) (ks := [0, 1, 2, 3]) (lv' := fun v65 => [(3, .int v65), (0, .ref b), (1, .ref (gad G 0)), (2, .ref (gad G 62))]) cx dL_law_2390 (by decide) rfl ic_6 hF (fun _ => rfl) (fun v65 hF => ?_)
  refine ww_goto cx dL_law_2393 (tgt := 18) rfl ?_
  exact ww_sub [1, 2, 3, 0] rfl (hk18 _ _ hF)
theorem kL_b796 {G : GT} {X : CT} {b L : Nat} {xs : Nat → Int32} (cx : Cx G X RL code 4 1000) (sx : SX X b L xs) (hE : ∀ (σ : St) (lv : List (Nat × Value)) (pc : Nat), decode code pc = .ok (.ireturn, 1) → WW G X 4 σ lv pc [.int 1]) {kr18 : St → Int32 → Option Int32} (hk18 : ∀ (σ : St) (x3 : Int32), kr18 σ x3 = some 1 → WW G X 4 σ [(0, .ref b), (1, .ref (gad G 0)), (2, .ref (gad G 62)), (3, .int x3)] 18 []) (σ : St) (x3 : Int32) (hF : fL_b796 L xs kr18 σ x3 = some 1) : WW G X 4 σ [(0, .ref b), (1, .ref (gad G 0)), (2, .ref (gad G 62)), (3, .int x3)] 796 [] := by
  unfold fL_b796 at hF
  refine ww_aload_n cx dL_law_796 rfl 1 rfl ?_
  refine ww_aload_n cx dL_law_797 rfl 0 rfl ?_
  refine ww_iload_n cx dL_law_798 rfl 3 rfl ?_
  refine ww_iconst cx dL_law_799 ic_1 ?_
  refine ww_iadd cx dL_law_800 ?_
  refine ww_sld cx sx dL_law_801 hF (fun hF => ?_)
  refine ww_V1_si kv_L_89 rfl cx sh_0 ⟨Nat.le_of_ble_eq_true rfl, Nat.le_of_ble_eq_true rfl⟩ (Nat.le_of_ble_eq_true rfl) dL_law_802 (kX7_why G) hF (fun r66 σ67 hF => ?_)
  refine ww_pop cx dL_law_805 rfl ?_
  refine ww_aload_n cx dL_law_806 rfl 2 rfl ?_
  refine ww_aload_n cx dL_law_807 rfl 0 rfl ?_
  refine ww_iload_n cx dL_law_808 rfl 3 rfl ?_
  refine ww_iconst cx dL_law_809 ic_1 ?_
  refine ww_iadd cx dL_law_810 ?_
  refine ww_sld cx sx dL_law_811 hF (fun hF => ?_)
  refine ww_V1_si kv_L_92 rfl cx sh_62 ⟨Nat.le_of_ble_eq_true rfl, Nat.le_of_ble_eq_true rfl⟩ (Nat.le_of_ble_eq_true rfl) dL_law_812 (kX8_why G) hF (fun r68 σ69 hF => ?_)
  refine ww_pop cx dL_law_815 rfl ?_
  refine ww_goto cx dL_law_816 (tgt := 2390) rfl ?_
  refine ww_iinc (j := 3) (ks := [0, 1, 2, 3]) (lv' := fun v70 => [(3, .int v70), (0, .ref b), (1, .ref (gad G 0)), (2, .ref (gad G 62))]) cx dL_law_2390 (by decide) rfl ic_6 hF (fun _ => rfl) (fun v70 hF => ?_)
  refine ww_goto cx dL_law_2393 (tgt := 18) rfl ?_
  exact ww_sub [1, 2, 3, 0] rfl (hk18 _ _ hF)
theorem kL_b819 {G : GT} {X : CT} {b L : Nat} {xs : Nat → Int32} (cx : Cx G X RL code 4 1000) (sx : SX X b L xs) (hE : ∀ (σ : St) (lv : List (Nat × Value)) (pc : Nat), decode code pc = .ok (.ireturn, 1) → WW G X 4 σ lv pc [.int 1]) {kr18 : St → Int32 → Option Int32} (hk18 : ∀ (σ : St) (x3 : Int32), kr18 σ x3 = some 1 → WW G X 4 σ [(0, .ref b), (1, .ref (gad G 0)), (2, .ref (gad G 62)), (3, .int x3)] 18 []) (σ : St) (x3 : Int32) (hF : fL_b819 L xs kr18 σ x3 = some 1) : WW G X 4 σ [(0, .ref b), (1, .ref (gad G 0)), (2, .ref (gad G 62)), (3, .int x3)] 819 [] := by
  unfold fL_b819 at hF
  refine ww_aload_n cx dL_law_819 rfl 1 rfl ?_
  refine ww_aload_n cx dL_law_820 rfl 0 rfl ?_
  refine ww_iload_n cx dL_law_821 rfl 3 rfl ?_
  refine ww_iconst cx dL_law_822 ic_1 ?_
  refine ww_iadd cx dL_law_823 ?_
  refine ww_sld cx sx dL_law_824 hF (fun hF => ?_)
  refine ww_V1_si kv_L_93 rfl cx sh_0 ⟨Nat.le_of_ble_eq_true rfl, Nat.le_of_ble_eq_true rfl⟩ (Nat.le_of_ble_eq_true rfl) dL_law_825 (kX7_reached G) hF (fun r71 σ72 hF => ?_)
  refine ww_pop cx dL_law_828 rfl ?_
  refine ww_aload_n cx dL_law_829 rfl 2 rfl ?_
  refine ww_aload_n cx dL_law_830 rfl 0 rfl ?_
  refine ww_iload_n cx dL_law_831 rfl 3 rfl ?_
  refine ww_iconst cx dL_law_832 ic_1 ?_
  refine ww_iadd cx dL_law_833 ?_
  refine ww_sld cx sx dL_law_834 hF (fun hF => ?_)
  refine ww_V1_si kv_L_96 rfl cx sh_62 ⟨Nat.le_of_ble_eq_true rfl, Nat.le_of_ble_eq_true rfl⟩ (Nat.le_of_ble_eq_true rfl) dL_law_835 (kX8_reached G) hF (fun r73 σ74 hF => ?_)
  refine ww_pop cx dL_law_838 rfl ?_
  refine ww_goto cx dL_law_839 (tgt := 2390) rfl ?_
  refine ww_iinc (j := 3) (ks := [0, 1, 2, 3]) (lv' := fun v75 => [(3, .int v75), (0, .ref b), (1, .ref (gad G 0)), (2, .ref (gad G 62))]) cx dL_law_2390 (by decide) rfl ic_6 hF (fun _ => rfl) (fun v75 hF => ?_)
  refine ww_goto cx dL_law_2393 (tgt := 18) rfl ?_
  exact ww_sub [1, 2, 3, 0] rfl (hk18 _ _ hF)
theorem kL_b842 {G : GT} {X : CT} {b L : Nat} {xs : Nat → Int32} (cx : Cx G X RL code 4 1000) (sx : SX X b L xs) (hE : ∀ (σ : St) (lv : List (Nat × Value)) (pc : Nat), decode code pc = .ok (.ireturn, 1) → WW G X 4 σ lv pc [.int 1]) {kr18 : St → Int32 → Option Int32} (hk18 : ∀ (σ : St) (x3 : Int32), kr18 σ x3 = some 1 → WW G X 4 σ [(0, .ref b), (1, .ref (gad G 0)), (2, .ref (gad G 62)), (3, .int x3)] 18 []) (σ : St) (x3 : Int32) (hF : fL_b842 L xs kr18 σ x3 = some 1) : WW G X 4 σ [(0, .ref b), (1, .ref (gad G 0)), (2, .ref (gad G 62)), (3, .int x3)] 842 [] := by
  unfold fL_b842 at hF
  refine ww_aload_n cx dL_law_842 rfl 1 rfl ?_
  refine ww_aload_n cx dL_law_843 rfl 0 rfl ?_
  refine ww_iload_n cx dL_law_844 rfl 3 rfl ?_
  refine ww_iconst cx dL_law_845 ic_1 ?_
  refine ww_iadd cx dL_law_846 ?_
  refine ww_sld cx sx dL_law_847 hF (fun hF => ?_)
  refine ww_aload_n cx dL_law_848 rfl 0 rfl ?_
  refine ww_iload_n cx dL_law_849 rfl 3 rfl ?_
  refine ww_iconst cx dL_law_850 ic_2 ?_
  refine ww_iadd cx dL_law_851 ?_
  refine ww_sld cx sx dL_law_852 hF (fun hF => ?_)
  refine ww_V2_pi kv_L_97 rfl cx sh_0 ⟨Nat.le_of_ble_eq_true rfl, Nat.le_of_ble_eq_true rfl⟩ (Nat.le_of_ble_eq_true rfl) dL_law_853 (kX7_eats G) hF (fun r76 hF => ?_)
  refine ww_pop cx dL_law_856 rfl ?_
  refine ww_aload_n cx dL_law_857 rfl 2 rfl ?_
  refine ww_aload_n cx dL_law_858 rfl 0 rfl ?_
  refine ww_iload_n cx dL_law_859 rfl 3 rfl ?_
  refine ww_iconst cx dL_law_860 ic_1 ?_
  refine ww_iadd cx dL_law_861 ?_
  refine ww_sld cx sx dL_law_862 hF (fun hF => ?_)
  refine ww_aload_n cx dL_law_863 rfl 0 rfl ?_
  refine ww_iload_n cx dL_law_864 rfl 3 rfl ?_
  refine ww_iconst cx dL_law_865 ic_2 ?_
  refine ww_iadd cx dL_law_866 ?_
  refine ww_sld cx sx dL_law_867 hF (fun hF => ?_)
  refine ww_V2_pi kv_L_100 rfl cx sh_62 ⟨Nat.le_of_ble_eq_true rfl, Nat.le_of_ble_eq_true rfl⟩ (Nat.le_of_ble_eq_true rfl) dL_law_868 (kX8_eats G) hF (fun r77 hF => ?_)
  refine ww_pop cx dL_law_871 rfl ?_
  refine ww_goto cx dL_law_872 (tgt := 2390) rfl ?_
  refine ww_iinc (j := 3) (ks := [0, 1, 2, 3]) (lv' := fun v78 => [(3, .int v78), (0, .ref b), (1, .ref (gad G 0)), (2, .ref (gad G 62))]) cx dL_law_2390 (by decide) rfl ic_6 hF (fun _ => rfl) (fun v78 hF => ?_)
  refine ww_goto cx dL_law_2393 (tgt := 18) rfl ?_
  exact ww_sub [1, 2, 3, 0] rfl (hk18 _ _ hF)
theorem kL_b875 {G : GT} {X : CT} {b L : Nat} {xs : Nat → Int32} (cx : Cx G X RL code 4 1000) (sx : SX X b L xs) (hE : ∀ (σ : St) (lv : List (Nat × Value)) (pc : Nat), decode code pc = .ok (.ireturn, 1) → WW G X 4 σ lv pc [.int 1]) {kr18 : St → Int32 → Option Int32} (hk18 : ∀ (σ : St) (x3 : Int32), kr18 σ x3 = some 1 → WW G X 4 σ [(0, .ref b), (1, .ref (gad G 0)), (2, .ref (gad G 62)), (3, .int x3)] 18 []) (σ : St) (x3 : Int32) (hF : fL_b875 L xs kr18 σ x3 = some 1) : WW G X 4 σ [(0, .ref b), (1, .ref (gad G 0)), (2, .ref (gad G 62)), (3, .int x3)] 875 [] := by
  unfold fL_b875 at hF
  refine ww_aload_n cx dL_law_875 rfl 1 rfl ?_
  refine ww_aload_n cx dL_law_876 rfl 0 rfl ?_
  refine ww_iload_n cx dL_law_877 rfl 3 rfl ?_
  refine ww_iconst cx dL_law_878 ic_1 ?_
  refine ww_iadd cx dL_law_879 ?_
  refine ww_sld cx sx dL_law_880 hF (fun hF => ?_)
  refine ww_aload_n cx dL_law_881 rfl 0 rfl ?_
  refine ww_iload_n cx dL_law_882 rfl 3 rfl ?_
  refine ww_iconst cx dL_law_883 ic_2 ?_
  refine ww_iadd cx dL_law_884 ?_
  refine ww_sld cx sx dL_law_885 hF (fun hF => ?_)
  refine ww_V2_si kv_L_101 rfl cx sh_0 ⟨Nat.le_of_ble_eq_true rfl, Nat.le_of_ble_eq_true rfl⟩ (Nat.le_of_ble_eq_true rfl) dL_law_886 (kX7_used G) hF (fun r79 σ80 hF => ?_)
  refine ww_pop cx dL_law_889 rfl ?_
  refine ww_aload_n cx dL_law_890 rfl 2 rfl ?_
  refine ww_aload_n cx dL_law_891 rfl 0 rfl ?_
  refine ww_iload_n cx dL_law_892 rfl 3 rfl ?_
  refine ww_iconst cx dL_law_893 ic_1 ?_
  refine ww_iadd cx dL_law_894 ?_
  refine ww_sld cx sx dL_law_895 hF (fun hF => ?_)
  refine ww_aload_n cx dL_law_896 rfl 0 rfl ?_
  refine ww_iload_n cx dL_law_897 rfl 3 rfl ?_
  refine ww_iconst cx dL_law_898 ic_2 ?_
  refine ww_iadd cx dL_law_899 ?_
  refine ww_sld cx sx dL_law_900 hF (fun hF => ?_)
  refine ww_V2_si kv_L_104 rfl cx sh_62 ⟨Nat.le_of_ble_eq_true rfl, Nat.le_of_ble_eq_true rfl⟩ (Nat.le_of_ble_eq_true rfl) dL_law_901 (kX8_used G) hF (fun r81 σ82 hF => ?_)
  refine ww_pop cx dL_law_904 rfl ?_
  refine ww_goto cx dL_law_905 (tgt := 2390) rfl ?_
  refine ww_iinc (j := 3) (ks := [0, 1, 2, 3]) (lv' := fun v83 => [(3, .int v83), (0, .ref b), (1, .ref (gad G 0)), (2, .ref (gad G 62))]) cx dL_law_2390 (by decide) rfl ic_6 hF (fun _ => rfl) (fun v83 hF => ?_)
  refine ww_goto cx dL_law_2393 (tgt := 18) rfl ?_
  exact ww_sub [1, 2, 3, 0] rfl (hk18 _ _ hF)
theorem kL_b908 {G : GT} {X : CT} {b L : Nat} {xs : Nat → Int32} (cx : Cx G X RL code 4 1000) (sx : SX X b L xs) (hE : ∀ (σ : St) (lv : List (Nat × Value)) (pc : Nat), decode code pc = .ok (.ireturn, 1) → WW G X 4 σ lv pc [.int 1]) {kr18 : St → Int32 → Option Int32} (hk18 : ∀ (σ : St) (x3 : Int32), kr18 σ x3 = some 1 → WW G X 4 σ [(0, .ref b), (1, .ref (gad G 0)), (2, .ref (gad G 62)), (3, .int x3)] 18 []) (σ : St) (x3 : Int32) (hF : fL_b908 L xs kr18 σ x3 = some 1) : WW G X 4 σ [(0, .ref b), (1, .ref (gad G 0)), (2, .ref (gad G 62)), (3, .int x3)] 908 [] := by
  unfold fL_b908 at hF
  refine ww_aload_n cx dL_law_908 rfl 1 rfl ?_
  refine ww_aload_n cx dL_law_909 rfl 0 rfl ?_
  refine ww_iload_n cx dL_law_910 rfl 3 rfl ?_
  refine ww_iconst cx dL_law_911 ic_1 ?_
  refine ww_iadd cx dL_law_912 ?_
  refine ww_sld cx sx dL_law_913 hF (fun hF => ?_)
  refine ww_aload_n cx dL_law_914 rfl 0 rfl ?_
  refine ww_iload_n cx dL_law_915 rfl 3 rfl ?_
  refine ww_iconst cx dL_law_916 ic_2 ?_
  refine ww_iadd cx dL_law_917 ?_
  refine ww_sld cx sx dL_law_918 hF (fun hF => ?_)
  refine ww_aload_n cx dL_law_919 rfl 0 rfl ?_
  refine ww_iload_n cx dL_law_920 rfl 3 rfl ?_
  refine ww_iconst cx dL_law_921 ic_3 ?_
  refine ww_iadd cx dL_law_922 ?_
  refine ww_sld cx sx dL_law_923 hF (fun hF => ?_)
  refine ww_V3_si kv_L_105 rfl cx sh_0 ⟨Nat.le_of_ble_eq_true rfl, Nat.le_of_ble_eq_true rfl⟩ (Nat.le_of_ble_eq_true rfl) dL_law_924 (kX7_same G) hF (fun r84 σ85 hF => ?_)
  refine ww_pop cx dL_law_927 rfl ?_
  refine ww_aload_n cx dL_law_928 rfl 2 rfl ?_
  refine ww_aload_n cx dL_law_929 rfl 0 rfl ?_
  refine ww_iload_n cx dL_law_930 rfl 3 rfl ?_
  refine ww_iconst cx dL_law_931 ic_1 ?_
  refine ww_iadd cx dL_law_932 ?_
  refine ww_sld cx sx dL_law_933 hF (fun hF => ?_)
  refine ww_aload_n cx dL_law_934 rfl 0 rfl ?_
  refine ww_iload_n cx dL_law_935 rfl 3 rfl ?_
  refine ww_iconst cx dL_law_936 ic_2 ?_
  refine ww_iadd cx dL_law_937 ?_
  refine ww_sld cx sx dL_law_938 hF (fun hF => ?_)
  refine ww_aload_n cx dL_law_939 rfl 0 rfl ?_
  refine ww_iload_n cx dL_law_940 rfl 3 rfl ?_
  refine ww_iconst cx dL_law_941 ic_3 ?_
  refine ww_iadd cx dL_law_942 ?_
  refine ww_sld cx sx dL_law_943 hF (fun hF => ?_)
  refine ww_V3_si kv_L_109 rfl cx sh_62 ⟨Nat.le_of_ble_eq_true rfl, Nat.le_of_ble_eq_true rfl⟩ (Nat.le_of_ble_eq_true rfl) dL_law_944 (kX8_same G) hF (fun r86 σ87 hF => ?_)
  refine ww_pop cx dL_law_947 rfl ?_
  refine ww_goto cx dL_law_948 (tgt := 2390) rfl ?_
  refine ww_iinc (j := 3) (ks := [0, 1, 2, 3]) (lv' := fun v88 => [(3, .int v88), (0, .ref b), (1, .ref (gad G 0)), (2, .ref (gad G 62))]) cx dL_law_2390 (by decide) rfl ic_6 hF (fun _ => rfl) (fun v88 hF => ?_)
  refine ww_goto cx dL_law_2393 (tgt := 18) rfl ?_
  exact ww_sub [1, 2, 3, 0] rfl (hk18 _ _ hF)
theorem kL_b951 {G : GT} {X : CT} {b L : Nat} {xs : Nat → Int32} (cx : Cx G X RL code 4 1000) (sx : SX X b L xs) (hE : ∀ (σ : St) (lv : List (Nat × Value)) (pc : Nat), decode code pc = .ok (.ireturn, 1) → WW G X 4 σ lv pc [.int 1]) {kr18 : St → Int32 → Option Int32} (hk18 : ∀ (σ : St) (x3 : Int32), kr18 σ x3 = some 1 → WW G X 4 σ [(0, .ref b), (1, .ref (gad G 0)), (2, .ref (gad G 62)), (3, .int x3)] 18 []) (σ : St) (x3 : Int32) (hF : fL_b951 L xs kr18 σ x3 = some 1) : WW G X 4 σ [(0, .ref b), (1, .ref (gad G 0)), (2, .ref (gad G 62)), (3, .int x3)] 951 [] := by
  unfold fL_b951 at hF
  refine ww_aload_n cx dL_law_951 rfl 1 rfl ?_
  refine ww_aload_n cx dL_law_952 rfl 0 rfl ?_
  refine ww_iload_n cx dL_law_953 rfl 3 rfl ?_
  refine ww_iconst cx dL_law_954 ic_1 ?_
  refine ww_iadd cx dL_law_955 ?_
  refine ww_sld cx sx dL_law_956 hF (fun hF => ?_)
  refine ww_V1_si kv_L_110 rfl cx sh_0 ⟨Nat.le_of_ble_eq_true rfl, Nat.le_of_ble_eq_true rfl⟩ (Nat.le_of_ble_eq_true rfl) dL_law_957 (kX7_shortest G) hF (fun r89 σ90 hF => ?_)
  refine ww_pop cx dL_law_960 rfl ?_
  refine ww_aload_n cx dL_law_961 rfl 2 rfl ?_
  refine ww_aload_n cx dL_law_962 rfl 0 rfl ?_
  refine ww_iload_n cx dL_law_963 rfl 3 rfl ?_
  refine ww_iconst cx dL_law_964 ic_1 ?_
  refine ww_iadd cx dL_law_965 ?_
  refine ww_sld cx sx dL_law_966 hF (fun hF => ?_)
  refine ww_V1_pi kv_L_113 rfl cx sh_62 ⟨Nat.le_of_ble_eq_true rfl, Nat.le_of_ble_eq_true rfl⟩ (Nat.le_of_ble_eq_true rfl) dL_law_967 (kX8_shortest G) hF (fun r91 hF => ?_)
  refine ww_pop cx dL_law_970 rfl ?_
  refine ww_goto cx dL_law_971 (tgt := 2390) rfl ?_
  refine ww_iinc (j := 3) (ks := [0, 1, 2, 3]) (lv' := fun v92 => [(3, .int v92), (0, .ref b), (1, .ref (gad G 0)), (2, .ref (gad G 62))]) cx dL_law_2390 (by decide) rfl ic_6 hF (fun _ => rfl) (fun v92 hF => ?_)
  refine ww_goto cx dL_law_2393 (tgt := 18) rfl ?_
  exact ww_sub [1, 2, 3, 0] rfl (hk18 _ _ hF)
theorem kL_b974 {G : GT} {X : CT} {b L : Nat} {xs : Nat → Int32} (cx : Cx G X RL code 4 1000) (sx : SX X b L xs) (hE : ∀ (σ : St) (lv : List (Nat × Value)) (pc : Nat), decode code pc = .ok (.ireturn, 1) → WW G X 4 σ lv pc [.int 1]) {kr18 : St → Int32 → Option Int32} (hk18 : ∀ (σ : St) (x3 : Int32), kr18 σ x3 = some 1 → WW G X 4 σ [(0, .ref b), (1, .ref (gad G 0)), (2, .ref (gad G 62)), (3, .int x3)] 18 []) (σ : St) (x3 : Int32) (hF : fL_b974 L xs kr18 σ x3 = some 1) : WW G X 4 σ [(0, .ref b), (1, .ref (gad G 0)), (2, .ref (gad G 62)), (3, .int x3)] 974 [] := by
  unfold fL_b974 at hF
  refine ww_aload_n cx dL_law_974 rfl 1 rfl ?_
  refine ww_aload_n cx dL_law_975 rfl 0 rfl ?_
  refine ww_iload_n cx dL_law_976 rfl 3 rfl ?_
  refine ww_iconst cx dL_law_977 ic_1 ?_
  refine ww_iadd cx dL_law_978 ?_
  refine ww_sld cx sx dL_law_979 hF (fun hF => ?_)
  refine ww_V1_si kv_L_114 rfl cx sh_0 ⟨Nat.le_of_ble_eq_true rfl, Nat.le_of_ble_eq_true rfl⟩ (Nat.le_of_ble_eq_true rfl) dL_law_980 (kX7_proof G) hF (fun r93 σ94 hF => ?_)
  refine ww_pop cx dL_law_983 rfl ?_
  refine ww_aload_n cx dL_law_984 rfl 2 rfl ?_
  refine ww_aload_n cx dL_law_985 rfl 0 rfl ?_
  refine ww_iload_n cx dL_law_986 rfl 3 rfl ?_
  refine ww_iconst cx dL_law_987 ic_1 ?_
  refine ww_iadd cx dL_law_988 ?_
  refine ww_sld cx sx dL_law_989 hF (fun hF => ?_)
  refine ww_V1_pi kv_L_117 rfl cx sh_62 ⟨Nat.le_of_ble_eq_true rfl, Nat.le_of_ble_eq_true rfl⟩ (Nat.le_of_ble_eq_true rfl) dL_law_990 (kX8_proof G) hF (fun r95 hF => ?_)
  refine ww_pop cx dL_law_993 rfl ?_
  refine ww_goto cx dL_law_994 (tgt := 2390) rfl ?_
  refine ww_iinc (j := 3) (ks := [0, 1, 2, 3]) (lv' := fun v96 => [(3, .int v96), (0, .ref b), (1, .ref (gad G 0)), (2, .ref (gad G 62))]) cx dL_law_2390 (by decide) rfl ic_6 hF (fun _ => rfl) (fun v96 hF => ?_)
  refine ww_goto cx dL_law_2393 (tgt := 18) rfl ?_
  exact ww_sub [1, 2, 3, 0] rfl (hk18 _ _ hF)
theorem kL_b997 {G : GT} {X : CT} {b L : Nat} {xs : Nat → Int32} (cx : Cx G X RL code 4 1000) (sx : SX X b L xs) (hE : ∀ (σ : St) (lv : List (Nat × Value)) (pc : Nat), decode code pc = .ok (.ireturn, 1) → WW G X 4 σ lv pc [.int 1]) {kr18 : St → Int32 → Option Int32} (hk18 : ∀ (σ : St) (x3 : Int32), kr18 σ x3 = some 1 → WW G X 4 σ [(0, .ref b), (1, .ref (gad G 0)), (2, .ref (gad G 62)), (3, .int x3)] 18 []) (σ : St) (x3 : Int32) (hF : fL_b997 L xs kr18 σ x3 = some 1) : WW G X 4 σ [(0, .ref b), (1, .ref (gad G 0)), (2, .ref (gad G 62)), (3, .int x3)] 997 [] := by
  unfold fL_b997 at hF
  refine ww_aload_n cx dL_law_997 rfl 1 rfl ?_
  refine ww_aload_n cx dL_law_998 rfl 0 rfl ?_
  refine ww_iload_n cx dL_law_999 rfl 3 rfl ?_
  refine ww_iconst cx dL_law_1000 ic_1 ?_
  refine ww_iadd cx dL_law_1001 ?_
  refine ww_sld cx sx dL_law_1002 hF (fun hF => ?_)
  refine ww_aload_n cx dL_law_1003 rfl 0 rfl ?_
  refine ww_iload_n cx dL_law_1004 rfl 3 rfl ?_
  refine ww_iconst cx dL_law_1005 ic_2 ?_
  refine ww_iadd cx dL_law_1006 ?_
  refine ww_sld cx sx dL_law_1007 hF (fun hF => ?_)
  refine ww_V2_si kv_L_118 rfl cx sh_0 ⟨Nat.le_of_ble_eq_true rfl, Nat.le_of_ble_eq_true rfl⟩ (Nat.le_of_ble_eq_true rfl) dL_law_1008 (kX7_bite G) hF (fun r97 σ98 hF => ?_)
  refine ww_pop cx dL_law_1011 rfl ?_
  refine ww_aload_n cx dL_law_1012 rfl 2 rfl ?_
  refine ww_aload_n cx dL_law_1013 rfl 0 rfl ?_
  refine ww_iload_n cx dL_law_1014 rfl 3 rfl ?_
  refine ww_iconst cx dL_law_1015 ic_1 ?_
  refine ww_iadd cx dL_law_1016 ?_
  refine ww_sld cx sx dL_law_1017 hF (fun hF => ?_)
  refine ww_aload_n cx dL_law_1018 rfl 0 rfl ?_
  refine ww_iload_n cx dL_law_1019 rfl 3 rfl ?_
  refine ww_iconst cx dL_law_1020 ic_2 ?_
  refine ww_iadd cx dL_law_1021 ?_
  refine ww_sld cx sx dL_law_1022 hF (fun hF => ?_)
  refine ww_V2_pi kv_L_121 rfl cx sh_62 ⟨Nat.le_of_ble_eq_true rfl, Nat.le_of_ble_eq_true rfl⟩ (Nat.le_of_ble_eq_true rfl) dL_law_1023 (kX8_bite G) hF (fun r99 hF => ?_)
  refine ww_pop cx dL_law_1026 rfl ?_
  refine ww_goto cx dL_law_1027 (tgt := 2390) rfl ?_
  refine ww_iinc (j := 3) (ks := [0, 1, 2, 3]) (lv' := fun v100 => [(3, .int v100), (0, .ref b), (1, .ref (gad G 0)), (2, .ref (gad G 62))]) cx dL_law_2390 (by decide) rfl ic_6 hF (fun _ => rfl) (fun v100 hF => ?_)
  refine ww_goto cx dL_law_2393 (tgt := 18) rfl ?_
  exact ww_sub [1, 2, 3, 0] rfl (hk18 _ _ hF)
theorem kL_b1030 {G : GT} {X : CT} {b L : Nat} {xs : Nat → Int32} (cx : Cx G X RL code 4 1000) (sx : SX X b L xs) (hE : ∀ (σ : St) (lv : List (Nat × Value)) (pc : Nat), decode code pc = .ok (.ireturn, 1) → WW G X 4 σ lv pc [.int 1]) {kr18 : St → Int32 → Option Int32} (hk18 : ∀ (σ : St) (x3 : Int32), kr18 σ x3 = some 1 → WW G X 4 σ [(0, .ref b), (1, .ref (gad G 0)), (2, .ref (gad G 62)), (3, .int x3)] 18 []) (σ : St) (x3 : Int32) (hF : fL_b1030 L xs kr18 σ x3 = some 1) : WW G X 4 σ [(0, .ref b), (1, .ref (gad G 0)), (2, .ref (gad G 62)), (3, .int x3)] 1030 [] := by
  unfold fL_b1030 at hF
  refine ww_aload_n cx dL_law_1030 rfl 1 rfl ?_
  refine ww_aload_n cx dL_law_1031 rfl 0 rfl ?_
  refine ww_iload_n cx dL_law_1032 rfl 3 rfl ?_
  refine ww_iconst cx dL_law_1033 ic_1 ?_
  refine ww_iadd cx dL_law_1034 ?_
  refine ww_sld cx sx dL_law_1035 hF (fun hF => ?_)
  refine ww_V1_si kv_L_122 rfl cx sh_0 ⟨Nat.le_of_ble_eq_true rfl, Nat.le_of_ble_eq_true rfl⟩ (Nat.le_of_ble_eq_true rfl) dL_law_1036 (kX7_proofs G) hF (fun r101 σ102 hF => ?_)
  refine ww_pop cx dL_law_1039 rfl ?_
  refine ww_aload_n cx dL_law_1040 rfl 2 rfl ?_
  refine ww_aload_n cx dL_law_1041 rfl 0 rfl ?_
  refine ww_iload_n cx dL_law_1042 rfl 3 rfl ?_
  refine ww_iconst cx dL_law_1043 ic_1 ?_
  refine ww_iadd cx dL_law_1044 ?_
  refine ww_sld cx sx dL_law_1045 hF (fun hF => ?_)
  refine ww_V1_pi kv_L_125 rfl cx sh_62 ⟨Nat.le_of_ble_eq_true rfl, Nat.le_of_ble_eq_true rfl⟩ (Nat.le_of_ble_eq_true rfl) dL_law_1046 (kX8_proofs G) hF (fun r103 hF => ?_)
  refine ww_pop cx dL_law_1049 rfl ?_
  refine ww_goto cx dL_law_1050 (tgt := 2390) rfl ?_
  refine ww_iinc (j := 3) (ks := [0, 1, 2, 3]) (lv' := fun v104 => [(3, .int v104), (0, .ref b), (1, .ref (gad G 0)), (2, .ref (gad G 62))]) cx dL_law_2390 (by decide) rfl ic_6 hF (fun _ => rfl) (fun v104 hF => ?_)
  refine ww_goto cx dL_law_2393 (tgt := 18) rfl ?_
  exact ww_sub [1, 2, 3, 0] rfl (hk18 _ _ hF)
theorem kL_b1053 {G : GT} {X : CT} {b L : Nat} {xs : Nat → Int32} (cx : Cx G X RL code 4 1000) (sx : SX X b L xs) (hE : ∀ (σ : St) (lv : List (Nat × Value)) (pc : Nat), decode code pc = .ok (.ireturn, 1) → WW G X 4 σ lv pc [.int 1]) {kr18 : St → Int32 → Option Int32} (hk18 : ∀ (σ : St) (x3 : Int32), kr18 σ x3 = some 1 → WW G X 4 σ [(0, .ref b), (1, .ref (gad G 0)), (2, .ref (gad G 62)), (3, .int x3)] 18 []) (σ : St) (x3 : Int32) (hF : fL_b1053 L xs kr18 σ x3 = some 1) : WW G X 4 σ [(0, .ref b), (1, .ref (gad G 0)), (2, .ref (gad G 62)), (3, .int x3)] 1053 [] := by
  unfold fL_b1053 at hF
  refine ww_aload_n cx dL_law_1053 rfl 1 rfl ?_
  refine ww_aload_n cx dL_law_1054 rfl 0 rfl ?_
  refine ww_iload_n cx dL_law_1055 rfl 3 rfl ?_
  refine ww_iconst cx dL_law_1056 ic_1 ?_
  refine ww_iadd cx dL_law_1057 ?_
  refine ww_sld cx sx dL_law_1058 hF (fun hF => ?_)
  refine ww_V1_si kv_L_126 rfl cx sh_0 ⟨Nat.le_of_ble_eq_true rfl, Nat.le_of_ble_eq_true rfl⟩ (Nat.le_of_ble_eq_true rfl) dL_law_1059 (kX7_needs G) hF (fun r105 σ106 hF => ?_)
  refine ww_pop cx dL_law_1062 rfl ?_
  refine ww_aload_n cx dL_law_1063 rfl 2 rfl ?_
  refine ww_aload_n cx dL_law_1064 rfl 0 rfl ?_
  refine ww_iload_n cx dL_law_1065 rfl 3 rfl ?_
  refine ww_iconst cx dL_law_1066 ic_1 ?_
  refine ww_iadd cx dL_law_1067 ?_
  refine ww_sld cx sx dL_law_1068 hF (fun hF => ?_)
  refine ww_V1_pi kv_L_129 rfl cx sh_62 ⟨Nat.le_of_ble_eq_true rfl, Nat.le_of_ble_eq_true rfl⟩ (Nat.le_of_ble_eq_true rfl) dL_law_1069 (kX8_needs_ G) hF (fun r107 hF => ?_)
  refine ww_pop cx dL_law_1072 rfl ?_
  refine ww_goto cx dL_law_1073 (tgt := 2390) rfl ?_
  refine ww_iinc (j := 3) (ks := [0, 1, 2, 3]) (lv' := fun v108 => [(3, .int v108), (0, .ref b), (1, .ref (gad G 0)), (2, .ref (gad G 62))]) cx dL_law_2390 (by decide) rfl ic_6 hF (fun _ => rfl) (fun v108 hF => ?_)
  refine ww_goto cx dL_law_2393 (tgt := 18) rfl ?_
  exact ww_sub [1, 2, 3, 0] rfl (hk18 _ _ hF)
theorem kL_b1076 {G : GT} {X : CT} {b L : Nat} {xs : Nat → Int32} (cx : Cx G X RL code 4 1000) (sx : SX X b L xs) (hE : ∀ (σ : St) (lv : List (Nat × Value)) (pc : Nat), decode code pc = .ok (.ireturn, 1) → WW G X 4 σ lv pc [.int 1]) {kr18 : St → Int32 → Option Int32} (hk18 : ∀ (σ : St) (x3 : Int32), kr18 σ x3 = some 1 → WW G X 4 σ [(0, .ref b), (1, .ref (gad G 0)), (2, .ref (gad G 62)), (3, .int x3)] 18 []) (σ : St) (x3 : Int32) (hF : fL_b1076 L xs kr18 σ x3 = some 1) : WW G X 4 σ [(0, .ref b), (1, .ref (gad G 0)), (2, .ref (gad G 62)), (3, .int x3)] 1076 [] := by
  unfold fL_b1076 at hF
  refine ww_aload_n cx dL_law_1076 rfl 1 rfl ?_
  refine ww_aload_n cx dL_law_1077 rfl 0 rfl ?_
  refine ww_iload_n cx dL_law_1078 rfl 3 rfl ?_
  refine ww_iconst cx dL_law_1079 ic_1 ?_
  refine ww_iadd cx dL_law_1080 ?_
  refine ww_sld cx sx dL_law_1081 hF (fun hF => ?_)
  refine ww_V1_si kv_L_130 rfl cx sh_0 ⟨Nat.le_of_ble_eq_true rfl, Nat.le_of_ble_eq_true rfl⟩ (Nat.le_of_ble_eq_true rfl) dL_law_1082 (kX7_rests G) hF (fun r109 σ110 hF => ?_)
  refine ww_pop cx dL_law_1085 rfl ?_
  refine ww_aload_n cx dL_law_1086 rfl 2 rfl ?_
  refine ww_aload_n cx dL_law_1087 rfl 0 rfl ?_
  refine ww_iload_n cx dL_law_1088 rfl 3 rfl ?_
  refine ww_iconst cx dL_law_1089 ic_1 ?_
  refine ww_iadd cx dL_law_1090 ?_
  refine ww_sld cx sx dL_law_1091 hF (fun hF => ?_)
  refine ww_V1_pi kv_L_133 rfl cx sh_62 ⟨Nat.le_of_ble_eq_true rfl, Nat.le_of_ble_eq_true rfl⟩ (Nat.le_of_ble_eq_true rfl) dL_law_1092 (kX8_rests G) hF (fun r111 hF => ?_)
  refine ww_pop cx dL_law_1095 rfl ?_
  refine ww_goto cx dL_law_1096 (tgt := 2390) rfl ?_
  refine ww_iinc (j := 3) (ks := [0, 1, 2, 3]) (lv' := fun v112 => [(3, .int v112), (0, .ref b), (1, .ref (gad G 0)), (2, .ref (gad G 62))]) cx dL_law_2390 (by decide) rfl ic_6 hF (fun _ => rfl) (fun v112 hF => ?_)
  refine ww_goto cx dL_law_2393 (tgt := 18) rfl ?_
  exact ww_sub [1, 2, 3, 0] rfl (hk18 _ _ hF)
theorem kL_b1099 {G : GT} {X : CT} {b L : Nat} {xs : Nat → Int32} (cx : Cx G X RL code 4 1000) (sx : SX X b L xs) (hE : ∀ (σ : St) (lv : List (Nat × Value)) (pc : Nat), decode code pc = .ok (.ireturn, 1) → WW G X 4 σ lv pc [.int 1]) {kr18 : St → Int32 → Option Int32} (hk18 : ∀ (σ : St) (x3 : Int32), kr18 σ x3 = some 1 → WW G X 4 σ [(0, .ref b), (1, .ref (gad G 0)), (2, .ref (gad G 62)), (3, .int x3)] 18 []) (σ : St) (x3 : Int32) (hF : fL_b1099 L xs kr18 σ x3 = some 1) : WW G X 4 σ [(0, .ref b), (1, .ref (gad G 0)), (2, .ref (gad G 62)), (3, .int x3)] 1099 [] := by
  unfold fL_b1099 at hF
  refine ww_aload_n cx dL_law_1099 rfl 1 rfl ?_
  refine ww_aload_n cx dL_law_1100 rfl 0 rfl ?_
  refine ww_iload_n cx dL_law_1101 rfl 3 rfl ?_
  refine ww_iconst cx dL_law_1102 ic_1 ?_
  refine ww_iadd cx dL_law_1103 ?_
  refine ww_sld cx sx dL_law_1104 hF (fun hF => ?_)
  refine ww_V1_si kv_L_134 rfl cx sh_0 ⟨Nat.le_of_ble_eq_true rfl, Nat.le_of_ble_eq_true rfl⟩ (Nat.le_of_ble_eq_true rfl) dL_law_1105 (kX7_menu G) hF (fun r113 σ114 hF => ?_)
  refine ww_pop cx dL_law_1108 rfl ?_
  refine ww_aload_n cx dL_law_1109 rfl 2 rfl ?_
  refine ww_aload_n cx dL_law_1110 rfl 0 rfl ?_
  refine ww_iload_n cx dL_law_1111 rfl 3 rfl ?_
  refine ww_iconst cx dL_law_1112 ic_1 ?_
  refine ww_iadd cx dL_law_1113 ?_
  refine ww_sld cx sx dL_law_1114 hF (fun hF => ?_)
  refine ww_V1_si kv_L_137 rfl cx sh_62 ⟨Nat.le_of_ble_eq_true rfl, Nat.le_of_ble_eq_true rfl⟩ (Nat.le_of_ble_eq_true rfl) dL_law_1115 (kX8_menu G) hF (fun r115 σ116 hF => ?_)
  refine ww_pop cx dL_law_1118 rfl ?_
  refine ww_goto cx dL_law_1119 (tgt := 2390) rfl ?_
  refine ww_iinc (j := 3) (ks := [0, 1, 2, 3]) (lv' := fun v117 => [(3, .int v117), (0, .ref b), (1, .ref (gad G 0)), (2, .ref (gad G 62))]) cx dL_law_2390 (by decide) rfl ic_6 hF (fun _ => rfl) (fun v117 hF => ?_)
  refine ww_goto cx dL_law_2393 (tgt := 18) rfl ?_
  exact ww_sub [1, 2, 3, 0] rfl (hk18 _ _ hF)
theorem kL_b1122 {G : GT} {X : CT} {b L : Nat} {xs : Nat → Int32} (cx : Cx G X RL code 4 1000) (sx : SX X b L xs) (hE : ∀ (σ : St) (lv : List (Nat × Value)) (pc : Nat), decode code pc = .ok (.ireturn, 1) → WW G X 4 σ lv pc [.int 1]) {kr18 : St → Int32 → Option Int32} (hk18 : ∀ (σ : St) (x3 : Int32), kr18 σ x3 = some 1 → WW G X 4 σ [(0, .ref b), (1, .ref (gad G 0)), (2, .ref (gad G 62)), (3, .int x3)] 18 []) (σ : St) (x3 : Int32) (hF : fL_b1122 L xs kr18 σ x3 = some 1) : WW G X 4 σ [(0, .ref b), (1, .ref (gad G 0)), (2, .ref (gad G 62)), (3, .int x3)] 1122 [] := by
  unfold fL_b1122 at hF
  refine ww_aload_n cx dL_law_1122 rfl 1 rfl ?_
  refine ww_aload_n cx dL_law_1123 rfl 0 rfl ?_
  refine ww_iload_n cx dL_law_1124 rfl 3 rfl ?_
  refine ww_iconst cx dL_law_1125 ic_1 ?_
  refine ww_iadd cx dL_law_1126 ?_
  refine ww_sld cx sx dL_law_1127 hF (fun hF => ?_)
  refine ww_V1_si kv_L_138 rfl cx sh_0 ⟨Nat.le_of_ble_eq_true rfl, Nat.le_of_ble_eq_true rfl⟩ (Nat.le_of_ble_eq_true rfl) dL_law_1128 (kX7_course G) hF (fun r118 σ119 hF => ?_)
  refine ww_pop cx dL_law_1131 rfl ?_
  refine ww_aload_n cx dL_law_1132 rfl 2 rfl ?_
  refine ww_aload_n cx dL_law_1133 rfl 0 rfl ?_
  refine ww_iload_n cx dL_law_1134 rfl 3 rfl ?_
  refine ww_iconst cx dL_law_1135 ic_1 ?_
  refine ww_iadd cx dL_law_1136 ?_
  refine ww_sld cx sx dL_law_1137 hF (fun hF => ?_)
  refine ww_V1_si kv_L_141 rfl cx sh_62 ⟨Nat.le_of_ble_eq_true rfl, Nat.le_of_ble_eq_true rfl⟩ (Nat.le_of_ble_eq_true rfl) dL_law_1138 (kX8_course G) hF (fun r120 σ121 hF => ?_)
  refine ww_pop cx dL_law_1141 rfl ?_
  refine ww_goto cx dL_law_1142 (tgt := 2390) rfl ?_
  refine ww_iinc (j := 3) (ks := [0, 1, 2, 3]) (lv' := fun v122 => [(3, .int v122), (0, .ref b), (1, .ref (gad G 0)), (2, .ref (gad G 62))]) cx dL_law_2390 (by decide) rfl ic_6 hF (fun _ => rfl) (fun v122 hF => ?_)
  refine ww_goto cx dL_law_2393 (tgt := 18) rfl ?_
  exact ww_sub [1, 2, 3, 0] rfl (hk18 _ _ hF)
theorem kL_b1145 {G : GT} {X : CT} {b L : Nat} {xs : Nat → Int32} (cx : Cx G X RL code 4 1000) (sx : SX X b L xs) (hE : ∀ (σ : St) (lv : List (Nat × Value)) (pc : Nat), decode code pc = .ok (.ireturn, 1) → WW G X 4 σ lv pc [.int 1]) {kr18 : St → Int32 → Option Int32} (hk18 : ∀ (σ : St) (x3 : Int32), kr18 σ x3 = some 1 → WW G X 4 σ [(0, .ref b), (1, .ref (gad G 0)), (2, .ref (gad G 62)), (3, .int x3)] 18 []) (σ : St) (x3 : Int32) (hF : fL_b1145 L xs kr18 σ x3 = some 1) : WW G X 4 σ [(0, .ref b), (1, .ref (gad G 0)), (2, .ref (gad G 62)), (3, .int x3)] 1145 [] := by
  unfold fL_b1145 at hF
  refine ww_aload_n cx dL_law_1145 rfl 1 rfl ?_
  refine ww_aload_n cx dL_law_1146 rfl 0 rfl ?_
  refine ww_iload_n cx dL_law_1147 rfl 3 rfl ?_
  refine ww_iconst cx dL_law_1148 ic_1 ?_
  refine ww_iadd cx dL_law_1149 ?_
  refine ww_sld cx sx dL_law_1150 hF (fun hF => ?_)
  refine ww_V1_si kv_L_142 rfl cx sh_0 ⟨Nat.le_of_ble_eq_true rfl, Nat.le_of_ble_eq_true rfl⟩ (Nat.le_of_ble_eq_true rfl) dL_law_1151 (kX7_dishes G) hF (fun r123 σ124 hF => ?_)
  refine ww_pop cx dL_law_1154 rfl ?_
  refine ww_aload_n cx dL_law_1155 rfl 2 rfl ?_
  refine ww_aload_n cx dL_law_1156 rfl 0 rfl ?_
  refine ww_iload_n cx dL_law_1157 rfl 3 rfl ?_
  refine ww_iconst cx dL_law_1158 ic_1 ?_
  refine ww_iadd cx dL_law_1159 ?_
  refine ww_sld cx sx dL_law_1160 hF (fun hF => ?_)
  refine ww_V1_si kv_L_145 rfl cx sh_62 ⟨Nat.le_of_ble_eq_true rfl, Nat.le_of_ble_eq_true rfl⟩ (Nat.le_of_ble_eq_true rfl) dL_law_1161 (kX8_dishes G) hF (fun r125 σ126 hF => ?_)
  refine ww_pop cx dL_law_1164 rfl ?_
  refine ww_goto cx dL_law_1165 (tgt := 2390) rfl ?_
  refine ww_iinc (j := 3) (ks := [0, 1, 2, 3]) (lv' := fun v127 => [(3, .int v127), (0, .ref b), (1, .ref (gad G 0)), (2, .ref (gad G 62))]) cx dL_law_2390 (by decide) rfl ic_6 hF (fun _ => rfl) (fun v127 hF => ?_)
  refine ww_goto cx dL_law_2393 (tgt := 18) rfl ?_
  exact ww_sub [1, 2, 3, 0] rfl (hk18 _ _ hF)
theorem kL_b1168 {G : GT} {X : CT} {b L : Nat} {xs : Nat → Int32} (cx : Cx G X RL code 4 1000) (sx : SX X b L xs) (hE : ∀ (σ : St) (lv : List (Nat × Value)) (pc : Nat), decode code pc = .ok (.ireturn, 1) → WW G X 4 σ lv pc [.int 1]) {kr18 : St → Int32 → Option Int32} (hk18 : ∀ (σ : St) (x3 : Int32), kr18 σ x3 = some 1 → WW G X 4 σ [(0, .ref b), (1, .ref (gad G 0)), (2, .ref (gad G 62)), (3, .int x3)] 18 []) (σ : St) (x3 : Int32) (hF : fL_b1168 L xs kr18 σ x3 = some 1) : WW G X 4 σ [(0, .ref b), (1, .ref (gad G 0)), (2, .ref (gad G 62)), (3, .int x3)] 1168 [] := by
  unfold fL_b1168 at hF
  refine ww_aload_n cx dL_law_1168 rfl 1 rfl ?_
  refine ww_aload_n cx dL_law_1169 rfl 0 rfl ?_
  refine ww_iload_n cx dL_law_1170 rfl 3 rfl ?_
  refine ww_iconst cx dL_law_1171 ic_1 ?_
  refine ww_iadd cx dL_law_1172 ?_
  refine ww_sld cx sx dL_law_1173 hF (fun hF => ?_)
  refine ww_aload_n cx dL_law_1174 rfl 0 rfl ?_
  refine ww_iload_n cx dL_law_1175 rfl 3 rfl ?_
  refine ww_iconst cx dL_law_1176 ic_2 ?_
  refine ww_iadd cx dL_law_1177 ?_
  refine ww_sld cx sx dL_law_1178 hF (fun hF => ?_)
  refine ww_V2_si kv_L_146 rfl cx sh_0 ⟨Nat.le_of_ble_eq_true rfl, Nat.le_of_ble_eq_true rfl⟩ (Nat.le_of_ble_eq_true rfl) dL_law_1179 (kX7_takes G) hF (fun r128 σ129 hF => ?_)
  refine ww_pop cx dL_law_1182 rfl ?_
  refine ww_aload_n cx dL_law_1183 rfl 2 rfl ?_
  refine ww_aload_n cx dL_law_1184 rfl 0 rfl ?_
  refine ww_iload_n cx dL_law_1185 rfl 3 rfl ?_
  refine ww_iconst cx dL_law_1186 ic_1 ?_
  refine ww_iadd cx dL_law_1187 ?_
  refine ww_sld cx sx dL_law_1188 hF (fun hF => ?_)
  refine ww_aload_n cx dL_law_1189 rfl 0 rfl ?_
  refine ww_iload_n cx dL_law_1190 rfl 3 rfl ?_
  refine ww_iconst cx dL_law_1191 ic_2 ?_
  refine ww_iadd cx dL_law_1192 ?_
  refine ww_sld cx sx dL_law_1193 hF (fun hF => ?_)
  refine ww_V2_pi kv_L_149 rfl cx sh_62 ⟨Nat.le_of_ble_eq_true rfl, Nat.le_of_ble_eq_true rfl⟩ (Nat.le_of_ble_eq_true rfl) dL_law_1194 (kX8_takes_ G) hF (fun r130 hF => ?_)
  refine ww_pop cx dL_law_1197 rfl ?_
  refine ww_goto cx dL_law_1198 (tgt := 2390) rfl ?_
  refine ww_iinc (j := 3) (ks := [0, 1, 2, 3]) (lv' := fun v131 => [(3, .int v131), (0, .ref b), (1, .ref (gad G 0)), (2, .ref (gad G 62))]) cx dL_law_2390 (by decide) rfl ic_6 hF (fun _ => rfl) (fun v131 hF => ?_)
  refine ww_goto cx dL_law_2393 (tgt := 18) rfl ?_
  exact ww_sub [1, 2, 3, 0] rfl (hk18 _ _ hF)
theorem kL_b1201 {G : GT} {X : CT} {b L : Nat} {xs : Nat → Int32} (cx : Cx G X RL code 4 1000) (sx : SX X b L xs) (hE : ∀ (σ : St) (lv : List (Nat × Value)) (pc : Nat), decode code pc = .ok (.ireturn, 1) → WW G X 4 σ lv pc [.int 1]) {kr18 : St → Int32 → Option Int32} (hk18 : ∀ (σ : St) (x3 : Int32), kr18 σ x3 = some 1 → WW G X 4 σ [(0, .ref b), (1, .ref (gad G 0)), (2, .ref (gad G 62)), (3, .int x3)] 18 []) (σ : St) (x3 : Int32) (hF : fL_b1201 L xs kr18 σ x3 = some 1) : WW G X 4 σ [(0, .ref b), (1, .ref (gad G 0)), (2, .ref (gad G 62)), (3, .int x3)] 1201 [] := by
  unfold fL_b1201 at hF
  refine ww_aload_n cx dL_law_1201 rfl 1 rfl ?_
  refine ww_aload_n cx dL_law_1202 rfl 0 rfl ?_
  refine ww_iload_n cx dL_law_1203 rfl 3 rfl ?_
  refine ww_iconst cx dL_law_1204 ic_1 ?_
  refine ww_iadd cx dL_law_1205 ?_
  refine ww_sld cx sx dL_law_1206 hF (fun hF => ?_)
  refine ww_V1_si kv_L_150 rfl cx sh_0 ⟨Nat.le_of_ble_eq_true rfl, Nat.le_of_ble_eq_true rfl⟩ (Nat.le_of_ble_eq_true rfl) dL_law_1207 (kX7_who G) hF (fun r132 σ133 hF => ?_)
  refine ww_pop cx dL_law_1210 rfl ?_
  refine ww_aload_n cx dL_law_1211 rfl 2 rfl ?_
  refine ww_aload_n cx dL_law_1212 rfl 0 rfl ?_
  refine ww_iload_n cx dL_law_1213 rfl 3 rfl ?_
  refine ww_iconst cx dL_law_1214 ic_1 ?_
  refine ww_iadd cx dL_law_1215 ?_
  refine ww_sld cx sx dL_law_1216 hF (fun hF => ?_)
  refine ww_V1_pi kv_L_153 rfl cx sh_62 ⟨Nat.le_of_ble_eq_true rfl, Nat.le_of_ble_eq_true rfl⟩ (Nat.le_of_ble_eq_true rfl) dL_law_1217 (kX8_who G) hF (fun r134 hF => ?_)
  refine ww_pop cx dL_law_1220 rfl ?_
  refine ww_goto cx dL_law_1221 (tgt := 2390) rfl ?_
  refine ww_iinc (j := 3) (ks := [0, 1, 2, 3]) (lv' := fun v135 => [(3, .int v135), (0, .ref b), (1, .ref (gad G 0)), (2, .ref (gad G 62))]) cx dL_law_2390 (by decide) rfl ic_6 hF (fun _ => rfl) (fun v135 hF => ?_)
  refine ww_goto cx dL_law_2393 (tgt := 18) rfl ?_
  exact ww_sub [1, 2, 3, 0] rfl (hk18 _ _ hF)
theorem kL_b1224 {G : GT} {X : CT} {b L : Nat} {xs : Nat → Int32} (cx : Cx G X RL code 4 1000) (sx : SX X b L xs) (hE : ∀ (σ : St) (lv : List (Nat × Value)) (pc : Nat), decode code pc = .ok (.ireturn, 1) → WW G X 4 σ lv pc [.int 1]) {kr18 : St → Int32 → Option Int32} (hk18 : ∀ (σ : St) (x3 : Int32), kr18 σ x3 = some 1 → WW G X 4 σ [(0, .ref b), (1, .ref (gad G 0)), (2, .ref (gad G 62)), (3, .int x3)] 18 []) (σ : St) (x3 : Int32) (hF : fL_b1224 L xs kr18 σ x3 = some 1) : WW G X 4 σ [(0, .ref b), (1, .ref (gad G 0)), (2, .ref (gad G 62)), (3, .int x3)] 1224 [] := by
  unfold fL_b1224 at hF
  refine ww_aload_n cx dL_law_1224 rfl 1 rfl ?_
  refine ww_aload_n cx dL_law_1225 rfl 0 rfl ?_
  refine ww_iload_n cx dL_law_1226 rfl 3 rfl ?_
  refine ww_iconst cx dL_law_1227 ic_1 ?_
  refine ww_iadd cx dL_law_1228 ?_
  refine ww_sld cx sx dL_law_1229 hF (fun hF => ?_)
  refine ww_V1_si kv_L_154 rfl cx sh_0 ⟨Nat.le_of_ble_eq_true rfl, Nat.le_of_ble_eq_true rfl⟩ (Nat.le_of_ble_eq_true rfl) dL_law_1230 (kX7_host G) hF (fun r136 σ137 hF => ?_)
  refine ww_pop cx dL_law_1233 rfl ?_
  refine ww_aload_n cx dL_law_1234 rfl 2 rfl ?_
  refine ww_aload_n cx dL_law_1235 rfl 0 rfl ?_
  refine ww_iload_n cx dL_law_1236 rfl 3 rfl ?_
  refine ww_iconst cx dL_law_1237 ic_1 ?_
  refine ww_iadd cx dL_law_1238 ?_
  refine ww_sld cx sx dL_law_1239 hF (fun hF => ?_)
  refine ww_V1_pi kv_L_157 rfl cx sh_62 ⟨Nat.le_of_ble_eq_true rfl, Nat.le_of_ble_eq_true rfl⟩ (Nat.le_of_ble_eq_true rfl) dL_law_1240 (kX8_host G) hF (fun r138 hF => ?_)
  refine ww_pop cx dL_law_1243 rfl ?_
  refine ww_goto cx dL_law_1244 (tgt := 2390) rfl ?_
  refine ww_iinc (j := 3) (ks := [0, 1, 2, 3]) (lv' := fun v139 => [(3, .int v139), (0, .ref b), (1, .ref (gad G 0)), (2, .ref (gad G 62))]) cx dL_law_2390 (by decide) rfl ic_6 hF (fun _ => rfl) (fun v139 hF => ?_)
  refine ww_goto cx dL_law_2393 (tgt := 18) rfl ?_
  exact ww_sub [1, 2, 3, 0] rfl (hk18 _ _ hF)
theorem kL_b1247 {G : GT} {X : CT} {b L : Nat} {xs : Nat → Int32} (cx : Cx G X RL code 4 1000) (sx : SX X b L xs) (hE : ∀ (σ : St) (lv : List (Nat × Value)) (pc : Nat), decode code pc = .ok (.ireturn, 1) → WW G X 4 σ lv pc [.int 1]) {kr18 : St → Int32 → Option Int32} (hk18 : ∀ (σ : St) (x3 : Int32), kr18 σ x3 = some 1 → WW G X 4 σ [(0, .ref b), (1, .ref (gad G 0)), (2, .ref (gad G 62)), (3, .int x3)] 18 []) (σ : St) (x3 : Int32) (hF : fL_b1247 L xs kr18 σ x3 = some 1) : WW G X 4 σ [(0, .ref b), (1, .ref (gad G 0)), (2, .ref (gad G 62)), (3, .int x3)] 1247 [] := by
  unfold fL_b1247 at hF
  refine ww_aload_n cx dL_law_1247 rfl 1 rfl ?_
  refine ww_aload_n cx dL_law_1248 rfl 0 rfl ?_
  refine ww_iload_n cx dL_law_1249 rfl 3 rfl ?_
  refine ww_iconst cx dL_law_1250 ic_1 ?_
  refine ww_iadd cx dL_law_1251 ?_
  refine ww_sld cx sx dL_law_1252 hF (fun hF => ?_)
  refine ww_V1_si kv_L_158 rfl cx sh_0 ⟨Nat.le_of_ble_eq_true rfl, Nat.le_of_ble_eq_true rfl⟩ (Nat.le_of_ble_eq_true rfl) dL_law_1253 (kX7_lemma G) hF (fun r140 σ141 hF => ?_)
  refine ww_pop cx dL_law_1256 rfl ?_
  refine ww_aload_n cx dL_law_1257 rfl 2 rfl ?_
  refine ww_aload_n cx dL_law_1258 rfl 0 rfl ?_
  refine ww_iload_n cx dL_law_1259 rfl 3 rfl ?_
  refine ww_iconst cx dL_law_1260 ic_1 ?_
  refine ww_iadd cx dL_law_1261 ?_
  refine ww_sld cx sx dL_law_1262 hF (fun hF => ?_)
  refine ww_V1_si kv_L_161 rfl cx sh_62 ⟨Nat.le_of_ble_eq_true rfl, Nat.le_of_ble_eq_true rfl⟩ (Nat.le_of_ble_eq_true rfl) dL_law_1263 (kX8_lemma G) hF (fun r142 σ143 hF => ?_)
  refine ww_pop cx dL_law_1266 rfl ?_
  refine ww_goto cx dL_law_1267 (tgt := 2390) rfl ?_
  refine ww_iinc (j := 3) (ks := [0, 1, 2, 3]) (lv' := fun v144 => [(3, .int v144), (0, .ref b), (1, .ref (gad G 0)), (2, .ref (gad G 62))]) cx dL_law_2390 (by decide) rfl ic_6 hF (fun _ => rfl) (fun v144 hF => ?_)
  refine ww_goto cx dL_law_2393 (tgt := 18) rfl ?_
  exact ww_sub [1, 2, 3, 0] rfl (hk18 _ _ hF)
theorem kL_b1270 {G : GT} {X : CT} {b L : Nat} {xs : Nat → Int32} (cx : Cx G X RL code 4 1000) (sx : SX X b L xs) (hE : ∀ (σ : St) (lv : List (Nat × Value)) (pc : Nat), decode code pc = .ok (.ireturn, 1) → WW G X 4 σ lv pc [.int 1]) {kr18 : St → Int32 → Option Int32} (hk18 : ∀ (σ : St) (x3 : Int32), kr18 σ x3 = some 1 → WW G X 4 σ [(0, .ref b), (1, .ref (gad G 0)), (2, .ref (gad G 62)), (3, .int x3)] 18 []) (σ : St) (x3 : Int32) (hF : fL_b1270 L xs kr18 σ x3 = some 1) : WW G X 4 σ [(0, .ref b), (1, .ref (gad G 0)), (2, .ref (gad G 62)), (3, .int x3)] 1270 [] := by
  unfold fL_b1270 at hF
  refine ww_aload_n cx dL_law_1270 rfl 1 rfl ?_
  refine ww_aload_n cx dL_law_1271 rfl 0 rfl ?_
  refine ww_iload_n cx dL_law_1272 rfl 3 rfl ?_
  refine ww_iconst cx dL_law_1273 ic_1 ?_
  refine ww_iadd cx dL_law_1274 ?_
  refine ww_sld cx sx dL_law_1275 hF (fun hF => ?_)
  refine ww_V1_si kv_L_162 rfl cx sh_0 ⟨Nat.le_of_ble_eq_true rfl, Nat.le_of_ble_eq_true rfl⟩ (Nat.le_of_ble_eq_true rfl) dL_law_1276 (kX7_brings G) hF (fun r145 σ146 hF => ?_)
  refine ww_pop cx dL_law_1279 rfl ?_
  refine ww_aload_n cx dL_law_1280 rfl 2 rfl ?_
  refine ww_aload_n cx dL_law_1281 rfl 0 rfl ?_
  refine ww_iload_n cx dL_law_1282 rfl 3 rfl ?_
  refine ww_iconst cx dL_law_1283 ic_1 ?_
  refine ww_iadd cx dL_law_1284 ?_
  refine ww_sld cx sx dL_law_1285 hF (fun hF => ?_)
  refine ww_V1_si kv_L_165 rfl cx sh_62 ⟨Nat.le_of_ble_eq_true rfl, Nat.le_of_ble_eq_true rfl⟩ (Nat.le_of_ble_eq_true rfl) dL_law_1286 (kX8_brings G) hF (fun r147 σ148 hF => ?_)
  refine ww_pop cx dL_law_1289 rfl ?_
  refine ww_goto cx dL_law_1290 (tgt := 2390) rfl ?_
  refine ww_iinc (j := 3) (ks := [0, 1, 2, 3]) (lv' := fun v149 => [(3, .int v149), (0, .ref b), (1, .ref (gad G 0)), (2, .ref (gad G 62))]) cx dL_law_2390 (by decide) rfl ic_6 hF (fun _ => rfl) (fun v149 hF => ?_)
  refine ww_goto cx dL_law_2393 (tgt := 18) rfl ?_
  exact ww_sub [1, 2, 3, 0] rfl (hk18 _ _ hF)
theorem kL_b1293 {G : GT} {X : CT} {b L : Nat} {xs : Nat → Int32} (cx : Cx G X RL code 4 1000) (sx : SX X b L xs) (hE : ∀ (σ : St) (lv : List (Nat × Value)) (pc : Nat), decode code pc = .ok (.ireturn, 1) → WW G X 4 σ lv pc [.int 1]) {kr18 : St → Int32 → Option Int32} (hk18 : ∀ (σ : St) (x3 : Int32), kr18 σ x3 = some 1 → WW G X 4 σ [(0, .ref b), (1, .ref (gad G 0)), (2, .ref (gad G 62)), (3, .int x3)] 18 []) (σ : St) (x3 : Int32) (hF : fL_b1293 L xs kr18 σ x3 = some 1) : WW G X 4 σ [(0, .ref b), (1, .ref (gad G 0)), (2, .ref (gad G 62)), (3, .int x3)] 1293 [] := by
  unfold fL_b1293 at hF
  refine ww_aload_n cx dL_law_1293 rfl 1 rfl ?_
  refine ww_aload_n cx dL_law_1294 rfl 0 rfl ?_
  refine ww_iload_n cx dL_law_1295 rfl 3 rfl ?_
  refine ww_iconst cx dL_law_1296 ic_1 ?_
  refine ww_iadd cx dL_law_1297 ?_
  refine ww_sld cx sx dL_law_1298 hF (fun hF => ?_)
  refine ww_V1_pi kv_L_166 rfl cx sh_0 ⟨Nat.le_of_ble_eq_true rfl, Nat.le_of_ble_eq_true rfl⟩ (Nat.le_of_ble_eq_true rfl) dL_law_1299 (kX7_strength G) hF (fun r150 hF => ?_)
  refine ww_pop cx dL_law_1302 rfl ?_
  refine ww_aload_n cx dL_law_1303 rfl 2 rfl ?_
  refine ww_aload_n cx dL_law_1304 rfl 0 rfl ?_
  refine ww_iload_n cx dL_law_1305 rfl 3 rfl ?_
  refine ww_iconst cx dL_law_1306 ic_1 ?_
  refine ww_iadd cx dL_law_1307 ?_
  refine ww_sld cx sx dL_law_1308 hF (fun hF => ?_)
  refine ww_V1_pi kv_L_169 rfl cx sh_62 ⟨Nat.le_of_ble_eq_true rfl, Nat.le_of_ble_eq_true rfl⟩ (Nat.le_of_ble_eq_true rfl) dL_law_1309 (kX8_strength G) hF (fun r151 hF => ?_)
  refine ww_pop cx dL_law_1312 rfl ?_
  refine ww_goto cx dL_law_1313 (tgt := 2390) rfl ?_
  refine ww_iinc (j := 3) (ks := [0, 1, 2, 3]) (lv' := fun v152 => [(3, .int v152), (0, .ref b), (1, .ref (gad G 0)), (2, .ref (gad G 62))]) cx dL_law_2390 (by decide) rfl ic_6 hF (fun _ => rfl) (fun v152 hF => ?_)
  refine ww_goto cx dL_law_2393 (tgt := 18) rfl ?_
  exact ww_sub [1, 2, 3, 0] rfl (hk18 _ _ hF)
theorem kL_b1316 {G : GT} {X : CT} {b L : Nat} {xs : Nat → Int32} (cx : Cx G X RL code 4 1000) (sx : SX X b L xs) (hE : ∀ (σ : St) (lv : List (Nat × Value)) (pc : Nat), decode code pc = .ok (.ireturn, 1) → WW G X 4 σ lv pc [.int 1]) {kr18 : St → Int32 → Option Int32} (hk18 : ∀ (σ : St) (x3 : Int32), kr18 σ x3 = some 1 → WW G X 4 σ [(0, .ref b), (1, .ref (gad G 0)), (2, .ref (gad G 62)), (3, .int x3)] 18 []) (σ : St) (x3 : Int32) (hF : fL_b1316 L xs kr18 σ x3 = some 1) : WW G X 4 σ [(0, .ref b), (1, .ref (gad G 0)), (2, .ref (gad G 62)), (3, .int x3)] 1316 [] := by
  unfold fL_b1316 at hF
  refine ww_aload_n cx dL_law_1316 rfl 1 rfl ?_
  refine ww_aload_n cx dL_law_1317 rfl 0 rfl ?_
  refine ww_iload_n cx dL_law_1318 rfl 3 rfl ?_
  refine ww_iconst cx dL_law_1319 ic_1 ?_
  refine ww_iadd cx dL_law_1320 ?_
  refine ww_sld cx sx dL_law_1321 hF (fun hF => ?_)
  refine ww_aload_n cx dL_law_1322 rfl 0 rfl ?_
  refine ww_iload_n cx dL_law_1323 rfl 3 rfl ?_
  refine ww_iconst cx dL_law_1324 ic_2 ?_
  refine ww_iadd cx dL_law_1325 ?_
  refine ww_sld cx sx dL_law_1326 hF (fun hF => ?_)
  refine ww_V2_si kv_L_170 rfl cx sh_0 ⟨Nat.le_of_ble_eq_true rfl, Nat.le_of_ble_eq_true rfl⟩ (Nat.le_of_ble_eq_true rfl) dL_law_1327 (kX7_together G) hF (fun r153 σ154 hF => ?_)
  refine ww_pop cx dL_law_1330 rfl ?_
  refine ww_aload_n cx dL_law_1331 rfl 2 rfl ?_
  refine ww_aload_n cx dL_law_1332 rfl 0 rfl ?_
  refine ww_iload_n cx dL_law_1333 rfl 3 rfl ?_
  refine ww_iconst cx dL_law_1334 ic_1 ?_
  refine ww_iadd cx dL_law_1335 ?_
  refine ww_sld cx sx dL_law_1336 hF (fun hF => ?_)
  refine ww_aload_n cx dL_law_1337 rfl 0 rfl ?_
  refine ww_iload_n cx dL_law_1338 rfl 3 rfl ?_
  refine ww_iconst cx dL_law_1339 ic_2 ?_
  refine ww_iadd cx dL_law_1340 ?_
  refine ww_sld cx sx dL_law_1341 hF (fun hF => ?_)
  refine ww_V2_pi kv_L_173 rfl cx sh_62 ⟨Nat.le_of_ble_eq_true rfl, Nat.le_of_ble_eq_true rfl⟩ (Nat.le_of_ble_eq_true rfl) dL_law_1342 (kX8_together G) hF (fun r155 hF => ?_)
  refine ww_pop cx dL_law_1345 rfl ?_
  refine ww_goto cx dL_law_1346 (tgt := 2390) rfl ?_
  refine ww_iinc (j := 3) (ks := [0, 1, 2, 3]) (lv' := fun v156 => [(3, .int v156), (0, .ref b), (1, .ref (gad G 0)), (2, .ref (gad G 62))]) cx dL_law_2390 (by decide) rfl ic_6 hF (fun _ => rfl) (fun v156 hF => ?_)
  refine ww_goto cx dL_law_2393 (tgt := 18) rfl ?_
  exact ww_sub [1, 2, 3, 0] rfl (hk18 _ _ hF)
theorem kL_b1349 {G : GT} {X : CT} {b L : Nat} {xs : Nat → Int32} (cx : Cx G X RL code 4 1000) (sx : SX X b L xs) (hE : ∀ (σ : St) (lv : List (Nat × Value)) (pc : Nat), decode code pc = .ok (.ireturn, 1) → WW G X 4 σ lv pc [.int 1]) {kr18 : St → Int32 → Option Int32} (hk18 : ∀ (σ : St) (x3 : Int32), kr18 σ x3 = some 1 → WW G X 4 σ [(0, .ref b), (1, .ref (gad G 0)), (2, .ref (gad G 62)), (3, .int x3)] 18 []) (σ : St) (x3 : Int32) (hF : fL_b1349 L xs kr18 σ x3 = some 1) : WW G X 4 σ [(0, .ref b), (1, .ref (gad G 0)), (2, .ref (gad G 62)), (3, .int x3)] 1349 [] := by
  unfold fL_b1349 at hF
  refine ww_aload_n cx dL_law_1349 rfl 1 rfl ?_
  refine ww_aload_n cx dL_law_1350 rfl 0 rfl ?_
  refine ww_iload_n cx dL_law_1351 rfl 3 rfl ?_
  refine ww_iconst cx dL_law_1352 ic_1 ?_
  refine ww_iadd cx dL_law_1353 ?_
  refine ww_sld cx sx dL_law_1354 hF (fun hF => ?_)
  refine ww_V1_si kv_L_174 rfl cx sh_0 ⟨Nat.le_of_ble_eq_true rfl, Nat.le_of_ble_eq_true rfl⟩ (Nat.le_of_ble_eq_true rfl) dL_law_1355 (kX7_fewest G) hF (fun r157 σ158 hF => ?_)
  refine ww_pop cx dL_law_1358 rfl ?_
  refine ww_aload_n cx dL_law_1359 rfl 2 rfl ?_
  refine ww_aload_n cx dL_law_1360 rfl 0 rfl ?_
  refine ww_iload_n cx dL_law_1361 rfl 3 rfl ?_
  refine ww_iconst cx dL_law_1362 ic_1 ?_
  refine ww_iadd cx dL_law_1363 ?_
  refine ww_sld cx sx dL_law_1364 hF (fun hF => ?_)
  refine ww_V1_pi kv_L_177 rfl cx sh_62 ⟨Nat.le_of_ble_eq_true rfl, Nat.le_of_ble_eq_true rfl⟩ (Nat.le_of_ble_eq_true rfl) dL_law_1365 (kX8_fewest G) hF (fun r159 hF => ?_)
  refine ww_pop cx dL_law_1368 rfl ?_
  refine ww_goto cx dL_law_1369 (tgt := 2390) rfl ?_
  refine ww_iinc (j := 3) (ks := [0, 1, 2, 3]) (lv' := fun v160 => [(3, .int v160), (0, .ref b), (1, .ref (gad G 0)), (2, .ref (gad G 62))]) cx dL_law_2390 (by decide) rfl ic_6 hF (fun _ => rfl) (fun v160 hF => ?_)
  refine ww_goto cx dL_law_2393 (tgt := 18) rfl ?_
  exact ww_sub [1, 2, 3, 0] rfl (hk18 _ _ hF)
theorem kL_b1372 {G : GT} {X : CT} {b L : Nat} {xs : Nat → Int32} (cx : Cx G X RL code 4 1000) (sx : SX X b L xs) (hE : ∀ (σ : St) (lv : List (Nat × Value)) (pc : Nat), decode code pc = .ok (.ireturn, 1) → WW G X 4 σ lv pc [.int 1]) {kr18 : St → Int32 → Option Int32} (hk18 : ∀ (σ : St) (x3 : Int32), kr18 σ x3 = some 1 → WW G X 4 σ [(0, .ref b), (1, .ref (gad G 0)), (2, .ref (gad G 62)), (3, .int x3)] 18 []) (σ : St) (x3 : Int32) (hF : fL_b1372 L xs kr18 σ x3 = some 1) : WW G X 4 σ [(0, .ref b), (1, .ref (gad G 0)), (2, .ref (gad G 62)), (3, .int x3)] 1372 [] := by
  unfold fL_b1372 at hF
  refine ww_aload_n cx dL_law_1372 rfl 1 rfl ?_
  refine ww_aload_n cx dL_law_1373 rfl 0 rfl ?_
  refine ww_iload_n cx dL_law_1374 rfl 3 rfl ?_
  refine ww_iconst cx dL_law_1375 ic_1 ?_
  refine ww_iadd cx dL_law_1376 ?_
  refine ww_sld cx sx dL_law_1377 hF (fun hF => ?_)
  refine ww_V1_si kv_L_178 rfl cx sh_0 ⟨Nat.le_of_ble_eq_true rfl, Nat.le_of_ble_eq_true rfl⟩ (Nat.le_of_ble_eq_true rfl) dL_law_1378 (kX7_team G) hF (fun r161 σ162 hF => ?_)
  refine ww_pop cx dL_law_1381 rfl ?_
  refine ww_aload_n cx dL_law_1382 rfl 2 rfl ?_
  refine ww_aload_n cx dL_law_1383 rfl 0 rfl ?_
  refine ww_iload_n cx dL_law_1384 rfl 3 rfl ?_
  refine ww_iconst cx dL_law_1385 ic_1 ?_
  refine ww_iadd cx dL_law_1386 ?_
  refine ww_sld cx sx dL_law_1387 hF (fun hF => ?_)
  refine ww_V1_pi kv_L_181 rfl cx sh_62 ⟨Nat.le_of_ble_eq_true rfl, Nat.le_of_ble_eq_true rfl⟩ (Nat.le_of_ble_eq_true rfl) dL_law_1388 (kX8_team G) hF (fun r163 hF => ?_)
  refine ww_pop cx dL_law_1391 rfl ?_
  refine ww_goto cx dL_law_1392 (tgt := 2390) rfl ?_
  refine ww_iinc (j := 3) (ks := [0, 1, 2, 3]) (lv' := fun v164 => [(3, .int v164), (0, .ref b), (1, .ref (gad G 0)), (2, .ref (gad G 62))]) cx dL_law_2390 (by decide) rfl ic_6 hF (fun _ => rfl) (fun v164 hF => ?_)
  refine ww_goto cx dL_law_2393 (tgt := 18) rfl ?_
  exact ww_sub [1, 2, 3, 0] rfl (hk18 _ _ hF)
theorem kL_b1395 {G : GT} {X : CT} {b L : Nat} {xs : Nat → Int32} (cx : Cx G X RL code 4 1000) (sx : SX X b L xs) (hE : ∀ (σ : St) (lv : List (Nat × Value)) (pc : Nat), decode code pc = .ok (.ireturn, 1) → WW G X 4 σ lv pc [.int 1]) {kr18 : St → Int32 → Option Int32} (hk18 : ∀ (σ : St) (x3 : Int32), kr18 σ x3 = some 1 → WW G X 4 σ [(0, .ref b), (1, .ref (gad G 0)), (2, .ref (gad G 62)), (3, .int x3)] 18 []) (σ : St) (x3 : Int32) (hF : fL_b1395 L xs kr18 σ x3 = some 1) : WW G X 4 σ [(0, .ref b), (1, .ref (gad G 0)), (2, .ref (gad G 62)), (3, .int x3)] 1395 [] := by
  unfold fL_b1395 at hF
  refine ww_aload_n cx dL_law_1395 rfl 1 rfl ?_
  refine ww_aload_n cx dL_law_1396 rfl 0 rfl ?_
  refine ww_iload_n cx dL_law_1397 rfl 3 rfl ?_
  refine ww_iconst cx dL_law_1398 ic_1 ?_
  refine ww_iadd cx dL_law_1399 ?_
  refine ww_sld cx sx dL_law_1400 hF (fun hF => ?_)
  refine ww_aload_n cx dL_law_1401 rfl 0 rfl ?_
  refine ww_iload_n cx dL_law_1402 rfl 3 rfl ?_
  refine ww_iconst cx dL_law_1403 ic_2 ?_
  refine ww_iadd cx dL_law_1404 ?_
  refine ww_sld cx sx dL_law_1405 hF (fun hF => ?_)
  refine ww_V2_si kv_L_182 rfl cx sh_0 ⟨Nat.le_of_ble_eq_true rfl, Nat.le_of_ble_eq_true rfl⟩ (Nat.le_of_ble_eq_true rfl) dL_law_1406 (kX7_claims G) hF (fun r165 σ166 hF => ?_)
  refine ww_pop cx dL_law_1409 rfl ?_
  refine ww_aload_n cx dL_law_1410 rfl 2 rfl ?_
  refine ww_aload_n cx dL_law_1411 rfl 0 rfl ?_
  refine ww_iload_n cx dL_law_1412 rfl 3 rfl ?_
  refine ww_iconst cx dL_law_1413 ic_1 ?_
  refine ww_iadd cx dL_law_1414 ?_
  refine ww_sld cx sx dL_law_1415 hF (fun hF => ?_)
  refine ww_aload_n cx dL_law_1416 rfl 0 rfl ?_
  refine ww_iload_n cx dL_law_1417 rfl 3 rfl ?_
  refine ww_iconst cx dL_law_1418 ic_2 ?_
  refine ww_iadd cx dL_law_1419 ?_
  refine ww_sld cx sx dL_law_1420 hF (fun hF => ?_)
  refine ww_V2_si kv_L_185 rfl cx sh_62 ⟨Nat.le_of_ble_eq_true rfl, Nat.le_of_ble_eq_true rfl⟩ (Nat.le_of_ble_eq_true rfl) dL_law_1421 (kX8_claims G) hF (fun r167 σ168 hF => ?_)
  refine ww_pop cx dL_law_1424 rfl ?_
  refine ww_goto cx dL_law_1425 (tgt := 2390) rfl ?_
  refine ww_iinc (j := 3) (ks := [0, 1, 2, 3]) (lv' := fun v169 => [(3, .int v169), (0, .ref b), (1, .ref (gad G 0)), (2, .ref (gad G 62))]) cx dL_law_2390 (by decide) rfl ic_6 hF (fun _ => rfl) (fun v169 hF => ?_)
  refine ww_goto cx dL_law_2393 (tgt := 18) rfl ?_
  exact ww_sub [1, 2, 3, 0] rfl (hk18 _ _ hF)
theorem kL_b1428 {G : GT} {X : CT} {b L : Nat} {xs : Nat → Int32} (cx : Cx G X RL code 4 1000) (sx : SX X b L xs) (hE : ∀ (σ : St) (lv : List (Nat × Value)) (pc : Nat), decode code pc = .ok (.ireturn, 1) → WW G X 4 σ lv pc [.int 1]) {kr18 : St → Int32 → Option Int32} (hk18 : ∀ (σ : St) (x3 : Int32), kr18 σ x3 = some 1 → WW G X 4 σ [(0, .ref b), (1, .ref (gad G 0)), (2, .ref (gad G 62)), (3, .int x3)] 18 []) (σ : St) (x3 : Int32) (hF : fL_b1428 L xs kr18 σ x3 = some 1) : WW G X 4 σ [(0, .ref b), (1, .ref (gad G 0)), (2, .ref (gad G 62)), (3, .int x3)] 1428 [] := by
  unfold fL_b1428 at hF
  refine ww_aload_n cx dL_law_1428 rfl 1 rfl ?_
  refine ww_aload_n cx dL_law_1429 rfl 0 rfl ?_
  refine ww_iload_n cx dL_law_1430 rfl 3 rfl ?_
  refine ww_iconst cx dL_law_1431 ic_1 ?_
  refine ww_iadd cx dL_law_1432 ?_
  refine ww_sld cx sx dL_law_1433 hF (fun hF => ?_)
  refine ww_aload_n cx dL_law_1434 rfl 0 rfl ?_
  refine ww_iload_n cx dL_law_1435 rfl 3 rfl ?_
  refine ww_iconst cx dL_law_1436 ic_2 ?_
  refine ww_iadd cx dL_law_1437 ?_
  refine ww_sld cx sx dL_law_1438 hF (fun hF => ?_)
  refine ww_V2_si kv_L_186 rfl cx sh_0 ⟨Nat.le_of_ble_eq_true rfl, Nat.le_of_ble_eq_true rfl⟩ (Nat.le_of_ble_eq_true rfl) dL_law_1439 (kX7_outcome G) hF (fun r170 σ171 hF => ?_)
  refine ww_pop cx dL_law_1442 rfl ?_
  refine ww_aload_n cx dL_law_1443 rfl 2 rfl ?_
  refine ww_aload_n cx dL_law_1444 rfl 0 rfl ?_
  refine ww_iload_n cx dL_law_1445 rfl 3 rfl ?_
  refine ww_iconst cx dL_law_1446 ic_1 ?_
  refine ww_iadd cx dL_law_1447 ?_
  refine ww_sld cx sx dL_law_1448 hF (fun hF => ?_)
  refine ww_aload_n cx dL_law_1449 rfl 0 rfl ?_
  refine ww_iload_n cx dL_law_1450 rfl 3 rfl ?_
  refine ww_iconst cx dL_law_1451 ic_2 ?_
  refine ww_iadd cx dL_law_1452 ?_
  refine ww_sld cx sx dL_law_1453 hF (fun hF => ?_)
  refine ww_V2_si kv_L_189 rfl cx sh_62 ⟨Nat.le_of_ble_eq_true rfl, Nat.le_of_ble_eq_true rfl⟩ (Nat.le_of_ble_eq_true rfl) dL_law_1454 (kX8_outcome G) hF (fun r172 σ173 hF => ?_)
  refine ww_pop cx dL_law_1457 rfl ?_
  refine ww_goto cx dL_law_1458 (tgt := 2390) rfl ?_
  refine ww_iinc (j := 3) (ks := [0, 1, 2, 3]) (lv' := fun v174 => [(3, .int v174), (0, .ref b), (1, .ref (gad G 0)), (2, .ref (gad G 62))]) cx dL_law_2390 (by decide) rfl ic_6 hF (fun _ => rfl) (fun v174 hF => ?_)
  refine ww_goto cx dL_law_2393 (tgt := 18) rfl ?_
  exact ww_sub [1, 2, 3, 0] rfl (hk18 _ _ hF)
theorem kL_b1461 {G : GT} {X : CT} {b L : Nat} {xs : Nat → Int32} (cx : Cx G X RL code 4 1000) (sx : SX X b L xs) (hE : ∀ (σ : St) (lv : List (Nat × Value)) (pc : Nat), decode code pc = .ok (.ireturn, 1) → WW G X 4 σ lv pc [.int 1]) {kr18 : St → Int32 → Option Int32} (hk18 : ∀ (σ : St) (x3 : Int32), kr18 σ x3 = some 1 → WW G X 4 σ [(0, .ref b), (1, .ref (gad G 0)), (2, .ref (gad G 62)), (3, .int x3)] 18 []) (σ : St) (x3 : Int32) (hF : fL_b1461 L xs kr18 σ x3 = some 1) : WW G X 4 σ [(0, .ref b), (1, .ref (gad G 0)), (2, .ref (gad G 62)), (3, .int x3)] 1461 [] := by
  unfold fL_b1461 at hF
  refine ww_aload_n cx dL_law_1461 rfl 1 rfl ?_
  refine ww_aload_n cx dL_law_1462 rfl 0 rfl ?_
  refine ww_iload_n cx dL_law_1463 rfl 3 rfl ?_
  refine ww_iconst cx dL_law_1464 ic_1 ?_
  refine ww_iadd cx dL_law_1465 ?_
  refine ww_sld cx sx dL_law_1466 hF (fun hF => ?_)
  refine ww_aload_n cx dL_law_1467 rfl 0 rfl ?_
  refine ww_iload_n cx dL_law_1468 rfl 3 rfl ?_
  refine ww_iconst cx dL_law_1469 ic_2 ?_
  refine ww_iadd cx dL_law_1470 ?_
  refine ww_sld cx sx dL_law_1471 hF (fun hF => ?_)
  refine ww_V2_si kv_L_190 rfl cx sh_0 ⟨Nat.le_of_ble_eq_true rfl, Nat.le_of_ble_eq_true rfl⟩ (Nat.le_of_ble_eq_true rfl) dL_law_1472 (kX7_kitchen G) hF (fun r175 σ176 hF => ?_)
  refine ww_pop cx dL_law_1475 rfl ?_
  refine ww_aload_n cx dL_law_1476 rfl 2 rfl ?_
  refine ww_aload_n cx dL_law_1477 rfl 0 rfl ?_
  refine ww_iload_n cx dL_law_1478 rfl 3 rfl ?_
  refine ww_iconst cx dL_law_1479 ic_1 ?_
  refine ww_iadd cx dL_law_1480 ?_
  refine ww_sld cx sx dL_law_1481 hF (fun hF => ?_)
  refine ww_aload_n cx dL_law_1482 rfl 0 rfl ?_
  refine ww_iload_n cx dL_law_1483 rfl 3 rfl ?_
  refine ww_iconst cx dL_law_1484 ic_2 ?_
  refine ww_iadd cx dL_law_1485 ?_
  refine ww_sld cx sx dL_law_1486 hF (fun hF => ?_)
  refine ww_V2_si kv_L_193 rfl cx sh_62 ⟨Nat.le_of_ble_eq_true rfl, Nat.le_of_ble_eq_true rfl⟩ (Nat.le_of_ble_eq_true rfl) dL_law_1487 (kX8_kitchen G) hF (fun r177 σ178 hF => ?_)
  refine ww_pop cx dL_law_1490 rfl ?_
  refine ww_goto cx dL_law_1491 (tgt := 2390) rfl ?_
  refine ww_iinc (j := 3) (ks := [0, 1, 2, 3]) (lv' := fun v179 => [(3, .int v179), (0, .ref b), (1, .ref (gad G 0)), (2, .ref (gad G 62))]) cx dL_law_2390 (by decide) rfl ic_6 hF (fun _ => rfl) (fun v179 hF => ?_)
  refine ww_goto cx dL_law_2393 (tgt := 18) rfl ?_
  exact ww_sub [1, 2, 3, 0] rfl (hk18 _ _ hF)
theorem kL_b1494 {G : GT} {X : CT} {b L : Nat} {xs : Nat → Int32} (cx : Cx G X RL code 4 1000) (sx : SX X b L xs) (hE : ∀ (σ : St) (lv : List (Nat × Value)) (pc : Nat), decode code pc = .ok (.ireturn, 1) → WW G X 4 σ lv pc [.int 1]) {kr18 : St → Int32 → Option Int32} (hk18 : ∀ (σ : St) (x3 : Int32), kr18 σ x3 = some 1 → WW G X 4 σ [(0, .ref b), (1, .ref (gad G 0)), (2, .ref (gad G 62)), (3, .int x3)] 18 []) (σ : St) (x3 : Int32) (hF : fL_b1494 L xs kr18 σ x3 = some 1) : WW G X 4 σ [(0, .ref b), (1, .ref (gad G 0)), (2, .ref (gad G 62)), (3, .int x3)] 1494 [] := by
  unfold fL_b1494 at hF
  refine ww_aload_n cx dL_law_1494 rfl 1 rfl ?_
  refine ww_aload_n cx dL_law_1495 rfl 0 rfl ?_
  refine ww_iload_n cx dL_law_1496 rfl 3 rfl ?_
  refine ww_iconst cx dL_law_1497 ic_1 ?_
  refine ww_iadd cx dL_law_1498 ?_
  refine ww_sld cx sx dL_law_1499 hF (fun hF => ?_)
  refine ww_aload_n cx dL_law_1500 rfl 0 rfl ?_
  refine ww_iload_n cx dL_law_1501 rfl 3 rfl ?_
  refine ww_iconst cx dL_law_1502 ic_2 ?_
  refine ww_iadd cx dL_law_1503 ?_
  refine ww_sld cx sx dL_law_1504 hF (fun hF => ?_)
  refine ww_V2_si kv_L_194 rfl cx sh_0 ⟨Nat.le_of_ble_eq_true rfl, Nat.le_of_ble_eq_true rfl⟩ (Nat.le_of_ble_eq_true rfl) dL_law_1505 (kX7_when G) hF (fun r180 σ181 hF => ?_)
  refine ww_pop cx dL_law_1508 rfl ?_
  refine ww_aload_n cx dL_law_1509 rfl 2 rfl ?_
  refine ww_aload_n cx dL_law_1510 rfl 0 rfl ?_
  refine ww_iload_n cx dL_law_1511 rfl 3 rfl ?_
  refine ww_iconst cx dL_law_1512 ic_1 ?_
  refine ww_iadd cx dL_law_1513 ?_
  refine ww_sld cx sx dL_law_1514 hF (fun hF => ?_)
  refine ww_aload_n cx dL_law_1515 rfl 0 rfl ?_
  refine ww_iload_n cx dL_law_1516 rfl 3 rfl ?_
  refine ww_iconst cx dL_law_1517 ic_2 ?_
  refine ww_iadd cx dL_law_1518 ?_
  refine ww_sld cx sx dL_law_1519 hF (fun hF => ?_)
  refine ww_V2_si kv_L_197 rfl cx sh_62 ⟨Nat.le_of_ble_eq_true rfl, Nat.le_of_ble_eq_true rfl⟩ (Nat.le_of_ble_eq_true rfl) dL_law_1520 (kX8_when G) hF (fun r182 σ183 hF => ?_)
  refine ww_pop cx dL_law_1523 rfl ?_
  refine ww_goto cx dL_law_1524 (tgt := 2390) rfl ?_
  refine ww_iinc (j := 3) (ks := [0, 1, 2, 3]) (lv' := fun v184 => [(3, .int v184), (0, .ref b), (1, .ref (gad G 0)), (2, .ref (gad G 62))]) cx dL_law_2390 (by decide) rfl ic_6 hF (fun _ => rfl) (fun v184 hF => ?_)
  refine ww_goto cx dL_law_2393 (tgt := 18) rfl ?_
  exact ww_sub [1, 2, 3, 0] rfl (hk18 _ _ hF)
theorem kL_b1527 {G : GT} {X : CT} {b L : Nat} {xs : Nat → Int32} (cx : Cx G X RL code 4 1000) (sx : SX X b L xs) (hE : ∀ (σ : St) (lv : List (Nat × Value)) (pc : Nat), decode code pc = .ok (.ireturn, 1) → WW G X 4 σ lv pc [.int 1]) {kr18 : St → Int32 → Option Int32} (hk18 : ∀ (σ : St) (x3 : Int32), kr18 σ x3 = some 1 → WW G X 4 σ [(0, .ref b), (1, .ref (gad G 0)), (2, .ref (gad G 62)), (3, .int x3)] 18 []) (σ : St) (x3 : Int32) (hF : fL_b1527 L xs kr18 σ x3 = some 1) : WW G X 4 σ [(0, .ref b), (1, .ref (gad G 0)), (2, .ref (gad G 62)), (3, .int x3)] 1527 [] := by
  unfold fL_b1527 at hF
  refine ww_aload_n cx dL_law_1527 rfl 1 rfl ?_
  refine ww_aload_n cx dL_law_1528 rfl 0 rfl ?_
  refine ww_iload_n cx dL_law_1529 rfl 3 rfl ?_
  refine ww_iconst cx dL_law_1530 ic_1 ?_
  refine ww_iadd cx dL_law_1531 ?_
  refine ww_sld cx sx dL_law_1532 hF (fun hF => ?_)
  refine ww_aload_n cx dL_law_1533 rfl 0 rfl ?_
  refine ww_iload_n cx dL_law_1534 rfl 3 rfl ?_
  refine ww_iconst cx dL_law_1535 ic_2 ?_
  refine ww_iadd cx dL_law_1536 ?_
  refine ww_sld cx sx dL_law_1537 hF (fun hF => ?_)
  refine ww_V2_si kv_L_198 rfl cx sh_0 ⟨Nat.le_of_ble_eq_true rfl, Nat.le_of_ble_eq_true rfl⟩ (Nat.le_of_ble_eq_true rfl) dL_law_1538 (kX7_shares G) hF (fun r185 σ186 hF => ?_)
  refine ww_pop cx dL_law_1541 rfl ?_
  refine ww_aload_n cx dL_law_1542 rfl 2 rfl ?_
  refine ww_aload_n cx dL_law_1543 rfl 0 rfl ?_
  refine ww_iload_n cx dL_law_1544 rfl 3 rfl ?_
  refine ww_iconst cx dL_law_1545 ic_1 ?_
  refine ww_iadd cx dL_law_1546 ?_
  refine ww_sld cx sx dL_law_1547 hF (fun hF => ?_)
  refine ww_aload_n cx dL_law_1548 rfl 0 rfl ?_
  refine ww_iload_n cx dL_law_1549 rfl 3 rfl ?_
  refine ww_iconst cx dL_law_1550 ic_2 ?_
  refine ww_iadd cx dL_law_1551 ?_
  refine ww_sld cx sx dL_law_1552 hF (fun hF => ?_)
  refine ww_V2_si kv_L_201 rfl cx sh_62 ⟨Nat.le_of_ble_eq_true rfl, Nat.le_of_ble_eq_true rfl⟩ (Nat.le_of_ble_eq_true rfl) dL_law_1553 (kX8_shares G) hF (fun r187 σ188 hF => ?_)
  refine ww_pop cx dL_law_1556 rfl ?_
  refine ww_goto cx dL_law_1557 (tgt := 2390) rfl ?_
  refine ww_iinc (j := 3) (ks := [0, 1, 2, 3]) (lv' := fun v189 => [(3, .int v189), (0, .ref b), (1, .ref (gad G 0)), (2, .ref (gad G 62))]) cx dL_law_2390 (by decide) rfl ic_6 hF (fun _ => rfl) (fun v189 hF => ?_)
  refine ww_goto cx dL_law_2393 (tgt := 18) rfl ?_
  exact ww_sub [1, 2, 3, 0] rfl (hk18 _ _ hF)
theorem kL_b1560 {G : GT} {X : CT} {b L : Nat} {xs : Nat → Int32} (cx : Cx G X RL code 4 1000) (sx : SX X b L xs) (hE : ∀ (σ : St) (lv : List (Nat × Value)) (pc : Nat), decode code pc = .ok (.ireturn, 1) → WW G X 4 σ lv pc [.int 1]) {kr18 : St → Int32 → Option Int32} (hk18 : ∀ (σ : St) (x3 : Int32), kr18 σ x3 = some 1 → WW G X 4 σ [(0, .ref b), (1, .ref (gad G 0)), (2, .ref (gad G 62)), (3, .int x3)] 18 []) (σ : St) (x3 : Int32) (hF : fL_b1560 L xs kr18 σ x3 = some 1) : WW G X 4 σ [(0, .ref b), (1, .ref (gad G 0)), (2, .ref (gad G 62)), (3, .int x3)] 1560 [] := by
  unfold fL_b1560 at hF
  refine ww_aload_n cx dL_law_1560 rfl 1 rfl ?_
  refine ww_aload_n cx dL_law_1561 rfl 0 rfl ?_
  refine ww_iload_n cx dL_law_1562 rfl 3 rfl ?_
  refine ww_iconst cx dL_law_1563 ic_1 ?_
  refine ww_iadd cx dL_law_1564 ?_
  refine ww_sld cx sx dL_law_1565 hF (fun hF => ?_)
  refine ww_aload_n cx dL_law_1566 rfl 0 rfl ?_
  refine ww_iload_n cx dL_law_1567 rfl 3 rfl ?_
  refine ww_iconst cx dL_law_1568 ic_2 ?_
  refine ww_iadd cx dL_law_1569 ?_
  refine ww_sld cx sx dL_law_1570 hF (fun hF => ?_)
  refine ww_aload_n cx dL_law_1571 rfl 0 rfl ?_
  refine ww_iload_n cx dL_law_1572 rfl 3 rfl ?_
  refine ww_iconst cx dL_law_1573 ic_3 ?_
  refine ww_iadd cx dL_law_1574 ?_
  refine ww_sld cx sx dL_law_1575 hF (fun hF => ?_)
  refine ww_V3_si kv_L_202 rfl cx sh_0 ⟨Nat.le_of_ble_eq_true rfl, Nat.le_of_ble_eq_true rfl⟩ (Nat.le_of_ble_eq_true rfl) dL_law_1576 (kX7_busy G) hF (fun r190 σ191 hF => ?_)
  refine ww_pop cx dL_law_1579 rfl ?_
  refine ww_aload_n cx dL_law_1580 rfl 2 rfl ?_
  refine ww_aload_n cx dL_law_1581 rfl 0 rfl ?_
  refine ww_iload_n cx dL_law_1582 rfl 3 rfl ?_
  refine ww_iconst cx dL_law_1583 ic_1 ?_
  refine ww_iadd cx dL_law_1584 ?_
  refine ww_sld cx sx dL_law_1585 hF (fun hF => ?_)
  refine ww_aload_n cx dL_law_1586 rfl 0 rfl ?_
  refine ww_iload_n cx dL_law_1587 rfl 3 rfl ?_
  refine ww_iconst cx dL_law_1588 ic_2 ?_
  refine ww_iadd cx dL_law_1589 ?_
  refine ww_sld cx sx dL_law_1590 hF (fun hF => ?_)
  refine ww_aload_n cx dL_law_1591 rfl 0 rfl ?_
  refine ww_iload_n cx dL_law_1592 rfl 3 rfl ?_
  refine ww_iconst cx dL_law_1593 ic_3 ?_
  refine ww_iadd cx dL_law_1594 ?_
  refine ww_sld cx sx dL_law_1595 hF (fun hF => ?_)
  refine ww_V3_si kv_L_205 rfl cx sh_62 ⟨Nat.le_of_ble_eq_true rfl, Nat.le_of_ble_eq_true rfl⟩ (Nat.le_of_ble_eq_true rfl) dL_law_1596 (kX8_busy G) hF (fun r192 σ193 hF => ?_)
  refine ww_pop cx dL_law_1599 rfl ?_
  refine ww_goto cx dL_law_1600 (tgt := 2390) rfl ?_
  refine ww_iinc (j := 3) (ks := [0, 1, 2, 3]) (lv' := fun v194 => [(3, .int v194), (0, .ref b), (1, .ref (gad G 0)), (2, .ref (gad G 62))]) cx dL_law_2390 (by decide) rfl ic_6 hF (fun _ => rfl) (fun v194 hF => ?_)
  refine ww_goto cx dL_law_2393 (tgt := 18) rfl ?_
  exact ww_sub [1, 2, 3, 0] rfl (hk18 _ _ hF)
theorem kL_b1603 {G : GT} {X : CT} {b L : Nat} {xs : Nat → Int32} (cx : Cx G X RL code 4 1000) (sx : SX X b L xs) (hE : ∀ (σ : St) (lv : List (Nat × Value)) (pc : Nat), decode code pc = .ok (.ireturn, 1) → WW G X 4 σ lv pc [.int 1]) {kr18 : St → Int32 → Option Int32} (hk18 : ∀ (σ : St) (x3 : Int32), kr18 σ x3 = some 1 → WW G X 4 σ [(0, .ref b), (1, .ref (gad G 0)), (2, .ref (gad G 62)), (3, .int x3)] 18 []) (σ : St) (x3 : Int32) (hF : fL_b1603 L xs kr18 σ x3 = some 1) : WW G X 4 σ [(0, .ref b), (1, .ref (gad G 0)), (2, .ref (gad G 62)), (3, .int x3)] 1603 [] := by
  unfold fL_b1603 at hF
  refine ww_aload_n cx dL_law_1603 rfl 1 rfl ?_
  refine ww_V0_si kv_L_206 rfl cx sh_0 ⟨Nat.le_of_ble_eq_true rfl, Nat.le_of_ble_eq_true rfl⟩ (Nat.le_of_ble_eq_true rfl) dL_law_1604 (kX7_duel G) hF (fun r195 σ196 hF => ?_)
  refine ww_pop cx dL_law_1607 rfl ?_
  refine ww_aload_n cx dL_law_1608 rfl 2 rfl ?_
  refine ww_V0_si kv_L_209 rfl cx sh_62 ⟨Nat.le_of_ble_eq_true rfl, Nat.le_of_ble_eq_true rfl⟩ (Nat.le_of_ble_eq_true rfl) dL_law_1609 (kX8_duel G) hF (fun r197 σ198 hF => ?_)
  refine ww_pop cx dL_law_1612 rfl ?_
  refine ww_goto cx dL_law_1613 (tgt := 2390) rfl ?_
  refine ww_iinc (j := 3) (ks := [0, 1, 2, 3]) (lv' := fun v199 => [(3, .int v199), (0, .ref b), (1, .ref (gad G 0)), (2, .ref (gad G 62))]) cx dL_law_2390 (by decide) rfl ic_6 hF (fun _ => rfl) (fun v199 hF => ?_)
  refine ww_goto cx dL_law_2393 (tgt := 18) rfl ?_
  exact ww_sub [1, 2, 3, 0] rfl (hk18 _ _ hF)
theorem kL_b1616 {G : GT} {X : CT} {b L : Nat} {xs : Nat → Int32} (cx : Cx G X RL code 4 1000) (sx : SX X b L xs) (hE : ∀ (σ : St) (lv : List (Nat × Value)) (pc : Nat), decode code pc = .ok (.ireturn, 1) → WW G X 4 σ lv pc [.int 1]) {kr18 : St → Int32 → Option Int32} (hk18 : ∀ (σ : St) (x3 : Int32), kr18 σ x3 = some 1 → WW G X 4 σ [(0, .ref b), (1, .ref (gad G 0)), (2, .ref (gad G 62)), (3, .int x3)] 18 []) (σ : St) (x3 : Int32) (hF : fL_b1616 L xs kr18 σ x3 = some 1) : WW G X 4 σ [(0, .ref b), (1, .ref (gad G 0)), (2, .ref (gad G 62)), (3, .int x3)] 1616 [] := by
  unfold fL_b1616 at hF
  refine ww_aload_n cx dL_law_1616 rfl 1 rfl ?_
  refine ww_V0_si kv_L_210 rfl cx sh_0 ⟨Nat.le_of_ble_eq_true rfl, Nat.le_of_ble_eq_true rfl⟩ (Nat.le_of_ble_eq_true rfl) dL_law_1617 (kX7_move G) hF (fun r200 σ201 hF => ?_)
  refine ww_pop cx dL_law_1620 rfl ?_
  refine ww_aload_n cx dL_law_1621 rfl 2 rfl ?_
  refine ww_V0_si kv_L_213 rfl cx sh_62 ⟨Nat.le_of_ble_eq_true rfl, Nat.le_of_ble_eq_true rfl⟩ (Nat.le_of_ble_eq_true rfl) dL_law_1622 (kX8_move G) hF (fun r202 σ203 hF => ?_)
  refine ww_pop cx dL_law_1625 rfl ?_
  refine ww_goto cx dL_law_1626 (tgt := 2390) rfl ?_
  refine ww_iinc (j := 3) (ks := [0, 1, 2, 3]) (lv' := fun v204 => [(3, .int v204), (0, .ref b), (1, .ref (gad G 0)), (2, .ref (gad G 62))]) cx dL_law_2390 (by decide) rfl ic_6 hF (fun _ => rfl) (fun v204 hF => ?_)
  refine ww_goto cx dL_law_2393 (tgt := 18) rfl ?_
  exact ww_sub [1, 2, 3, 0] rfl (hk18 _ _ hF)
theorem kL_b1629 {G : GT} {X : CT} {b L : Nat} {xs : Nat → Int32} (cx : Cx G X RL code 4 1000) (sx : SX X b L xs) (hE : ∀ (σ : St) (lv : List (Nat × Value)) (pc : Nat), decode code pc = .ok (.ireturn, 1) → WW G X 4 σ lv pc [.int 1]) {kr18 : St → Int32 → Option Int32} (hk18 : ∀ (σ : St) (x3 : Int32), kr18 σ x3 = some 1 → WW G X 4 σ [(0, .ref b), (1, .ref (gad G 0)), (2, .ref (gad G 62)), (3, .int x3)] 18 []) (σ : St) (x3 : Int32) (hF : fL_b1629 L xs kr18 σ x3 = some 1) : WW G X 4 σ [(0, .ref b), (1, .ref (gad G 0)), (2, .ref (gad G 62)), (3, .int x3)] 1629 [] := by
  unfold fL_b1629 at hF
  refine ww_aload_n cx dL_law_1629 rfl 1 rfl ?_
  refine ww_V0_si kv_L_214 rfl cx sh_0 ⟨Nat.le_of_ble_eq_true rfl, Nat.le_of_ble_eq_true rfl⟩ (Nat.le_of_ble_eq_true rfl) dL_law_1630 (kX7_lasts G) hF (fun r205 σ206 hF => ?_)
  refine ww_pop cx dL_law_1633 rfl ?_
  refine ww_aload_n cx dL_law_1634 rfl 2 rfl ?_
  refine ww_V0_si kv_L_217 rfl cx sh_62 ⟨Nat.le_of_ble_eq_true rfl, Nat.le_of_ble_eq_true rfl⟩ (Nat.le_of_ble_eq_true rfl) dL_law_1635 (kX8_lasts G) hF (fun r207 σ208 hF => ?_)
  refine ww_pop cx dL_law_1638 rfl ?_
  refine ww_goto cx dL_law_1639 (tgt := 2390) rfl ?_
  refine ww_iinc (j := 3) (ks := [0, 1, 2, 3]) (lv' := fun v209 => [(3, .int v209), (0, .ref b), (1, .ref (gad G 0)), (2, .ref (gad G 62))]) cx dL_law_2390 (by decide) rfl ic_6 hF (fun _ => rfl) (fun v209 hF => ?_)
  refine ww_goto cx dL_law_2393 (tgt := 18) rfl ?_
  exact ww_sub [1, 2, 3, 0] rfl (hk18 _ _ hF)
theorem kL_b1642 {G : GT} {X : CT} {b L : Nat} {xs : Nat → Int32} (cx : Cx G X RL code 4 1000) (sx : SX X b L xs) (hE : ∀ (σ : St) (lv : List (Nat × Value)) (pc : Nat), decode code pc = .ok (.ireturn, 1) → WW G X 4 σ lv pc [.int 1]) {kr18 : St → Int32 → Option Int32} (hk18 : ∀ (σ : St) (x3 : Int32), kr18 σ x3 = some 1 → WW G X 4 σ [(0, .ref b), (1, .ref (gad G 0)), (2, .ref (gad G 62)), (3, .int x3)] 18 []) (σ : St) (x3 : Int32) (hF : fL_b1642 L xs kr18 σ x3 = some 1) : WW G X 4 σ [(0, .ref b), (1, .ref (gad G 0)), (2, .ref (gad G 62)), (3, .int x3)] 1642 [] := by
  unfold fL_b1642 at hF
  refine ww_aload_n cx dL_law_1642 rfl 1 rfl ?_
  refine ww_V0_pi kv_L_218 rfl cx sh_0 ⟨Nat.le_of_ble_eq_true rfl, Nat.le_of_ble_eq_true rfl⟩ (Nat.le_of_ble_eq_true rfl) dL_law_1643 (kX7_idle G) hF (fun r210 hF => ?_)
  refine ww_pop cx dL_law_1646 rfl ?_
  refine ww_aload_n cx dL_law_1647 rfl 2 rfl ?_
  refine ww_V0_pi kv_L_221 rfl cx sh_62 ⟨Nat.le_of_ble_eq_true rfl, Nat.le_of_ble_eq_true rfl⟩ (Nat.le_of_ble_eq_true rfl) dL_law_1648 (kX8_idle G) hF (fun r211 hF => ?_)
  refine ww_pop cx dL_law_1651 rfl ?_
  refine ww_goto cx dL_law_1652 (tgt := 2390) rfl ?_
  refine ww_iinc (j := 3) (ks := [0, 1, 2, 3]) (lv' := fun v212 => [(3, .int v212), (0, .ref b), (1, .ref (gad G 0)), (2, .ref (gad G 62))]) cx dL_law_2390 (by decide) rfl ic_6 hF (fun _ => rfl) (fun v212 hF => ?_)
  refine ww_goto cx dL_law_2393 (tgt := 18) rfl ?_
  exact ww_sub [1, 2, 3, 0] rfl (hk18 _ _ hF)
theorem kL_b1655 {G : GT} {X : CT} {b L : Nat} {xs : Nat → Int32} (cx : Cx G X RL code 4 1000) (sx : SX X b L xs) (hE : ∀ (σ : St) (lv : List (Nat × Value)) (pc : Nat), decode code pc = .ok (.ireturn, 1) → WW G X 4 σ lv pc [.int 1]) {kr18 : St → Int32 → Option Int32} (hk18 : ∀ (σ : St) (x3 : Int32), kr18 σ x3 = some 1 → WW G X 4 σ [(0, .ref b), (1, .ref (gad G 0)), (2, .ref (gad G 62)), (3, .int x3)] 18 []) (σ : St) (x3 : Int32) (hF : fL_b1655 L xs kr18 σ x3 = some 1) : WW G X 4 σ [(0, .ref b), (1, .ref (gad G 0)), (2, .ref (gad G 62)), (3, .int x3)] 1655 [] := by
  unfold fL_b1655 at hF
  refine ww_aload_n cx dL_law_1655 rfl 1 rfl ?_
  refine ww_V0_si kv_L_222 rfl cx sh_0 ⟨Nat.le_of_ble_eq_true rfl, Nat.le_of_ble_eq_true rfl⟩ (Nat.le_of_ble_eq_true rfl) dL_law_1656 (kX7_core G) hF (fun r213 σ214 hF => ?_)
  refine ww_pop cx dL_law_1659 rfl ?_
  refine ww_aload_n cx dL_law_1660 rfl 2 rfl ?_
  refine ww_V0_pi kv_L_225 rfl cx sh_62 ⟨Nat.le_of_ble_eq_true rfl, Nat.le_of_ble_eq_true rfl⟩ (Nat.le_of_ble_eq_true rfl) dL_law_1661 (kX8_core G) hF (fun r215 hF => ?_)
  refine ww_pop cx dL_law_1664 rfl ?_
  refine ww_goto cx dL_law_1665 (tgt := 2390) rfl ?_
  refine ww_iinc (j := 3) (ks := [0, 1, 2, 3]) (lv' := fun v216 => [(3, .int v216), (0, .ref b), (1, .ref (gad G 0)), (2, .ref (gad G 62))]) cx dL_law_2390 (by decide) rfl ic_6 hF (fun _ => rfl) (fun v216 hF => ?_)
  refine ww_goto cx dL_law_2393 (tgt := 18) rfl ?_
  exact ww_sub [1, 2, 3, 0] rfl (hk18 _ _ hF)
theorem kL_b1668 {G : GT} {X : CT} {b L : Nat} {xs : Nat → Int32} (cx : Cx G X RL code 4 1000) (sx : SX X b L xs) (hE : ∀ (σ : St) (lv : List (Nat × Value)) (pc : Nat), decode code pc = .ok (.ireturn, 1) → WW G X 4 σ lv pc [.int 1]) {kr18 : St → Int32 → Option Int32} (hk18 : ∀ (σ : St) (x3 : Int32), kr18 σ x3 = some 1 → WW G X 4 σ [(0, .ref b), (1, .ref (gad G 0)), (2, .ref (gad G 62)), (3, .int x3)] 18 []) (σ : St) (x3 : Int32) (hF : fL_b1668 L xs kr18 σ x3 = some 1) : WW G X 4 σ [(0, .ref b), (1, .ref (gad G 0)), (2, .ref (gad G 62)), (3, .int x3)] 1668 [] := by
  unfold fL_b1668 at hF
  refine ww_aload_n cx dL_law_1668 rfl 1 rfl ?_
  refine ww_V0_si kv_L_226 rfl cx sh_0 ⟨Nat.le_of_ble_eq_true rfl, Nat.le_of_ble_eq_true rfl⟩ (Nat.le_of_ble_eq_true rfl) dL_law_1669 (kX7_cored G) hF (fun r217 σ218 hF => ?_)
  refine ww_pop cx dL_law_1672 rfl ?_
  refine ww_aload_n cx dL_law_1673 rfl 2 rfl ?_
  refine ww_V0_pi kv_L_229 rfl cx sh_62 ⟨Nat.le_of_ble_eq_true rfl, Nat.le_of_ble_eq_true rfl⟩ (Nat.le_of_ble_eq_true rfl) dL_law_1674 (kX8_cored G) hF (fun r219 hF => ?_)
  refine ww_pop cx dL_law_1677 rfl ?_
  refine ww_goto cx dL_law_1678 (tgt := 2390) rfl ?_
  refine ww_iinc (j := 3) (ks := [0, 1, 2, 3]) (lv' := fun v220 => [(3, .int v220), (0, .ref b), (1, .ref (gad G 0)), (2, .ref (gad G 62))]) cx dL_law_2390 (by decide) rfl ic_6 hF (fun _ => rfl) (fun v220 hF => ?_)
  refine ww_goto cx dL_law_2393 (tgt := 18) rfl ?_
  exact ww_sub [1, 2, 3, 0] rfl (hk18 _ _ hF)
theorem kL_b1681 {G : GT} {X : CT} {b L : Nat} {xs : Nat → Int32} (cx : Cx G X RL code 4 1000) (sx : SX X b L xs) (hE : ∀ (σ : St) (lv : List (Nat × Value)) (pc : Nat), decode code pc = .ok (.ireturn, 1) → WW G X 4 σ lv pc [.int 1]) {kr18 : St → Int32 → Option Int32} (hk18 : ∀ (σ : St) (x3 : Int32), kr18 σ x3 = some 1 → WW G X 4 σ [(0, .ref b), (1, .ref (gad G 0)), (2, .ref (gad G 62)), (3, .int x3)] 18 []) (σ : St) (x3 : Int32) (hF : fL_b1681 L xs kr18 σ x3 = some 1) : WW G X 4 σ [(0, .ref b), (1, .ref (gad G 0)), (2, .ref (gad G 62)), (3, .int x3)] 1681 [] := by
  unfold fL_b1681 at hF
  refine ww_aload_n cx dL_law_1681 rfl 1 rfl ?_
  refine ww_aload_n cx dL_law_1682 rfl 0 rfl ?_
  refine ww_iload_n cx dL_law_1683 rfl 3 rfl ?_
  refine ww_iconst cx dL_law_1684 ic_1 ?_
  refine ww_iadd cx dL_law_1685 ?_
  refine ww_sld cx sx dL_law_1686 hF (fun hF => ?_)
  refine ww_aload_n cx dL_law_1687 rfl 0 rfl ?_
  refine ww_iload_n cx dL_law_1688 rfl 3 rfl ?_
  refine ww_iconst cx dL_law_1689 ic_2 ?_
  refine ww_iadd cx dL_law_1690 ?_
  refine ww_sld cx sx dL_law_1691 hF (fun hF => ?_)
  refine ww_V2_pi kv_L_230 rfl cx sh_0 ⟨Nat.le_of_ble_eq_true rfl, Nat.le_of_ble_eq_true rfl⟩ (Nat.le_of_ble_eq_true rfl) dL_law_1692 (kX7_likely G) hF (fun r221 hF => ?_)
  refine ww_pop cx dL_law_1695 rfl ?_
  refine ww_aload_n cx dL_law_1696 rfl 2 rfl ?_
  refine ww_aload_n cx dL_law_1697 rfl 0 rfl ?_
  refine ww_iload_n cx dL_law_1698 rfl 3 rfl ?_
  refine ww_iconst cx dL_law_1699 ic_1 ?_
  refine ww_iadd cx dL_law_1700 ?_
  refine ww_sld cx sx dL_law_1701 hF (fun hF => ?_)
  refine ww_aload_n cx dL_law_1702 rfl 0 rfl ?_
  refine ww_iload_n cx dL_law_1703 rfl 3 rfl ?_
  refine ww_iconst cx dL_law_1704 ic_2 ?_
  refine ww_iadd cx dL_law_1705 ?_
  refine ww_sld cx sx dL_law_1706 hF (fun hF => ?_)
  refine ww_V2_pi kv_L_233 rfl cx sh_62 ⟨Nat.le_of_ble_eq_true rfl, Nat.le_of_ble_eq_true rfl⟩ (Nat.le_of_ble_eq_true rfl) dL_law_1707 (kX8_likely G) hF (fun r222 hF => ?_)
  refine ww_pop cx dL_law_1710 rfl ?_
  refine ww_goto cx dL_law_1711 (tgt := 2390) rfl ?_
  refine ww_iinc (j := 3) (ks := [0, 1, 2, 3]) (lv' := fun v223 => [(3, .int v223), (0, .ref b), (1, .ref (gad G 0)), (2, .ref (gad G 62))]) cx dL_law_2390 (by decide) rfl ic_6 hF (fun _ => rfl) (fun v223 hF => ?_)
  refine ww_goto cx dL_law_2393 (tgt := 18) rfl ?_
  exact ww_sub [1, 2, 3, 0] rfl (hk18 _ _ hF)
theorem kL_b1714 {G : GT} {X : CT} {b L : Nat} {xs : Nat → Int32} (cx : Cx G X RL code 4 1000) (sx : SX X b L xs) (hE : ∀ (σ : St) (lv : List (Nat × Value)) (pc : Nat), decode code pc = .ok (.ireturn, 1) → WW G X 4 σ lv pc [.int 1]) {kr18 : St → Int32 → Option Int32} (hk18 : ∀ (σ : St) (x3 : Int32), kr18 σ x3 = some 1 → WW G X 4 σ [(0, .ref b), (1, .ref (gad G 0)), (2, .ref (gad G 62)), (3, .int x3)] 18 []) (σ : St) (x3 : Int32) (hF : fL_b1714 L xs kr18 σ x3 = some 1) : WW G X 4 σ [(0, .ref b), (1, .ref (gad G 0)), (2, .ref (gad G 62)), (3, .int x3)] 1714 [] := by
  unfold fL_b1714 at hF
  refine ww_aload_n cx dL_law_1714 rfl 1 rfl ?_
  refine ww_V0_pi kv_L_234 rfl cx sh_0 ⟨Nat.le_of_ble_eq_true rfl, Nat.le_of_ble_eq_true rfl⟩ (Nat.le_of_ble_eq_true rfl) dL_law_1715 (kX7_ask G) hF (fun r224 hF => ?_)
  refine ww_pop cx dL_law_1718 rfl ?_
  refine ww_aload_n cx dL_law_1719 rfl 2 rfl ?_
  refine ww_V0_pi kv_L_237 rfl cx sh_62 ⟨Nat.le_of_ble_eq_true rfl, Nat.le_of_ble_eq_true rfl⟩ (Nat.le_of_ble_eq_true rfl) dL_law_1720 (kX8_ask G) hF (fun r225 hF => ?_)
  refine ww_pop cx dL_law_1723 rfl ?_
  refine ww_goto cx dL_law_1724 (tgt := 2390) rfl ?_
  refine ww_iinc (j := 3) (ks := [0, 1, 2, 3]) (lv' := fun v226 => [(3, .int v226), (0, .ref b), (1, .ref (gad G 0)), (2, .ref (gad G 62))]) cx dL_law_2390 (by decide) rfl ic_6 hF (fun _ => rfl) (fun v226 hF => ?_)
  refine ww_goto cx dL_law_2393 (tgt := 18) rfl ?_
  exact ww_sub [1, 2, 3, 0] rfl (hk18 _ _ hF)
theorem kL_b1727 {G : GT} {X : CT} {b L : Nat} {xs : Nat → Int32} (cx : Cx G X RL code 4 1000) (sx : SX X b L xs) (hE : ∀ (σ : St) (lv : List (Nat × Value)) (pc : Nat), decode code pc = .ok (.ireturn, 1) → WW G X 4 σ lv pc [.int 1]) {kr18 : St → Int32 → Option Int32} (hk18 : ∀ (σ : St) (x3 : Int32), kr18 σ x3 = some 1 → WW G X 4 σ [(0, .ref b), (1, .ref (gad G 0)), (2, .ref (gad G 62)), (3, .int x3)] 18 []) (σ : St) (x3 : Int32) (hF : fL_b1727 L xs kr18 σ x3 = some 1) : WW G X 4 σ [(0, .ref b), (1, .ref (gad G 0)), (2, .ref (gad G 62)), (3, .int x3)] 1727 [] := by
  unfold fL_b1727 at hF
  refine ww_aload_n cx dL_law_1727 rfl 1 rfl ?_
  refine ww_V0_pi kv_L_238 rfl cx sh_0 ⟨Nat.le_of_ble_eq_true rfl, Nat.le_of_ble_eq_true rfl⟩ (Nat.le_of_ble_eq_true rfl) dL_law_1728 (kX7_leaves G) hF (fun r227 hF => ?_)
  refine ww_pop cx dL_law_1731 rfl ?_
  refine ww_aload_n cx dL_law_1732 rfl 2 rfl ?_
  refine ww_V0_pi kv_L_241 rfl cx sh_62 ⟨Nat.le_of_ble_eq_true rfl, Nat.le_of_ble_eq_true rfl⟩ (Nat.le_of_ble_eq_true rfl) dL_law_1733 (kX8_leaves G) hF (fun r228 hF => ?_)
  refine ww_pop cx dL_law_1736 rfl ?_
  refine ww_goto cx dL_law_1737 (tgt := 2390) rfl ?_
  refine ww_iinc (j := 3) (ks := [0, 1, 2, 3]) (lv' := fun v229 => [(3, .int v229), (0, .ref b), (1, .ref (gad G 0)), (2, .ref (gad G 62))]) cx dL_law_2390 (by decide) rfl ic_6 hF (fun _ => rfl) (fun v229 hF => ?_)
  refine ww_goto cx dL_law_2393 (tgt := 18) rfl ?_
  exact ww_sub [1, 2, 3, 0] rfl (hk18 _ _ hF)
theorem kL_b1740 {G : GT} {X : CT} {b L : Nat} {xs : Nat → Int32} (cx : Cx G X RL code 4 1000) (sx : SX X b L xs) (hE : ∀ (σ : St) (lv : List (Nat × Value)) (pc : Nat), decode code pc = .ok (.ireturn, 1) → WW G X 4 σ lv pc [.int 1]) {kr18 : St → Int32 → Option Int32} (hk18 : ∀ (σ : St) (x3 : Int32), kr18 σ x3 = some 1 → WW G X 4 σ [(0, .ref b), (1, .ref (gad G 0)), (2, .ref (gad G 62)), (3, .int x3)] 18 []) (σ : St) (x3 : Int32) (hF : fL_b1740 L xs kr18 σ x3 = some 1) : WW G X 4 σ [(0, .ref b), (1, .ref (gad G 0)), (2, .ref (gad G 62)), (3, .int x3)] 1740 [] := by
  unfold fL_b1740 at hF
  refine ww_aload_n cx dL_law_1740 rfl 1 rfl ?_
  refine ww_V0_pi kv_L_242 rfl cx sh_0 ⟨Nat.le_of_ble_eq_true rfl, Nat.le_of_ble_eq_true rfl⟩ (Nat.le_of_ble_eq_true rfl) dL_law_1741 (kX7_unlike G) hF (fun r230 hF => ?_)
  refine ww_pop cx dL_law_1744 rfl ?_
  refine ww_aload_n cx dL_law_1745 rfl 2 rfl ?_
  refine ww_V0_pi kv_L_245 rfl cx sh_62 ⟨Nat.le_of_ble_eq_true rfl, Nat.le_of_ble_eq_true rfl⟩ (Nat.le_of_ble_eq_true rfl) dL_law_1746 (kX8_unlike G) hF (fun r231 hF => ?_)
  refine ww_pop cx dL_law_1749 rfl ?_
  refine ww_goto cx dL_law_1750 (tgt := 2390) rfl ?_
  refine ww_iinc (j := 3) (ks := [0, 1, 2, 3]) (lv' := fun v232 => [(3, .int v232), (0, .ref b), (1, .ref (gad G 0)), (2, .ref (gad G 62))]) cx dL_law_2390 (by decide) rfl ic_6 hF (fun _ => rfl) (fun v232 hF => ?_)
  refine ww_goto cx dL_law_2393 (tgt := 18) rfl ?_
  exact ww_sub [1, 2, 3, 0] rfl (hk18 _ _ hF)
theorem kL_b1753 {G : GT} {X : CT} {b L : Nat} {xs : Nat → Int32} (cx : Cx G X RL code 4 1000) (sx : SX X b L xs) (hE : ∀ (σ : St) (lv : List (Nat × Value)) (pc : Nat), decode code pc = .ok (.ireturn, 1) → WW G X 4 σ lv pc [.int 1]) {kr18 : St → Int32 → Option Int32} (hk18 : ∀ (σ : St) (x3 : Int32), kr18 σ x3 = some 1 → WW G X 4 σ [(0, .ref b), (1, .ref (gad G 0)), (2, .ref (gad G 62)), (3, .int x3)] 18 []) (σ : St) (x3 : Int32) (hF : fL_b1753 L xs kr18 σ x3 = some 1) : WW G X 4 σ [(0, .ref b), (1, .ref (gad G 0)), (2, .ref (gad G 62)), (3, .int x3)] 1753 [] := by
  unfold fL_b1753 at hF
  refine ww_aload_n cx dL_law_1753 rfl 1 rfl ?_
  refine ww_aload_n cx dL_law_1754 rfl 0 rfl ?_
  refine ww_iload_n cx dL_law_1755 rfl 3 rfl ?_
  refine ww_iconst cx dL_law_1756 ic_1 ?_
  refine ww_iadd cx dL_law_1757 ?_
  refine ww_sld cx sx dL_law_1758 hF (fun hF => ?_)
  refine ww_V1_si kv_L_246 rfl cx sh_0 ⟨Nat.le_of_ble_eq_true rfl, Nat.le_of_ble_eq_true rfl⟩ (Nat.le_of_ble_eq_true rfl) dL_law_1759 (kX7_falls G) hF (fun r233 σ234 hF => ?_)
  refine ww_pop cx dL_law_1762 rfl ?_
  refine ww_aload_n cx dL_law_1763 rfl 2 rfl ?_
  refine ww_aload_n cx dL_law_1764 rfl 0 rfl ?_
  refine ww_iload_n cx dL_law_1765 rfl 3 rfl ?_
  refine ww_iconst cx dL_law_1766 ic_1 ?_
  refine ww_iadd cx dL_law_1767 ?_
  refine ww_sld cx sx dL_law_1768 hF (fun hF => ?_)
  refine ww_V1_pi kv_L_249 rfl cx sh_62 ⟨Nat.le_of_ble_eq_true rfl, Nat.le_of_ble_eq_true rfl⟩ (Nat.le_of_ble_eq_true rfl) dL_law_1769 (kX8_falls G) hF (fun r235 hF => ?_)
  refine ww_pop cx dL_law_1772 rfl ?_
  refine ww_goto cx dL_law_1773 (tgt := 2390) rfl ?_
  refine ww_iinc (j := 3) (ks := [0, 1, 2, 3]) (lv' := fun v236 => [(3, .int v236), (0, .ref b), (1, .ref (gad G 0)), (2, .ref (gad G 62))]) cx dL_law_2390 (by decide) rfl ic_6 hF (fun _ => rfl) (fun v236 hF => ?_)
  refine ww_goto cx dL_law_2393 (tgt := 18) rfl ?_
  exact ww_sub [1, 2, 3, 0] rfl (hk18 _ _ hF)
theorem kL_b1776 {G : GT} {X : CT} {b L : Nat} {xs : Nat → Int32} (cx : Cx G X RL code 4 1000) (sx : SX X b L xs) (hE : ∀ (σ : St) (lv : List (Nat × Value)) (pc : Nat), decode code pc = .ok (.ireturn, 1) → WW G X 4 σ lv pc [.int 1]) {kr18 : St → Int32 → Option Int32} (hk18 : ∀ (σ : St) (x3 : Int32), kr18 σ x3 = some 1 → WW G X 4 σ [(0, .ref b), (1, .ref (gad G 0)), (2, .ref (gad G 62)), (3, .int x3)] 18 []) (σ : St) (x3 : Int32) (hF : fL_b1776 L xs kr18 σ x3 = some 1) : WW G X 4 σ [(0, .ref b), (1, .ref (gad G 0)), (2, .ref (gad G 62)), (3, .int x3)] 1776 [] := by
  unfold fL_b1776 at hF
  refine ww_aload_n cx dL_law_1776 rfl 1 rfl ?_
  refine ww_aload_n cx dL_law_1777 rfl 0 rfl ?_
  refine ww_iload_n cx dL_law_1778 rfl 3 rfl ?_
  refine ww_iconst cx dL_law_1779 ic_1 ?_
  refine ww_iadd cx dL_law_1780 ?_
  refine ww_sld cx sx dL_law_1781 hF (fun hF => ?_)
  refine ww_V1_si kv_L_250 rfl cx sh_0 ⟨Nat.le_of_ble_eq_true rfl, Nat.le_of_ble_eq_true rfl⟩ (Nat.le_of_ble_eq_true rfl) dL_law_1782 (kX7_spare G) hF (fun r237 σ238 hF => ?_)
  refine ww_pop cx dL_law_1785 rfl ?_
  refine ww_aload_n cx dL_law_1786 rfl 2 rfl ?_
  refine ww_aload_n cx dL_law_1787 rfl 0 rfl ?_
  refine ww_iload_n cx dL_law_1788 rfl 3 rfl ?_
  refine ww_iconst cx dL_law_1789 ic_1 ?_
  refine ww_iadd cx dL_law_1790 ?_
  refine ww_sld cx sx dL_law_1791 hF (fun hF => ?_)
  refine ww_V1_pi kv_L_253 rfl cx sh_62 ⟨Nat.le_of_ble_eq_true rfl, Nat.le_of_ble_eq_true rfl⟩ (Nat.le_of_ble_eq_true rfl) dL_law_1792 (kX8_spare G) hF (fun r239 hF => ?_)
  refine ww_pop cx dL_law_1795 rfl ?_
  refine ww_goto cx dL_law_1796 (tgt := 2390) rfl ?_
  refine ww_iinc (j := 3) (ks := [0, 1, 2, 3]) (lv' := fun v240 => [(3, .int v240), (0, .ref b), (1, .ref (gad G 0)), (2, .ref (gad G 62))]) cx dL_law_2390 (by decide) rfl ic_6 hF (fun _ => rfl) (fun v240 hF => ?_)
  refine ww_goto cx dL_law_2393 (tgt := 18) rfl ?_
  exact ww_sub [1, 2, 3, 0] rfl (hk18 _ _ hF)
theorem kL_b1799 {G : GT} {X : CT} {b L : Nat} {xs : Nat → Int32} (cx : Cx G X RL code 4 1000) (sx : SX X b L xs) (hE : ∀ (σ : St) (lv : List (Nat × Value)) (pc : Nat), decode code pc = .ok (.ireturn, 1) → WW G X 4 σ lv pc [.int 1]) {kr18 : St → Int32 → Option Int32} (hk18 : ∀ (σ : St) (x3 : Int32), kr18 σ x3 = some 1 → WW G X 4 σ [(0, .ref b), (1, .ref (gad G 0)), (2, .ref (gad G 62)), (3, .int x3)] 18 []) (σ : St) (x3 : Int32) (hF : fL_b1799 L xs kr18 σ x3 = some 1) : WW G X 4 σ [(0, .ref b), (1, .ref (gad G 0)), (2, .ref (gad G 62)), (3, .int x3)] 1799 [] := by
  unfold fL_b1799 at hF
  refine ww_aload_n cx dL_law_1799 rfl 1 rfl ?_
  refine ww_aload_n cx dL_law_1800 rfl 0 rfl ?_
  refine ww_iload_n cx dL_law_1801 rfl 3 rfl ?_
  refine ww_iconst cx dL_law_1802 ic_1 ?_
  refine ww_iadd cx dL_law_1803 ?_
  refine ww_sld cx sx dL_law_1804 hF (fun hF => ?_)
  refine ww_V1_si kv_L_254 rfl cx sh_0 ⟨Nat.le_of_ble_eq_true rfl, Nat.le_of_ble_eq_true rfl⟩ (Nat.le_of_ble_eq_true rfl) dL_law_1805 (kX7_spared G) hF (fun r241 σ242 hF => ?_)
  refine ww_pop cx dL_law_1808 rfl ?_
  refine ww_aload_n cx dL_law_1809 rfl 2 rfl ?_
  refine ww_aload_n cx dL_law_1810 rfl 0 rfl ?_
  refine ww_iload_n cx dL_law_1811 rfl 3 rfl ?_
  refine ww_iconst cx dL_law_1812 ic_1 ?_
  refine ww_iadd cx dL_law_1813 ?_
  refine ww_sld cx sx dL_law_1814 hF (fun hF => ?_)
  refine ww_V1_pi kv_L_257 rfl cx sh_62 ⟨Nat.le_of_ble_eq_true rfl, Nat.le_of_ble_eq_true rfl⟩ (Nat.le_of_ble_eq_true rfl) dL_law_1815 (kX8_spared G) hF (fun r243 hF => ?_)
  refine ww_pop cx dL_law_1818 rfl ?_
  refine ww_goto cx dL_law_1819 (tgt := 2390) rfl ?_
  refine ww_iinc (j := 3) (ks := [0, 1, 2, 3]) (lv' := fun v244 => [(3, .int v244), (0, .ref b), (1, .ref (gad G 0)), (2, .ref (gad G 62))]) cx dL_law_2390 (by decide) rfl ic_6 hF (fun _ => rfl) (fun v244 hF => ?_)
  refine ww_goto cx dL_law_2393 (tgt := 18) rfl ?_
  exact ww_sub [1, 2, 3, 0] rfl (hk18 _ _ hF)
theorem kL_b1822 {G : GT} {X : CT} {b L : Nat} {xs : Nat → Int32} (cx : Cx G X RL code 4 1000) (sx : SX X b L xs) (hE : ∀ (σ : St) (lv : List (Nat × Value)) (pc : Nat), decode code pc = .ok (.ireturn, 1) → WW G X 4 σ lv pc [.int 1]) {kr18 : St → Int32 → Option Int32} (hk18 : ∀ (σ : St) (x3 : Int32), kr18 σ x3 = some 1 → WW G X 4 σ [(0, .ref b), (1, .ref (gad G 0)), (2, .ref (gad G 62)), (3, .int x3)] 18 []) (σ : St) (x3 : Int32) (hF : fL_b1822 L xs kr18 σ x3 = some 1) : WW G X 4 σ [(0, .ref b), (1, .ref (gad G 0)), (2, .ref (gad G 62)), (3, .int x3)] 1822 [] := by
  unfold fL_b1822 at hF
  refine ww_aload_n cx dL_law_1822 rfl 1 rfl ?_
  refine ww_aload_n cx dL_law_1823 rfl 0 rfl ?_
  refine ww_iload_n cx dL_law_1824 rfl 3 rfl ?_
  refine ww_iconst cx dL_law_1825 ic_1 ?_
  refine ww_iadd cx dL_law_1826 ?_
  refine ww_sld cx sx dL_law_1827 hF (fun hF => ?_)
  refine ww_aload_n cx dL_law_1828 rfl 0 rfl ?_
  refine ww_iload_n cx dL_law_1829 rfl 3 rfl ?_
  refine ww_iconst cx dL_law_1830 ic_2 ?_
  refine ww_iadd cx dL_law_1831 ?_
  refine ww_sld cx sx dL_law_1832 hF (fun hF => ?_)
  refine ww_V2_si kv_L_258 rfl cx sh_0 ⟨Nat.le_of_ble_eq_true rfl, Nat.le_of_ble_eq_true rfl⟩ (Nat.le_of_ble_eq_true rfl) dL_law_1833 (kX7_salt G) hF (fun r245 σ246 hF => ?_)
  refine ww_pop cx dL_law_1836 rfl ?_
  refine ww_aload_n cx dL_law_1837 rfl 2 rfl ?_
  refine ww_aload_n cx dL_law_1838 rfl 0 rfl ?_
  refine ww_iload_n cx dL_law_1839 rfl 3 rfl ?_
  refine ww_iconst cx dL_law_1840 ic_1 ?_
  refine ww_iadd cx dL_law_1841 ?_
  refine ww_sld cx sx dL_law_1842 hF (fun hF => ?_)
  refine ww_aload_n cx dL_law_1843 rfl 0 rfl ?_
  refine ww_iload_n cx dL_law_1844 rfl 3 rfl ?_
  refine ww_iconst cx dL_law_1845 ic_2 ?_
  refine ww_iadd cx dL_law_1846 ?_
  refine ww_sld cx sx dL_law_1847 hF (fun hF => ?_)
  refine ww_V2_si kv_L_261 rfl cx sh_62 ⟨Nat.le_of_ble_eq_true rfl, Nat.le_of_ble_eq_true rfl⟩ (Nat.le_of_ble_eq_true rfl) dL_law_1848 (kX8_salt G) hF (fun r247 σ248 hF => ?_)
  refine ww_pop cx dL_law_1851 rfl ?_
  refine ww_goto cx dL_law_1852 (tgt := 2390) rfl ?_
  refine ww_iinc (j := 3) (ks := [0, 1, 2, 3]) (lv' := fun v249 => [(3, .int v249), (0, .ref b), (1, .ref (gad G 0)), (2, .ref (gad G 62))]) cx dL_law_2390 (by decide) rfl ic_6 hF (fun _ => rfl) (fun v249 hF => ?_)
  refine ww_goto cx dL_law_2393 (tgt := 18) rfl ?_
  exact ww_sub [1, 2, 3, 0] rfl (hk18 _ _ hF)
theorem kL_b1855 {G : GT} {X : CT} {b L : Nat} {xs : Nat → Int32} (cx : Cx G X RL code 4 1000) (sx : SX X b L xs) (hE : ∀ (σ : St) (lv : List (Nat × Value)) (pc : Nat), decode code pc = .ok (.ireturn, 1) → WW G X 4 σ lv pc [.int 1]) {kr18 : St → Int32 → Option Int32} (hk18 : ∀ (σ : St) (x3 : Int32), kr18 σ x3 = some 1 → WW G X 4 σ [(0, .ref b), (1, .ref (gad G 0)), (2, .ref (gad G 62)), (3, .int x3)] 18 []) (σ : St) (x3 : Int32) (hF : fL_b1855 L xs kr18 σ x3 = some 1) : WW G X 4 σ [(0, .ref b), (1, .ref (gad G 0)), (2, .ref (gad G 62)), (3, .int x3)] 1855 [] := by
  unfold fL_b1855 at hF
  refine ww_aload_n cx dL_law_1855 rfl 1 rfl ?_
  refine ww_aload_n cx dL_law_1856 rfl 0 rfl ?_
  refine ww_iload_n cx dL_law_1857 rfl 3 rfl ?_
  refine ww_iconst cx dL_law_1858 ic_1 ?_
  refine ww_iadd cx dL_law_1859 ?_
  refine ww_sld cx sx dL_law_1860 hF (fun hF => ?_)
  refine ww_V1_si kv_L_262 rfl cx sh_0 ⟨Nat.le_of_ble_eq_true rfl, Nat.le_of_ble_eq_true rfl⟩ (Nat.le_of_ble_eq_true rfl) dL_law_1861 (kX7_ate G) hF (fun r250 σ251 hF => ?_)
  refine ww_pop cx dL_law_1864 rfl ?_
  refine ww_aload_n cx dL_law_1865 rfl 2 rfl ?_
  refine ww_aload_n cx dL_law_1866 rfl 0 rfl ?_
  refine ww_iload_n cx dL_law_1867 rfl 3 rfl ?_
  refine ww_iconst cx dL_law_1868 ic_1 ?_
  refine ww_iadd cx dL_law_1869 ?_
  refine ww_sld cx sx dL_law_1870 hF (fun hF => ?_)
  refine ww_V1_pi kv_L_265 rfl cx sh_62 ⟨Nat.le_of_ble_eq_true rfl, Nat.le_of_ble_eq_true rfl⟩ (Nat.le_of_ble_eq_true rfl) dL_law_1871 (kX8_ate G) hF (fun r252 hF => ?_)
  refine ww_pop cx dL_law_1874 rfl ?_
  refine ww_goto cx dL_law_1875 (tgt := 2390) rfl ?_
  refine ww_iinc (j := 3) (ks := [0, 1, 2, 3]) (lv' := fun v253 => [(3, .int v253), (0, .ref b), (1, .ref (gad G 0)), (2, .ref (gad G 62))]) cx dL_law_2390 (by decide) rfl ic_6 hF (fun _ => rfl) (fun v253 hF => ?_)
  refine ww_goto cx dL_law_2393 (tgt := 18) rfl ?_
  exact ww_sub [1, 2, 3, 0] rfl (hk18 _ _ hF)
theorem kL_b1878 {G : GT} {X : CT} {b L : Nat} {xs : Nat → Int32} (cx : Cx G X RL code 4 1000) (sx : SX X b L xs) (hE : ∀ (σ : St) (lv : List (Nat × Value)) (pc : Nat), decode code pc = .ok (.ireturn, 1) → WW G X 4 σ lv pc [.int 1]) {kr18 : St → Int32 → Option Int32} (hk18 : ∀ (σ : St) (x3 : Int32), kr18 σ x3 = some 1 → WW G X 4 σ [(0, .ref b), (1, .ref (gad G 0)), (2, .ref (gad G 62)), (3, .int x3)] 18 []) (σ : St) (x3 : Int32) (hF : fL_b1878 L xs kr18 σ x3 = some 1) : WW G X 4 σ [(0, .ref b), (1, .ref (gad G 0)), (2, .ref (gad G 62)), (3, .int x3)] 1878 [] := by
  unfold fL_b1878 at hF
  refine ww_aload_n cx dL_law_1878 rfl 1 rfl ?_
  refine ww_aload_n cx dL_law_1879 rfl 0 rfl ?_
  refine ww_iload_n cx dL_law_1880 rfl 3 rfl ?_
  refine ww_iconst cx dL_law_1881 ic_1 ?_
  refine ww_iadd cx dL_law_1882 ?_
  refine ww_sld cx sx dL_law_1883 hF (fun hF => ?_)
  refine ww_aload_n cx dL_law_1884 rfl 0 rfl ?_
  refine ww_iload_n cx dL_law_1885 rfl 3 rfl ?_
  refine ww_iconst cx dL_law_1886 ic_2 ?_
  refine ww_iadd cx dL_law_1887 ?_
  refine ww_sld cx sx dL_law_1888 hF (fun hF => ?_)
  refine ww_V2_si kv_L_266 rfl cx sh_0 ⟨Nat.le_of_ble_eq_true rfl, Nat.le_of_ble_eq_true rfl⟩ (Nat.le_of_ble_eq_true rfl) dL_law_1889 (kX7_borrowed G) hF (fun r254 σ255 hF => ?_)
  refine ww_pop cx dL_law_1892 rfl ?_
  refine ww_aload_n cx dL_law_1893 rfl 2 rfl ?_
  refine ww_aload_n cx dL_law_1894 rfl 0 rfl ?_
  refine ww_iload_n cx dL_law_1895 rfl 3 rfl ?_
  refine ww_iconst cx dL_law_1896 ic_1 ?_
  refine ww_iadd cx dL_law_1897 ?_
  refine ww_sld cx sx dL_law_1898 hF (fun hF => ?_)
  refine ww_aload_n cx dL_law_1899 rfl 0 rfl ?_
  refine ww_iload_n cx dL_law_1900 rfl 3 rfl ?_
  refine ww_iconst cx dL_law_1901 ic_2 ?_
  refine ww_iadd cx dL_law_1902 ?_
  refine ww_sld cx sx dL_law_1903 hF (fun hF => ?_)
  refine ww_V2_pi kv_L_269 rfl cx sh_62 ⟨Nat.le_of_ble_eq_true rfl, Nat.le_of_ble_eq_true rfl⟩ (Nat.le_of_ble_eq_true rfl) dL_law_1904 (kX8_borrowed G) hF (fun r256 hF => ?_)
  refine ww_pop cx dL_law_1907 rfl ?_
  refine ww_goto cx dL_law_1908 (tgt := 2390) rfl ?_
  refine ww_iinc (j := 3) (ks := [0, 1, 2, 3]) (lv' := fun v257 => [(3, .int v257), (0, .ref b), (1, .ref (gad G 0)), (2, .ref (gad G 62))]) cx dL_law_2390 (by decide) rfl ic_6 hF (fun _ => rfl) (fun v257 hF => ?_)
  refine ww_goto cx dL_law_2393 (tgt := 18) rfl ?_
  exact ww_sub [1, 2, 3, 0] rfl (hk18 _ _ hF)
theorem kL_b1911 {G : GT} {X : CT} {b L : Nat} {xs : Nat → Int32} (cx : Cx G X RL code 4 1000) (sx : SX X b L xs) (hE : ∀ (σ : St) (lv : List (Nat × Value)) (pc : Nat), decode code pc = .ok (.ireturn, 1) → WW G X 4 σ lv pc [.int 1]) {kr18 : St → Int32 → Option Int32} (hk18 : ∀ (σ : St) (x3 : Int32), kr18 σ x3 = some 1 → WW G X 4 σ [(0, .ref b), (1, .ref (gad G 0)), (2, .ref (gad G 62)), (3, .int x3)] 18 []) (σ : St) (x3 : Int32) (hF : fL_b1911 L xs kr18 σ x3 = some 1) : WW G X 4 σ [(0, .ref b), (1, .ref (gad G 0)), (2, .ref (gad G 62)), (3, .int x3)] 1911 [] := by
  unfold fL_b1911 at hF
  refine ww_aload_n cx dL_law_1911 rfl 1 rfl ?_
  refine ww_aload_n cx dL_law_1912 rfl 0 rfl ?_
  refine ww_iload_n cx dL_law_1913 rfl 3 rfl ?_
  refine ww_iconst cx dL_law_1914 ic_1 ?_
  refine ww_iadd cx dL_law_1915 ?_
  refine ww_sld cx sx dL_law_1916 hF (fun hF => ?_)
  refine ww_aload_n cx dL_law_1917 rfl 0 rfl ?_
  refine ww_iload_n cx dL_law_1918 rfl 3 rfl ?_
  refine ww_iconst cx dL_law_1919 ic_2 ?_
  refine ww_iadd cx dL_law_1920 ?_
  refine ww_sld cx sx dL_law_1921 hF (fun hF => ?_)
  refine ww_V2_si kv_L_270 rfl cx sh_0 ⟨Nat.le_of_ble_eq_true rfl, Nat.le_of_ble_eq_true rfl⟩ (Nat.le_of_ble_eq_true rfl) dL_law_1922 (kX7_lent G) hF (fun r258 σ259 hF => ?_)
  refine ww_pop cx dL_law_1925 rfl ?_
  refine ww_aload_n cx dL_law_1926 rfl 2 rfl ?_
  refine ww_aload_n cx dL_law_1927 rfl 0 rfl ?_
  refine ww_iload_n cx dL_law_1928 rfl 3 rfl ?_
  refine ww_iconst cx dL_law_1929 ic_1 ?_
  refine ww_iadd cx dL_law_1930 ?_
  refine ww_sld cx sx dL_law_1931 hF (fun hF => ?_)
  refine ww_aload_n cx dL_law_1932 rfl 0 rfl ?_
  refine ww_iload_n cx dL_law_1933 rfl 3 rfl ?_
  refine ww_iconst cx dL_law_1934 ic_2 ?_
  refine ww_iadd cx dL_law_1935 ?_
  refine ww_sld cx sx dL_law_1936 hF (fun hF => ?_)
  refine ww_V2_pi kv_L_273 rfl cx sh_62 ⟨Nat.le_of_ble_eq_true rfl, Nat.le_of_ble_eq_true rfl⟩ (Nat.le_of_ble_eq_true rfl) dL_law_1937 (kX8_lent G) hF (fun r260 hF => ?_)
  refine ww_pop cx dL_law_1940 rfl ?_
  refine ww_goto cx dL_law_1941 (tgt := 2390) rfl ?_
  refine ww_iinc (j := 3) (ks := [0, 1, 2, 3]) (lv' := fun v261 => [(3, .int v261), (0, .ref b), (1, .ref (gad G 0)), (2, .ref (gad G 62))]) cx dL_law_2390 (by decide) rfl ic_6 hF (fun _ => rfl) (fun v261 hF => ?_)
  refine ww_goto cx dL_law_2393 (tgt := 18) rfl ?_
  exact ww_sub [1, 2, 3, 0] rfl (hk18 _ _ hF)
theorem kL_b1944 {G : GT} {X : CT} {b L : Nat} {xs : Nat → Int32} (cx : Cx G X RL code 4 1000) (sx : SX X b L xs) (hE : ∀ (σ : St) (lv : List (Nat × Value)) (pc : Nat), decode code pc = .ok (.ireturn, 1) → WW G X 4 σ lv pc [.int 1]) {kr18 : St → Int32 → Option Int32} (hk18 : ∀ (σ : St) (x3 : Int32), kr18 σ x3 = some 1 → WW G X 4 σ [(0, .ref b), (1, .ref (gad G 0)), (2, .ref (gad G 62)), (3, .int x3)] 18 []) (σ : St) (x3 : Int32) (hF : fL_b1944 L xs kr18 σ x3 = some 1) : WW G X 4 σ [(0, .ref b), (1, .ref (gad G 0)), (2, .ref (gad G 62)), (3, .int x3)] 1944 [] := by
  unfold fL_b1944 at hF
  refine ww_aload_n cx dL_law_1944 rfl 1 rfl ?_
  refine ww_aload_n cx dL_law_1945 rfl 0 rfl ?_
  refine ww_iload_n cx dL_law_1946 rfl 3 rfl ?_
  refine ww_iconst cx dL_law_1947 ic_1 ?_
  refine ww_iadd cx dL_law_1948 ?_
  refine ww_sld cx sx dL_law_1949 hF (fun hF => ?_)
  refine ww_aload_n cx dL_law_1950 rfl 0 rfl ?_
  refine ww_iload_n cx dL_law_1951 rfl 3 rfl ?_
  refine ww_iconst cx dL_law_1952 ic_2 ?_
  refine ww_iadd cx dL_law_1953 ?_
  refine ww_sld cx sx dL_law_1954 hF (fun hF => ?_)
  refine ww_V2_si kv_L_274 rfl cx sh_0 ⟨Nat.le_of_ble_eq_true rfl, Nat.le_of_ble_eq_true rfl⟩ (Nat.le_of_ble_eq_true rfl) dL_law_1955 (kX7_adds G) hF (fun r262 σ263 hF => ?_)
  refine ww_pop cx dL_law_1958 rfl ?_
  refine ww_aload_n cx dL_law_1959 rfl 2 rfl ?_
  refine ww_aload_n cx dL_law_1960 rfl 0 rfl ?_
  refine ww_iload_n cx dL_law_1961 rfl 3 rfl ?_
  refine ww_iconst cx dL_law_1962 ic_1 ?_
  refine ww_iadd cx dL_law_1963 ?_
  refine ww_sld cx sx dL_law_1964 hF (fun hF => ?_)
  refine ww_aload_n cx dL_law_1965 rfl 0 rfl ?_
  refine ww_iload_n cx dL_law_1966 rfl 3 rfl ?_
  refine ww_iconst cx dL_law_1967 ic_2 ?_
  refine ww_iadd cx dL_law_1968 ?_
  refine ww_sld cx sx dL_law_1969 hF (fun hF => ?_)
  refine ww_V2_si kv_L_277 rfl cx sh_62 ⟨Nat.le_of_ble_eq_true rfl, Nat.le_of_ble_eq_true rfl⟩ (Nat.le_of_ble_eq_true rfl) dL_law_1970 (kX8_adds G) hF (fun r264 σ265 hF => ?_)
  refine ww_pop cx dL_law_1973 rfl ?_
  refine ww_goto cx dL_law_1974 (tgt := 2390) rfl ?_
  refine ww_iinc (j := 3) (ks := [0, 1, 2, 3]) (lv' := fun v266 => [(3, .int v266), (0, .ref b), (1, .ref (gad G 0)), (2, .ref (gad G 62))]) cx dL_law_2390 (by decide) rfl ic_6 hF (fun _ => rfl) (fun v266 hF => ?_)
  refine ww_goto cx dL_law_2393 (tgt := 18) rfl ?_
  exact ww_sub [1, 2, 3, 0] rfl (hk18 _ _ hF)
theorem kL_b1977 {G : GT} {X : CT} {b L : Nat} {xs : Nat → Int32} (cx : Cx G X RL code 4 1000) (sx : SX X b L xs) (hE : ∀ (σ : St) (lv : List (Nat × Value)) (pc : Nat), decode code pc = .ok (.ireturn, 1) → WW G X 4 σ lv pc [.int 1]) {kr18 : St → Int32 → Option Int32} (hk18 : ∀ (σ : St) (x3 : Int32), kr18 σ x3 = some 1 → WW G X 4 σ [(0, .ref b), (1, .ref (gad G 0)), (2, .ref (gad G 62)), (3, .int x3)] 18 []) (σ : St) (x3 : Int32) (hF : fL_b1977 L xs kr18 σ x3 = some 1) : WW G X 4 σ [(0, .ref b), (1, .ref (gad G 0)), (2, .ref (gad G 62)), (3, .int x3)] 1977 [] := by
  unfold fL_b1977 at hF
  refine ww_aload_n cx dL_law_1977 rfl 1 rfl ?_
  refine ww_V0_si kv_L_278 rfl cx sh_0 ⟨Nat.le_of_ble_eq_true rfl, Nat.le_of_ble_eq_true rfl⟩ (Nat.le_of_ble_eq_true rfl) dL_law_1978 (kX7_drops G) hF (fun r267 σ268 hF => ?_)
  refine ww_pop cx dL_law_1981 rfl ?_
  refine ww_aload_n cx dL_law_1982 rfl 2 rfl ?_
  refine ww_V0_si kv_L_281 rfl cx sh_62 ⟨Nat.le_of_ble_eq_true rfl, Nat.le_of_ble_eq_true rfl⟩ (Nat.le_of_ble_eq_true rfl) dL_law_1983 (kX8_drops G) hF (fun r269 σ270 hF => ?_)
  refine ww_pop cx dL_law_1986 rfl ?_
  refine ww_goto cx dL_law_1987 (tgt := 2390) rfl ?_
  refine ww_iinc (j := 3) (ks := [0, 1, 2, 3]) (lv' := fun v271 => [(3, .int v271), (0, .ref b), (1, .ref (gad G 0)), (2, .ref (gad G 62))]) cx dL_law_2390 (by decide) rfl ic_6 hF (fun _ => rfl) (fun v271 hF => ?_)
  refine ww_goto cx dL_law_2393 (tgt := 18) rfl ?_
  exact ww_sub [1, 2, 3, 0] rfl (hk18 _ _ hF)
theorem kL_b1990 {G : GT} {X : CT} {b L : Nat} {xs : Nat → Int32} (cx : Cx G X RL code 4 1000) (sx : SX X b L xs) (hE : ∀ (σ : St) (lv : List (Nat × Value)) (pc : Nat), decode code pc = .ok (.ireturn, 1) → WW G X 4 σ lv pc [.int 1]) {kr18 : St → Int32 → Option Int32} (hk18 : ∀ (σ : St) (x3 : Int32), kr18 σ x3 = some 1 → WW G X 4 σ [(0, .ref b), (1, .ref (gad G 0)), (2, .ref (gad G 62)), (3, .int x3)] 18 []) (σ : St) (x3 : Int32) (hF : fL_b1990 L xs kr18 σ x3 = some 1) : WW G X 4 σ [(0, .ref b), (1, .ref (gad G 0)), (2, .ref (gad G 62)), (3, .int x3)] 1990 [] := by
  unfold fL_b1990 at hF
  refine ww_aload_n cx dL_law_1990 rfl 1 rfl ?_
  refine ww_aload_n cx dL_law_1991 rfl 0 rfl ?_
  refine ww_iload_n cx dL_law_1992 rfl 3 rfl ?_
  refine ww_iconst cx dL_law_1993 ic_1 ?_
  refine ww_iadd cx dL_law_1994 ?_
  refine ww_sld cx sx dL_law_1995 hF (fun hF => ?_)
  refine ww_aload_n cx dL_law_1996 rfl 0 rfl ?_
  refine ww_iload_n cx dL_law_1997 rfl 3 rfl ?_
  refine ww_iconst cx dL_law_1998 ic_2 ?_
  refine ww_iadd cx dL_law_1999 ?_
  refine ww_sld cx sx dL_law_2000 hF (fun hF => ?_)
  refine ww_aload_n cx dL_law_2001 rfl 0 rfl ?_
  refine ww_iload_n cx dL_law_2002 rfl 3 rfl ?_
  refine ww_iconst cx dL_law_2003 ic_3 ?_
  refine ww_iadd cx dL_law_2004 ?_
  refine ww_sld cx sx dL_law_2005 hF (fun hF => ?_)
  refine ww_V3_si kv_L_282 rfl cx sh_0 ⟨Nat.le_of_ble_eq_true rfl, Nat.le_of_ble_eq_true rfl⟩ (Nat.le_of_ble_eq_true rfl) dL_law_2006 (kX7_teach G) hF (fun r272 σ273 hF => ?_)
  refine ww_pop cx dL_law_2009 rfl ?_
  refine ww_aload_n cx dL_law_2010 rfl 2 rfl ?_
  refine ww_aload_n cx dL_law_2011 rfl 0 rfl ?_
  refine ww_iload_n cx dL_law_2012 rfl 3 rfl ?_
  refine ww_iconst cx dL_law_2013 ic_1 ?_
  refine ww_iadd cx dL_law_2014 ?_
  refine ww_sld cx sx dL_law_2015 hF (fun hF => ?_)
  refine ww_aload_n cx dL_law_2016 rfl 0 rfl ?_
  refine ww_iload_n cx dL_law_2017 rfl 3 rfl ?_
  refine ww_iconst cx dL_law_2018 ic_2 ?_
  refine ww_iadd cx dL_law_2019 ?_
  refine ww_sld cx sx dL_law_2020 hF (fun hF => ?_)
  refine ww_aload_n cx dL_law_2021 rfl 0 rfl ?_
  refine ww_iload_n cx dL_law_2022 rfl 3 rfl ?_
  refine ww_iconst cx dL_law_2023 ic_3 ?_
  refine ww_iadd cx dL_law_2024 ?_
  refine ww_sld cx sx dL_law_2025 hF (fun hF => ?_)
  refine ww_V3_si kv_L_285 rfl cx sh_62 ⟨Nat.le_of_ble_eq_true rfl, Nat.le_of_ble_eq_true rfl⟩ (Nat.le_of_ble_eq_true rfl) dL_law_2026 (kX8_teach G) hF (fun r274 σ275 hF => ?_)
  refine ww_pop cx dL_law_2029 rfl ?_
  refine ww_goto cx dL_law_2030 (tgt := 2390) rfl ?_
  refine ww_iinc (j := 3) (ks := [0, 1, 2, 3]) (lv' := fun v276 => [(3, .int v276), (0, .ref b), (1, .ref (gad G 0)), (2, .ref (gad G 62))]) cx dL_law_2390 (by decide) rfl ic_6 hF (fun _ => rfl) (fun v276 hF => ?_)
  refine ww_goto cx dL_law_2393 (tgt := 18) rfl ?_
  exact ww_sub [1, 2, 3, 0] rfl (hk18 _ _ hF)
theorem kL_b2033 {G : GT} {X : CT} {b L : Nat} {xs : Nat → Int32} (cx : Cx G X RL code 4 1000) (sx : SX X b L xs) (hE : ∀ (σ : St) (lv : List (Nat × Value)) (pc : Nat), decode code pc = .ok (.ireturn, 1) → WW G X 4 σ lv pc [.int 1]) {kr18 : St → Int32 → Option Int32} (hk18 : ∀ (σ : St) (x3 : Int32), kr18 σ x3 = some 1 → WW G X 4 σ [(0, .ref b), (1, .ref (gad G 0)), (2, .ref (gad G 62)), (3, .int x3)] 18 []) (σ : St) (x3 : Int32) (hF : fL_b2033 L xs kr18 σ x3 = some 1) : WW G X 4 σ [(0, .ref b), (1, .ref (gad G 0)), (2, .ref (gad G 62)), (3, .int x3)] 2033 [] := by
  unfold fL_b2033 at hF
  refine ww_aload_n cx dL_law_2033 rfl 1 rfl ?_
  refine ww_aload_n cx dL_law_2034 rfl 0 rfl ?_
  refine ww_iload_n cx dL_law_2035 rfl 3 rfl ?_
  refine ww_iconst cx dL_law_2036 ic_1 ?_
  refine ww_iadd cx dL_law_2037 ?_
  refine ww_sld cx sx dL_law_2038 hF (fun hF => ?_)
  refine ww_V1_pi kv_L_286 rfl cx sh_0 ⟨Nat.le_of_ble_eq_true rfl, Nat.le_of_ble_eq_true rfl⟩ (Nat.le_of_ble_eq_true rfl) dL_law_2039 (kX7_drawn G) hF (fun r277 hF => ?_)
  refine ww_pop cx dL_law_2042 rfl ?_
  refine ww_aload_n cx dL_law_2043 rfl 2 rfl ?_
  refine ww_aload_n cx dL_law_2044 rfl 0 rfl ?_
  refine ww_iload_n cx dL_law_2045 rfl 3 rfl ?_
  refine ww_iconst cx dL_law_2046 ic_1 ?_
  refine ww_iadd cx dL_law_2047 ?_
  refine ww_sld cx sx dL_law_2048 hF (fun hF => ?_)
  refine ww_V1_pi kv_L_289 rfl cx sh_62 ⟨Nat.le_of_ble_eq_true rfl, Nat.le_of_ble_eq_true rfl⟩ (Nat.le_of_ble_eq_true rfl) dL_law_2049 (kX8_drawn G) hF (fun r278 hF => ?_)
  refine ww_pop cx dL_law_2052 rfl ?_
  refine ww_goto cx dL_law_2053 (tgt := 2390) rfl ?_
  refine ww_iinc (j := 3) (ks := [0, 1, 2, 3]) (lv' := fun v279 => [(3, .int v279), (0, .ref b), (1, .ref (gad G 0)), (2, .ref (gad G 62))]) cx dL_law_2390 (by decide) rfl ic_6 hF (fun _ => rfl) (fun v279 hF => ?_)
  refine ww_goto cx dL_law_2393 (tgt := 18) rfl ?_
  exact ww_sub [1, 2, 3, 0] rfl (hk18 _ _ hF)
theorem kL_b2056 {G : GT} {X : CT} {b L : Nat} {xs : Nat → Int32} (cx : Cx G X RL code 4 1000) (sx : SX X b L xs) (hE : ∀ (σ : St) (lv : List (Nat × Value)) (pc : Nat), decode code pc = .ok (.ireturn, 1) → WW G X 4 σ lv pc [.int 1]) {kr18 : St → Int32 → Option Int32} (hk18 : ∀ (σ : St) (x3 : Int32), kr18 σ x3 = some 1 → WW G X 4 σ [(0, .ref b), (1, .ref (gad G 0)), (2, .ref (gad G 62)), (3, .int x3)] 18 []) (σ : St) (x3 : Int32) (hF : fL_b2056 L xs kr18 σ x3 = some 1) : WW G X 4 σ [(0, .ref b), (1, .ref (gad G 0)), (2, .ref (gad G 62)), (3, .int x3)] 2056 [] := by
  unfold fL_b2056 at hF
  refine ww_aload_n cx dL_law_2056 rfl 1 rfl ?_
  refine ww_aload_n cx dL_law_2057 rfl 0 rfl ?_
  refine ww_iload_n cx dL_law_2058 rfl 3 rfl ?_
  refine ww_iconst cx dL_law_2059 ic_1 ?_
  refine ww_iadd cx dL_law_2060 ?_
  refine ww_sld cx sx dL_law_2061 hF (fun hF => ?_)
  refine ww_aload_n cx dL_law_2062 rfl 0 rfl ?_
  refine ww_iload_n cx dL_law_2063 rfl 3 rfl ?_
  refine ww_iconst cx dL_law_2064 ic_2 ?_
  refine ww_iadd cx dL_law_2065 ?_
  refine ww_sld cx sx dL_law_2066 hF (fun hF => ?_)
  refine ww_V2_si kv_L_290 rfl cx sh_0 ⟨Nat.le_of_ble_eq_true rfl, Nat.le_of_ble_eq_true rfl⟩ (Nat.le_of_ble_eq_true rfl) dL_law_2067 (kX7_feast G) hF (fun r280 σ281 hF => ?_)
  refine ww_pop cx dL_law_2070 rfl ?_
  refine ww_aload_n cx dL_law_2071 rfl 2 rfl ?_
  refine ww_aload_n cx dL_law_2072 rfl 0 rfl ?_
  refine ww_iload_n cx dL_law_2073 rfl 3 rfl ?_
  refine ww_iconst cx dL_law_2074 ic_1 ?_
  refine ww_iadd cx dL_law_2075 ?_
  refine ww_sld cx sx dL_law_2076 hF (fun hF => ?_)
  refine ww_aload_n cx dL_law_2077 rfl 0 rfl ?_
  refine ww_iload_n cx dL_law_2078 rfl 3 rfl ?_
  refine ww_iconst cx dL_law_2079 ic_2 ?_
  refine ww_iadd cx dL_law_2080 ?_
  refine ww_sld cx sx dL_law_2081 hF (fun hF => ?_)
  refine ww_V2_si kv_L_293 rfl cx sh_62 ⟨Nat.le_of_ble_eq_true rfl, Nat.le_of_ble_eq_true rfl⟩ (Nat.le_of_ble_eq_true rfl) dL_law_2082 (kX8_feast G) hF (fun r282 σ283 hF => ?_)
  refine ww_pop cx dL_law_2085 rfl ?_
  refine ww_goto cx dL_law_2086 (tgt := 2390) rfl ?_
  refine ww_iinc (j := 3) (ks := [0, 1, 2, 3]) (lv' := fun v284 => [(3, .int v284), (0, .ref b), (1, .ref (gad G 0)), (2, .ref (gad G 62))]) cx dL_law_2390 (by decide) rfl ic_6 hF (fun _ => rfl) (fun v284 hF => ?_)
  refine ww_goto cx dL_law_2393 (tgt := 18) rfl ?_
  exact ww_sub [1, 2, 3, 0] rfl (hk18 _ _ hF)
theorem kL_b2089 {G : GT} {X : CT} {b L : Nat} {xs : Nat → Int32} (cx : Cx G X RL code 4 1000) (sx : SX X b L xs) (hE : ∀ (σ : St) (lv : List (Nat × Value)) (pc : Nat), decode code pc = .ok (.ireturn, 1) → WW G X 4 σ lv pc [.int 1]) {kr18 : St → Int32 → Option Int32} (hk18 : ∀ (σ : St) (x3 : Int32), kr18 σ x3 = some 1 → WW G X 4 σ [(0, .ref b), (1, .ref (gad G 0)), (2, .ref (gad G 62)), (3, .int x3)] 18 []) (σ : St) (x3 : Int32) (hF : fL_b2089 L xs kr18 σ x3 = some 1) : WW G X 4 σ [(0, .ref b), (1, .ref (gad G 0)), (2, .ref (gad G 62)), (3, .int x3)] 2089 [] := by
  unfold fL_b2089 at hF
  refine ww_aload_n cx dL_law_2089 rfl 1 rfl ?_
  refine ww_aload_n cx dL_law_2090 rfl 0 rfl ?_
  refine ww_iload_n cx dL_law_2091 rfl 3 rfl ?_
  refine ww_iconst cx dL_law_2092 ic_1 ?_
  refine ww_iadd cx dL_law_2093 ?_
  refine ww_sld cx sx dL_law_2094 hF (fun hF => ?_)
  refine ww_aload_n cx dL_law_2095 rfl 0 rfl ?_
  refine ww_iload_n cx dL_law_2096 rfl 3 rfl ?_
  refine ww_iconst cx dL_law_2097 ic_2 ?_
  refine ww_iadd cx dL_law_2098 ?_
  refine ww_sld cx sx dL_law_2099 hF (fun hF => ?_)
  refine ww_aload_n cx dL_law_2100 rfl 0 rfl ?_
  refine ww_iload_n cx dL_law_2101 rfl 3 rfl ?_
  refine ww_iconst cx dL_law_2102 ic_3 ?_
  refine ww_iadd cx dL_law_2103 ?_
  refine ww_sld cx sx dL_law_2104 hF (fun hF => ?_)
  refine ww_aload_n cx dL_law_2105 rfl 0 rfl ?_
  refine ww_iload_n cx dL_law_2106 rfl 3 rfl ?_
  refine ww_iconst cx dL_law_2107 ic_4 ?_
  refine ww_iadd cx dL_law_2108 ?_
  refine ww_sld cx sx dL_law_2109 hF (fun hF => ?_)
  refine ww_V4_si kv_L_294 rfl cx sh_0 ⟨Nat.le_of_ble_eq_true rfl, Nat.le_of_ble_eq_true rfl⟩ (Nat.le_of_ble_eq_true rfl) dL_law_2110 (kX7_mean G) hF (fun r285 σ286 hF => ?_)
  refine ww_pop cx dL_law_2113 rfl ?_
  refine ww_aload_n cx dL_law_2114 rfl 2 rfl ?_
  refine ww_aload_n cx dL_law_2115 rfl 0 rfl ?_
  refine ww_iload_n cx dL_law_2116 rfl 3 rfl ?_
  refine ww_iconst cx dL_law_2117 ic_1 ?_
  refine ww_iadd cx dL_law_2118 ?_
  refine ww_sld cx sx dL_law_2119 hF (fun hF => ?_)
  refine ww_aload_n cx dL_law_2120 rfl 0 rfl ?_
  refine ww_iload_n cx dL_law_2121 rfl 3 rfl ?_
  refine ww_iconst cx dL_law_2122 ic_2 ?_
  refine ww_iadd cx dL_law_2123 ?_
  refine ww_sld cx sx dL_law_2124 hF (fun hF => ?_)
  refine ww_aload_n cx dL_law_2125 rfl 0 rfl ?_
  refine ww_iload_n cx dL_law_2126 rfl 3 rfl ?_
  refine ww_iconst cx dL_law_2127 ic_3 ?_
  refine ww_iadd cx dL_law_2128 ?_
  refine ww_sld cx sx dL_law_2129 hF (fun hF => ?_)
  refine ww_aload_n cx dL_law_2130 rfl 0 rfl ?_
  refine ww_iload_n cx dL_law_2131 rfl 3 rfl ?_
  refine ww_iconst cx dL_law_2132 ic_4 ?_
  refine ww_iadd cx dL_law_2133 ?_
  refine ww_sld cx sx dL_law_2134 hF (fun hF => ?_)
  refine ww_V4_si kv_L_298 rfl cx sh_62 ⟨Nat.le_of_ble_eq_true rfl, Nat.le_of_ble_eq_true rfl⟩ (Nat.le_of_ble_eq_true rfl) dL_law_2135 (kX8_mean G) hF (fun r287 σ288 hF => ?_)
  refine ww_pop cx dL_law_2138 rfl ?_
  refine ww_goto cx dL_law_2139 (tgt := 2390) rfl ?_
  refine ww_iinc (j := 3) (ks := [0, 1, 2, 3]) (lv' := fun v289 => [(3, .int v289), (0, .ref b), (1, .ref (gad G 0)), (2, .ref (gad G 62))]) cx dL_law_2390 (by decide) rfl ic_6 hF (fun _ => rfl) (fun v289 hF => ?_)
  refine ww_goto cx dL_law_2393 (tgt := 18) rfl ?_
  exact ww_sub [1, 2, 3, 0] rfl (hk18 _ _ hF)
theorem kL_b2142 {G : GT} {X : CT} {b L : Nat} {xs : Nat → Int32} (cx : Cx G X RL code 4 1000) (sx : SX X b L xs) (hE : ∀ (σ : St) (lv : List (Nat × Value)) (pc : Nat), decode code pc = .ok (.ireturn, 1) → WW G X 4 σ lv pc [.int 1]) {kr18 : St → Int32 → Option Int32} (hk18 : ∀ (σ : St) (x3 : Int32), kr18 σ x3 = some 1 → WW G X 4 σ [(0, .ref b), (1, .ref (gad G 0)), (2, .ref (gad G 62)), (3, .int x3)] 18 []) (σ : St) (x3 : Int32) (hF : fL_b2142 L xs kr18 σ x3 = some 1) : WW G X 4 σ [(0, .ref b), (1, .ref (gad G 0)), (2, .ref (gad G 62)), (3, .int x3)] 2142 [] := by
  unfold fL_b2142 at hF
  refine ww_aload_n cx dL_law_2142 rfl 1 rfl ?_
  refine ww_aload_n cx dL_law_2143 rfl 0 rfl ?_
  refine ww_iload_n cx dL_law_2144 rfl 3 rfl ?_
  refine ww_iconst cx dL_law_2145 ic_1 ?_
  refine ww_iadd cx dL_law_2146 ?_
  refine ww_sld cx sx dL_law_2147 hF (fun hF => ?_)
  refine ww_V1_pi kv_L_299 rfl cx sh_0 ⟨Nat.le_of_ble_eq_true rfl, Nat.le_of_ble_eq_true rfl⟩ (Nat.le_of_ble_eq_true rfl) dL_law_2148 (kX7_count G) hF (fun r290 hF => ?_)
  refine ww_pop cx dL_law_2151 rfl ?_
  refine ww_aload_n cx dL_law_2152 rfl 2 rfl ?_
  refine ww_aload_n cx dL_law_2153 rfl 0 rfl ?_
  refine ww_iload_n cx dL_law_2154 rfl 3 rfl ?_
  refine ww_iconst cx dL_law_2155 ic_1 ?_
  refine ww_iadd cx dL_law_2156 ?_
  refine ww_sld cx sx dL_law_2157 hF (fun hF => ?_)
  refine ww_V1_pi kv_L_302 rfl cx sh_62 ⟨Nat.le_of_ble_eq_true rfl, Nat.le_of_ble_eq_true rfl⟩ (Nat.le_of_ble_eq_true rfl) dL_law_2158 (kX8_count G) hF (fun r291 hF => ?_)
  refine ww_pop cx dL_law_2161 rfl ?_
  refine ww_goto cx dL_law_2162 (tgt := 2390) rfl ?_
  refine ww_iinc (j := 3) (ks := [0, 1, 2, 3]) (lv' := fun v292 => [(3, .int v292), (0, .ref b), (1, .ref (gad G 0)), (2, .ref (gad G 62))]) cx dL_law_2390 (by decide) rfl ic_6 hF (fun _ => rfl) (fun v292 hF => ?_)
  refine ww_goto cx dL_law_2393 (tgt := 18) rfl ?_
  exact ww_sub [1, 2, 3, 0] rfl (hk18 _ _ hF)
theorem kL_b2165 {G : GT} {X : CT} {b L : Nat} {xs : Nat → Int32} (cx : Cx G X RL code 4 1000) (sx : SX X b L xs) (hE : ∀ (σ : St) (lv : List (Nat × Value)) (pc : Nat), decode code pc = .ok (.ireturn, 1) → WW G X 4 σ lv pc [.int 1]) {kr18 : St → Int32 → Option Int32} (hk18 : ∀ (σ : St) (x3 : Int32), kr18 σ x3 = some 1 → WW G X 4 σ [(0, .ref b), (1, .ref (gad G 0)), (2, .ref (gad G 62)), (3, .int x3)] 18 []) (σ : St) (x3 : Int32) (hF : fL_b2165 L xs kr18 σ x3 = some 1) : WW G X 4 σ [(0, .ref b), (1, .ref (gad G 0)), (2, .ref (gad G 62)), (3, .int x3)] 2165 [] := by
  unfold fL_b2165 at hF
  refine ww_aload_n cx dL_law_2165 rfl 1 rfl ?_
  refine ww_aload_n cx dL_law_2166 rfl 0 rfl ?_
  refine ww_iload_n cx dL_law_2167 rfl 3 rfl ?_
  refine ww_iconst cx dL_law_2168 ic_1 ?_
  refine ww_iadd cx dL_law_2169 ?_
  refine ww_sld cx sx dL_law_2170 hF (fun hF => ?_)
  refine ww_V1_si kv_L_303 rfl cx sh_0 ⟨Nat.le_of_ble_eq_true rfl, Nat.le_of_ble_eq_true rfl⟩ (Nat.le_of_ble_eq_true rfl) dL_law_2171 (kX7_image G) hF (fun r293 σ294 hF => ?_)
  refine ww_pop cx dL_law_2174 rfl ?_
  refine ww_aload_n cx dL_law_2175 rfl 2 rfl ?_
  refine ww_aload_n cx dL_law_2176 rfl 0 rfl ?_
  refine ww_iload_n cx dL_law_2177 rfl 3 rfl ?_
  refine ww_iconst cx dL_law_2178 ic_1 ?_
  refine ww_iadd cx dL_law_2179 ?_
  refine ww_sld cx sx dL_law_2180 hF (fun hF => ?_)
  refine ww_V1_si kv_L_306 rfl cx sh_62 ⟨Nat.le_of_ble_eq_true rfl, Nat.le_of_ble_eq_true rfl⟩ (Nat.le_of_ble_eq_true rfl) dL_law_2181 (kX8_image G) hF (fun r295 σ296 hF => ?_)
  refine ww_pop cx dL_law_2184 rfl ?_
  refine ww_goto cx dL_law_2185 (tgt := 2390) rfl ?_
  refine ww_iinc (j := 3) (ks := [0, 1, 2, 3]) (lv' := fun v297 => [(3, .int v297), (0, .ref b), (1, .ref (gad G 0)), (2, .ref (gad G 62))]) cx dL_law_2390 (by decide) rfl ic_6 hF (fun _ => rfl) (fun v297 hF => ?_)
  refine ww_goto cx dL_law_2393 (tgt := 18) rfl ?_
  exact ww_sub [1, 2, 3, 0] rfl (hk18 _ _ hF)
theorem kL_b2188 {G : GT} {X : CT} {b L : Nat} {xs : Nat → Int32} (cx : Cx G X RL code 4 1000) (sx : SX X b L xs) (hE : ∀ (σ : St) (lv : List (Nat × Value)) (pc : Nat), decode code pc = .ok (.ireturn, 1) → WW G X 4 σ lv pc [.int 1]) {kr18 : St → Int32 → Option Int32} (hk18 : ∀ (σ : St) (x3 : Int32), kr18 σ x3 = some 1 → WW G X 4 σ [(0, .ref b), (1, .ref (gad G 0)), (2, .ref (gad G 62)), (3, .int x3)] 18 []) (σ : St) (x3 : Int32) (hF : fL_b2188 L xs kr18 σ x3 = some 1) : WW G X 4 σ [(0, .ref b), (1, .ref (gad G 0)), (2, .ref (gad G 62)), (3, .int x3)] 2188 [] := by
  unfold fL_b2188 at hF
  refine ww_aload_n cx dL_law_2188 rfl 1 rfl ?_
  refine ww_aload_n cx dL_law_2189 rfl 0 rfl ?_
  refine ww_iload_n cx dL_law_2190 rfl 3 rfl ?_
  refine ww_iconst cx dL_law_2191 ic_1 ?_
  refine ww_iadd cx dL_law_2192 ?_
  refine ww_sld cx sx dL_law_2193 hF (fun hF => ?_)
  refine ww_V1_si kv_L_307 rfl cx sh_0 ⟨Nat.le_of_ble_eq_true rfl, Nat.le_of_ble_eq_true rfl⟩ (Nat.le_of_ble_eq_true rfl) dL_law_2194 (kX7_back G) hF (fun r298 σ299 hF => ?_)
  refine ww_pop cx dL_law_2197 rfl ?_
  refine ww_aload_n cx dL_law_2198 rfl 2 rfl ?_
  refine ww_aload_n cx dL_law_2199 rfl 0 rfl ?_
  refine ww_iload_n cx dL_law_2200 rfl 3 rfl ?_
  refine ww_iconst cx dL_law_2201 ic_1 ?_
  refine ww_iadd cx dL_law_2202 ?_
  refine ww_sld cx sx dL_law_2203 hF (fun hF => ?_)
  refine ww_V1_si kv_L_310 rfl cx sh_62 ⟨Nat.le_of_ble_eq_true rfl, Nat.le_of_ble_eq_true rfl⟩ (Nat.le_of_ble_eq_true rfl) dL_law_2204 (kX8_back G) hF (fun r300 σ301 hF => ?_)
  refine ww_pop cx dL_law_2207 rfl ?_
  refine ww_goto cx dL_law_2208 (tgt := 2390) rfl ?_
  refine ww_iinc (j := 3) (ks := [0, 1, 2, 3]) (lv' := fun v302 => [(3, .int v302), (0, .ref b), (1, .ref (gad G 0)), (2, .ref (gad G 62))]) cx dL_law_2390 (by decide) rfl ic_6 hF (fun _ => rfl) (fun v302 hF => ?_)
  refine ww_goto cx dL_law_2393 (tgt := 18) rfl ?_
  exact ww_sub [1, 2, 3, 0] rfl (hk18 _ _ hF)
theorem kL_b2211 {G : GT} {X : CT} {b L : Nat} {xs : Nat → Int32} (cx : Cx G X RL code 4 1000) (sx : SX X b L xs) (hE : ∀ (σ : St) (lv : List (Nat × Value)) (pc : Nat), decode code pc = .ok (.ireturn, 1) → WW G X 4 σ lv pc [.int 1]) {kr18 : St → Int32 → Option Int32} (hk18 : ∀ (σ : St) (x3 : Int32), kr18 σ x3 = some 1 → WW G X 4 σ [(0, .ref b), (1, .ref (gad G 0)), (2, .ref (gad G 62)), (3, .int x3)] 18 []) (σ : St) (x3 : Int32) (hF : fL_b2211 L xs kr18 σ x3 = some 1) : WW G X 4 σ [(0, .ref b), (1, .ref (gad G 0)), (2, .ref (gad G 62)), (3, .int x3)] 2211 [] := by
  unfold fL_b2211 at hF
  refine ww_aload_n cx dL_law_2211 rfl 1 rfl ?_
  refine ww_aload_n cx dL_law_2212 rfl 0 rfl ?_
  refine ww_iload_n cx dL_law_2213 rfl 3 rfl ?_
  refine ww_iconst cx dL_law_2214 ic_1 ?_
  refine ww_iadd cx dL_law_2215 ?_
  refine ww_sld cx sx dL_law_2216 hF (fun hF => ?_)
  refine ww_aload_n cx dL_law_2217 rfl 0 rfl ?_
  refine ww_iload_n cx dL_law_2218 rfl 3 rfl ?_
  refine ww_iconst cx dL_law_2219 ic_2 ?_
  refine ww_iadd cx dL_law_2220 ?_
  refine ww_sld cx sx dL_law_2221 hF (fun hF => ?_)
  refine ww_aload_n cx dL_law_2222 rfl 0 rfl ?_
  refine ww_iload_n cx dL_law_2223 rfl 3 rfl ?_
  refine ww_iconst cx dL_law_2224 ic_3 ?_
  refine ww_iadd cx dL_law_2225 ?_
  refine ww_sld cx sx dL_law_2226 hF (fun hF => ?_)
  refine ww_V3_si kv_L_311 rfl cx sh_0 ⟨Nat.le_of_ble_eq_true rfl, Nat.le_of_ble_eq_true rfl⟩ (Nat.le_of_ble_eq_true rfl) dL_law_2227 (kX7_row G) hF (fun r303 σ304 hF => ?_)
  refine ww_pop cx dL_law_2230 rfl ?_
  refine ww_aload_n cx dL_law_2231 rfl 2 rfl ?_
  refine ww_aload_n cx dL_law_2232 rfl 0 rfl ?_
  refine ww_iload_n cx dL_law_2233 rfl 3 rfl ?_
  refine ww_iconst cx dL_law_2234 ic_1 ?_
  refine ww_iadd cx dL_law_2235 ?_
  refine ww_sld cx sx dL_law_2236 hF (fun hF => ?_)
  refine ww_aload_n cx dL_law_2237 rfl 0 rfl ?_
  refine ww_iload_n cx dL_law_2238 rfl 3 rfl ?_
  refine ww_iconst cx dL_law_2239 ic_2 ?_
  refine ww_iadd cx dL_law_2240 ?_
  refine ww_sld cx sx dL_law_2241 hF (fun hF => ?_)
  refine ww_aload_n cx dL_law_2242 rfl 0 rfl ?_
  refine ww_iload_n cx dL_law_2243 rfl 3 rfl ?_
  refine ww_iconst cx dL_law_2244 ic_3 ?_
  refine ww_iadd cx dL_law_2245 ?_
  refine ww_sld cx sx dL_law_2246 hF (fun hF => ?_)
  refine ww_V3_si kv_L_314 rfl cx sh_62 ⟨Nat.le_of_ble_eq_true rfl, Nat.le_of_ble_eq_true rfl⟩ (Nat.le_of_ble_eq_true rfl) dL_law_2247 (kX8_row G) hF (fun r305 σ306 hF => ?_)
  refine ww_pop cx dL_law_2250 rfl ?_
  refine ww_goto cx dL_law_2251 (tgt := 2390) rfl ?_
  refine ww_iinc (j := 3) (ks := [0, 1, 2, 3]) (lv' := fun v307 => [(3, .int v307), (0, .ref b), (1, .ref (gad G 0)), (2, .ref (gad G 62))]) cx dL_law_2390 (by decide) rfl ic_6 hF (fun _ => rfl) (fun v307 hF => ?_)
  refine ww_goto cx dL_law_2393 (tgt := 18) rfl ?_
  exact ww_sub [1, 2, 3, 0] rfl (hk18 _ _ hF)
theorem kL_b2254 {G : GT} {X : CT} {b L : Nat} {xs : Nat → Int32} (cx : Cx G X RL code 4 1000) (sx : SX X b L xs) (hE : ∀ (σ : St) (lv : List (Nat × Value)) (pc : Nat), decode code pc = .ok (.ireturn, 1) → WW G X 4 σ lv pc [.int 1]) {kr18 : St → Int32 → Option Int32} (hk18 : ∀ (σ : St) (x3 : Int32), kr18 σ x3 = some 1 → WW G X 4 σ [(0, .ref b), (1, .ref (gad G 0)), (2, .ref (gad G 62)), (3, .int x3)] 18 []) (σ : St) (x3 : Int32) (hF : fL_b2254 L xs kr18 σ x3 = some 1) : WW G X 4 σ [(0, .ref b), (1, .ref (gad G 0)), (2, .ref (gad G 62)), (3, .int x3)] 2254 [] := by
  unfold fL_b2254 at hF
  refine ww_aload_n cx dL_law_2254 rfl 1 rfl ?_
  refine ww_aload_n cx dL_law_2255 rfl 0 rfl ?_
  refine ww_iload_n cx dL_law_2256 rfl 3 rfl ?_
  refine ww_iconst cx dL_law_2257 ic_1 ?_
  refine ww_iadd cx dL_law_2258 ?_
  refine ww_sld cx sx dL_law_2259 hF (fun hF => ?_)
  refine ww_aload_n cx dL_law_2260 rfl 0 rfl ?_
  refine ww_iload_n cx dL_law_2261 rfl 3 rfl ?_
  refine ww_iconst cx dL_law_2262 ic_2 ?_
  refine ww_iadd cx dL_law_2263 ?_
  refine ww_sld cx sx dL_law_2264 hF (fun hF => ?_)
  refine ww_aload_n cx dL_law_2265 rfl 0 rfl ?_
  refine ww_iload_n cx dL_law_2266 rfl 3 rfl ?_
  refine ww_iconst cx dL_law_2267 ic_3 ?_
  refine ww_iadd cx dL_law_2268 ?_
  refine ww_sld cx sx dL_law_2269 hF (fun hF => ?_)
  refine ww_i2l cx dL_law_2270 ?_
  refine ww_bipush cx dL_law_2271 bc_32 ?_
  refine ww_lshl cx dL_law_2273 ?_
  refine ww_aload_n cx dL_law_2274 rfl 0 rfl ?_
  refine ww_iload_n cx dL_law_2275 rfl 3 rfl ?_
  refine ww_iconst cx dL_law_2276 ic_4 ?_
  refine ww_iadd cx dL_law_2277 ?_
  refine ww_sld cx sx dL_law_2278 hF (fun hF => ?_)
  refine ww_i2l cx dL_law_2279 ?_
  refine ww_ldc2 (v := 4294967295) cx dL_law_2280 cn_L_315 ?_
  refine ww_land cx dL_law_2283 ?_
  refine ww_lor cx dL_law_2284 ?_
  refine ww_V3_si kv_L_317 rfl cx sh_0 ⟨Nat.le_of_ble_eq_true rfl, Nat.le_of_ble_eq_true rfl⟩ (Nat.le_of_ble_eq_true rfl) dL_law_2285 (kX7_write G) hF (fun r308 σ309 hF => ?_)
  refine ww_pop cx dL_law_2288 rfl ?_
  refine ww_aload_n cx dL_law_2289 rfl 2 rfl ?_
  refine ww_aload_n cx dL_law_2290 rfl 0 rfl ?_
  refine ww_iload_n cx dL_law_2291 rfl 3 rfl ?_
  refine ww_iconst cx dL_law_2292 ic_1 ?_
  refine ww_iadd cx dL_law_2293 ?_
  refine ww_sld cx sx dL_law_2294 hF (fun hF => ?_)
  refine ww_aload_n cx dL_law_2295 rfl 0 rfl ?_
  refine ww_iload_n cx dL_law_2296 rfl 3 rfl ?_
  refine ww_iconst cx dL_law_2297 ic_2 ?_
  refine ww_iadd cx dL_law_2298 ?_
  refine ww_sld cx sx dL_law_2299 hF (fun hF => ?_)
  refine ww_aload_n cx dL_law_2300 rfl 0 rfl ?_
  refine ww_iload_n cx dL_law_2301 rfl 3 rfl ?_
  refine ww_iconst cx dL_law_2302 ic_3 ?_
  refine ww_iadd cx dL_law_2303 ?_
  refine ww_sld cx sx dL_law_2304 hF (fun hF => ?_)
  refine ww_i2l cx dL_law_2305 ?_
  refine ww_bipush cx dL_law_2306 bc_32 ?_
  refine ww_lshl cx dL_law_2308 ?_
  refine ww_aload_n cx dL_law_2309 rfl 0 rfl ?_
  refine ww_iload_n cx dL_law_2310 rfl 3 rfl ?_
  refine ww_iconst cx dL_law_2311 ic_4 ?_
  refine ww_iadd cx dL_law_2312 ?_
  refine ww_sld cx sx dL_law_2313 hF (fun hF => ?_)
  refine ww_i2l cx dL_law_2314 ?_
  refine ww_ldc2 (v := 4294967295) cx dL_law_2315 cn_L_315 ?_
  refine ww_land cx dL_law_2318 ?_
  refine ww_lor cx dL_law_2319 ?_
  refine ww_V3_si kv_L_321 rfl cx sh_62 ⟨Nat.le_of_ble_eq_true rfl, Nat.le_of_ble_eq_true rfl⟩ (Nat.le_of_ble_eq_true rfl) dL_law_2320 (kX8_write G) hF (fun r310 σ311 hF => ?_)
  refine ww_pop cx dL_law_2323 rfl ?_
  refine ww_goto cx dL_law_2324 (tgt := 2390) rfl ?_
  refine ww_iinc (j := 3) (ks := [0, 1, 2, 3]) (lv' := fun v312 => [(3, .int v312), (0, .ref b), (1, .ref (gad G 0)), (2, .ref (gad G 62))]) cx dL_law_2390 (by decide) rfl ic_6 hF (fun _ => rfl) (fun v312 hF => ?_)
  refine ww_goto cx dL_law_2393 (tgt := 18) rfl ?_
  exact ww_sub [1, 2, 3, 0] rfl (hk18 _ _ hF)
theorem kL_b2327 {G : GT} {X : CT} {b L : Nat} {xs : Nat → Int32} (cx : Cx G X RL code 4 1000) (sx : SX X b L xs) (hE : ∀ (σ : St) (lv : List (Nat × Value)) (pc : Nat), decode code pc = .ok (.ireturn, 1) → WW G X 4 σ lv pc [.int 1]) {kr18 : St → Int32 → Option Int32} (hk18 : ∀ (σ : St) (x3 : Int32), kr18 σ x3 = some 1 → WW G X 4 σ [(0, .ref b), (1, .ref (gad G 0)), (2, .ref (gad G 62)), (3, .int x3)] 18 []) (σ : St) (x3 : Int32) (hF : fL_b2327 L xs kr18 σ x3 = some 1) : WW G X 4 σ [(0, .ref b), (1, .ref (gad G 0)), (2, .ref (gad G 62)), (3, .int x3)] 2327 [] := by
  unfold fL_b2327 at hF
  refine ww_aload_n cx dL_law_2327 rfl 1 rfl ?_
  refine ww_aload_n cx dL_law_2328 rfl 0 rfl ?_
  refine ww_iload_n cx dL_law_2329 rfl 3 rfl ?_
  refine ww_iconst cx dL_law_2330 ic_1 ?_
  refine ww_iadd cx dL_law_2331 ?_
  refine ww_sld cx sx dL_law_2332 hF (fun hF => ?_)
  refine ww_aload_n cx dL_law_2333 rfl 0 rfl ?_
  refine ww_iload_n cx dL_law_2334 rfl 3 rfl ?_
  refine ww_iconst cx dL_law_2335 ic_2 ?_
  refine ww_iadd cx dL_law_2336 ?_
  refine ww_sld cx sx dL_law_2337 hF (fun hF => ?_)
  refine ww_aload_n cx dL_law_2338 rfl 0 rfl ?_
  refine ww_iload_n cx dL_law_2339 rfl 3 rfl ?_
  refine ww_iconst cx dL_law_2340 ic_3 ?_
  refine ww_iadd cx dL_law_2341 ?_
  refine ww_sld cx sx dL_law_2342 hF (fun hF => ?_)
  refine ww_aload_n cx dL_law_2343 rfl 0 rfl ?_
  refine ww_iload_n cx dL_law_2344 rfl 3 rfl ?_
  refine ww_iconst cx dL_law_2345 ic_4 ?_
  refine ww_iadd cx dL_law_2346 ?_
  refine ww_sld cx sx dL_law_2347 hF (fun hF => ?_)
  refine ww_aload_n cx dL_law_2348 rfl 0 rfl ?_
  refine ww_iload_n cx dL_law_2349 rfl 3 rfl ?_
  refine ww_iconst cx dL_law_2350 ic_5 ?_
  refine ww_iadd cx dL_law_2351 ?_
  refine ww_sld cx sx dL_law_2352 hF (fun hF => ?_)
  refine ww_V5_si kv_L_322 rfl cx sh_0 ⟨Nat.le_of_ble_eq_true rfl, Nat.le_of_ble_eq_true rfl⟩ (Nat.le_of_ble_eq_true rfl) dL_law_2353 (kX7_paste G) hF (fun r313 σ314 hF => ?_)
  refine ww_aload_n cx dL_law_2356 rfl 2 rfl ?_
  refine ww_aload_n cx dL_law_2357 rfl 0 rfl ?_
  refine ww_iload_n cx dL_law_2358 rfl 3 rfl ?_
  refine ww_iconst cx dL_law_2359 ic_1 ?_
  refine ww_iadd cx dL_law_2360 ?_
  refine ww_sld cx sx dL_law_2361 hF (fun hF => ?_)
  refine ww_aload_n cx dL_law_2362 rfl 0 rfl ?_
  refine ww_iload_n cx dL_law_2363 rfl 3 rfl ?_
  refine ww_iconst cx dL_law_2364 ic_2 ?_
  refine ww_iadd cx dL_law_2365 ?_
  refine ww_sld cx sx dL_law_2366 hF (fun hF => ?_)
  refine ww_aload_n cx dL_law_2367 rfl 0 rfl ?_
  refine ww_iload_n cx dL_law_2368 rfl 3 rfl ?_
  refine ww_iconst cx dL_law_2369 ic_3 ?_
  refine ww_iadd cx dL_law_2370 ?_
  refine ww_sld cx sx dL_law_2371 hF (fun hF => ?_)
  refine ww_aload_n cx dL_law_2372 rfl 0 rfl ?_
  refine ww_iload_n cx dL_law_2373 rfl 3 rfl ?_
  refine ww_iconst cx dL_law_2374 ic_4 ?_
  refine ww_iadd cx dL_law_2375 ?_
  refine ww_sld cx sx dL_law_2376 hF (fun hF => ?_)
  refine ww_aload_n cx dL_law_2377 rfl 0 rfl ?_
  refine ww_iload_n cx dL_law_2378 rfl 3 rfl ?_
  refine ww_iconst cx dL_law_2379 ic_5 ?_
  refine ww_iadd cx dL_law_2380 ?_
  refine ww_sld cx sx dL_law_2381 hF (fun hF => ?_)
  refine ww_V5_si kv_L_325 rfl cx sh_62 ⟨Nat.le_of_ble_eq_true rfl, Nat.le_of_ble_eq_true rfl⟩ (Nat.le_of_ble_eq_true rfl) dL_law_2382 (kX8_paste G) hF (fun r315 σ316 hF => ?_)
  refine ww_icmp_eq cx dL_law_2385 (tgt := 2390) rfl hF (fun hF => ?_) (fun hF => ?_)
  · refine ww_iinc (j := 3) (ks := [0, 1, 2, 3]) (lv' := fun v317 => [(3, .int v317), (0, .ref b), (1, .ref (gad G 0)), (2, .ref (gad G 62))]) cx dL_law_2390 (by decide) rfl ic_6 hF (fun _ => rfl) (fun v317 hF => ?_)
    refine ww_goto cx dL_law_2393 (tgt := 18) rfl ?_
    exact ww_sub [1, 2, 3, 0] rfl (hk18 _ _ hF)
  · refine ww_iconst cx dL_law_2388 ic_0 ?_
    exact ww_rL hE dL_law_2389 hF
set_option maxRecDepth 20000 in
set_option maxHeartbeats 4000000 in
theorem kL_l18 {G : GT} {X : CT} {b L : Nat} {xs : Nat → Int32} (cx : Cx G X RL code 4 1000) (sx : SX X b L xs) (hE : ∀ (σ : St) (lv : List (Nat × Value)) (pc : Nat), decode code pc = .ok (.ireturn, 1) → WW G X 4 σ lv pc [.int 1]) : ∀ (n : Nat) (σ : St) (x3 : Int32), fL_l18 L xs n σ x3 = some 1 → WW G X 4 σ [(0, .ref b), (1, .ref (gad G 0)), (2, .ref (gad G 62)), (3, .int x3)] 18 [] := by
  intro n
  induction n with
  | zero =>
    intro σ x3 hF
    exact absurd hF (by intro z; cases z)
  | succ n hk18 =>
    intro σ x3 hF
    have hF : fL_B18 L xs (fL_l18 L xs n) σ x3 = some 1 := hF
    unfold fL_B18 at hF
    refine ww_iload_n cx dL_law_18 rfl 3 rfl ?_
    refine ww_aload_n cx dL_law_19 rfl 0 rfl ?_
    refine ww_sln cx sx dL_law_20 ?_
    refine ww_bipush cx dL_law_21 bc_6 ?_
    refine ww_isub cx dL_law_23 ?_
    refine ww_icmp_gt cx dL_law_24 (tgt := 2396) rfl hF (fun hF => ?_) (fun hF => ?_)
    · refine ww_iconst cx dL_law_2396 ic_1 ?_
      exact ww_rL hE dL_law_2397 hF
    · refine ww_aload_n cx dL_law_27 rfl 0 rfl ?_
      refine ww_iload_n cx dL_law_28 rfl 3 rfl ?_
      refine ww_sld cx sx dL_law_29 hF (fun hF => ?_)
      refine ww_bipush cx dL_law_30 bc_127 ?_
      refine ww_iand cx dL_law_32 ?_
      by_cases e0 : (xs x3.toNatClampNeg &&& (127 : Int32)) = 0
      · exact ww_tsIn (v := 0) (tgt := 352) cx dL_law_33 e0 (by decide) (by decide) rfl rfl (kL_b352 cx sx hE hk18 σ x3 (it_t e0 hF))
      replace hF := it_f e0 hF
      by_cases e1 : (xs x3.toNatClampNeg &&& (127 : Int32)) = 1
      · exact ww_tsIn (v := 1) (tgt := 415) cx dL_law_33 e1 (by decide) (by decide) rfl rfl (kL_b415 cx sx hE hk18 σ x3 (it_t e1 hF))
      replace hF := it_f e1 hF
      by_cases e2 : (xs x3.toNatClampNeg &&& (127 : Int32)) = 2
      · exact ww_tsIn (v := 2) (tgt := 438) cx dL_law_33 e2 (by decide) (by decide) rfl rfl (kL_b438 cx sx hE hk18 σ x3 (it_t e2 hF))
      replace hF := it_f e2 hF
      by_cases e3 : (xs x3.toNatClampNeg &&& (127 : Int32)) = 3
      · exact ww_tsIn (v := 3) (tgt := 451) cx dL_law_33 e3 (by decide) (by decide) rfl rfl (kL_b451 cx sx hE hk18 σ x3 (it_t e3 hF))
      replace hF := it_f e3 hF
      by_cases e4 : (xs x3.toNatClampNeg &&& (127 : Int32)) = 4
      · exact ww_tsIn (v := 4) (tgt := 474) cx dL_law_33 e4 (by decide) (by decide) rfl rfl (kL_b474 cx sx hE hk18 σ x3 (it_t e4 hF))
      replace hF := it_f e4 hF
      by_cases e5 : (xs x3.toNatClampNeg &&& (127 : Int32)) = 5
      · exact ww_tsIn (v := 5) (tgt := 507) cx dL_law_33 e5 (by decide) (by decide) rfl rfl (kL_b507 cx sx hE hk18 σ x3 (it_t e5 hF))
      replace hF := it_f e5 hF
      by_cases e6 : (xs x3.toNatClampNeg &&& (127 : Int32)) = 6
      · exact ww_tsIn (v := 6) (tgt := 530) cx dL_law_33 e6 (by decide) (by decide) rfl rfl (kL_b530 cx sx hE hk18 σ x3 (it_t e6 hF))
      replace hF := it_f e6 hF
      by_cases e7 : (xs x3.toNatClampNeg &&& (127 : Int32)) = 7
      · exact ww_tsIn (v := 7) (tgt := 563) cx dL_law_33 e7 (by decide) (by decide) rfl rfl (kL_b563 cx sx hE hk18 σ x3 (it_t e7 hF))
      replace hF := it_f e7 hF
      by_cases e8 : (xs x3.toNatClampNeg &&& (127 : Int32)) = 8
      · exact ww_tsIn (v := 8) (tgt := 596) cx dL_law_33 e8 (by decide) (by decide) rfl rfl (kL_b596 cx sx hE hk18 σ x3 (it_t e8 hF))
      replace hF := it_f e8 hF
      by_cases e9 : (xs x3.toNatClampNeg &&& (127 : Int32)) = 9
      · exact ww_tsIn (v := 9) (tgt := 609) cx dL_law_33 e9 (by decide) (by decide) rfl rfl (kL_b609 cx sx hE hk18 σ x3 (it_t e9 hF))
      replace hF := it_f e9 hF
      by_cases e10 : (xs x3.toNatClampNeg &&& (127 : Int32)) = 10
      · exact ww_tsIn (v := 10) (tgt := 632) cx dL_law_33 e10 (by decide) (by decide) rfl rfl (kL_b632 cx sx hE hk18 σ x3 (it_t e10 hF))
      replace hF := it_f e10 hF
      by_cases e11 : (xs x3.toNatClampNeg &&& (127 : Int32)) = 11
      · exact ww_tsIn (v := 11) (tgt := 655) cx dL_law_33 e11 (by decide) (by decide) rfl rfl (kL_b655 cx sx hE hk18 σ x3 (it_t e11 hF))
      replace hF := it_f e11 hF
      by_cases e12 : (xs x3.toNatClampNeg &&& (127 : Int32)) = 12
      · exact ww_tsIn (v := 12) (tgt := 688) cx dL_law_33 e12 (by decide) (by decide) rfl rfl (kL_b688 cx sx hE hk18 σ x3 (it_t e12 hF))
      replace hF := it_f e12 hF
      by_cases e13 : (xs x3.toNatClampNeg &&& (127 : Int32)) = 13
      · exact ww_tsIn (v := 13) (tgt := 711) cx dL_law_33 e13 (by decide) (by decide) rfl rfl (kL_b711 cx sx hE hk18 σ x3 (it_t e13 hF))
      replace hF := it_f e13 hF
      by_cases e14 : (xs x3.toNatClampNeg &&& (127 : Int32)) = 14
      · exact ww_tsIn (v := 14) (tgt := 734) cx dL_law_33 e14 (by decide) (by decide) rfl rfl (kL_b734 cx sx hE hk18 σ x3 (it_t e14 hF))
      replace hF := it_f e14 hF
      by_cases e15 : (xs x3.toNatClampNeg &&& (127 : Int32)) = 15
      · exact ww_tsIn (v := 15) (tgt := 747) cx dL_law_33 e15 (by decide) (by decide) rfl rfl (kL_b747 cx sx hE hk18 σ x3 (it_t e15 hF))
      replace hF := it_f e15 hF
      by_cases e16 : (xs x3.toNatClampNeg &&& (127 : Int32)) = 16
      · exact ww_tsIn (v := 16) (tgt := 760) cx dL_law_33 e16 (by decide) (by decide) rfl rfl (kL_b760 cx sx hE hk18 σ x3 (it_t e16 hF))
      replace hF := it_f e16 hF
      by_cases e17 : (xs x3.toNatClampNeg &&& (127 : Int32)) = 17
      · exact ww_tsIn (v := 17) (tgt := 773) cx dL_law_33 e17 (by decide) (by decide) rfl rfl (kL_b773 cx sx hE hk18 σ x3 (it_t e17 hF))
      replace hF := it_f e17 hF
      by_cases e18 : (xs x3.toNatClampNeg &&& (127 : Int32)) = 18
      · exact ww_tsIn (v := 18) (tgt := 796) cx dL_law_33 e18 (by decide) (by decide) rfl rfl (kL_b796 cx sx hE hk18 σ x3 (it_t e18 hF))
      replace hF := it_f e18 hF
      by_cases e19 : (xs x3.toNatClampNeg &&& (127 : Int32)) = 19
      · exact ww_tsIn (v := 19) (tgt := 819) cx dL_law_33 e19 (by decide) (by decide) rfl rfl (kL_b819 cx sx hE hk18 σ x3 (it_t e19 hF))
      replace hF := it_f e19 hF
      by_cases e20 : (xs x3.toNatClampNeg &&& (127 : Int32)) = 20
      · exact ww_tsIn (v := 20) (tgt := 842) cx dL_law_33 e20 (by decide) (by decide) rfl rfl (kL_b842 cx sx hE hk18 σ x3 (it_t e20 hF))
      replace hF := it_f e20 hF
      by_cases e21 : (xs x3.toNatClampNeg &&& (127 : Int32)) = 21
      · exact ww_tsIn (v := 21) (tgt := 875) cx dL_law_33 e21 (by decide) (by decide) rfl rfl (kL_b875 cx sx hE hk18 σ x3 (it_t e21 hF))
      replace hF := it_f e21 hF
      by_cases e22 : (xs x3.toNatClampNeg &&& (127 : Int32)) = 22
      · exact ww_tsIn (v := 22) (tgt := 908) cx dL_law_33 e22 (by decide) (by decide) rfl rfl (kL_b908 cx sx hE hk18 σ x3 (it_t e22 hF))
      replace hF := it_f e22 hF
      by_cases e23 : (xs x3.toNatClampNeg &&& (127 : Int32)) = 23
      · exact ww_tsIn (v := 23) (tgt := 951) cx dL_law_33 e23 (by decide) (by decide) rfl rfl (kL_b951 cx sx hE hk18 σ x3 (it_t e23 hF))
      replace hF := it_f e23 hF
      by_cases e24 : (xs x3.toNatClampNeg &&& (127 : Int32)) = 24
      · exact ww_tsIn (v := 24) (tgt := 974) cx dL_law_33 e24 (by decide) (by decide) rfl rfl (kL_b974 cx sx hE hk18 σ x3 (it_t e24 hF))
      replace hF := it_f e24 hF
      by_cases e25 : (xs x3.toNatClampNeg &&& (127 : Int32)) = 25
      · exact ww_tsIn (v := 25) (tgt := 997) cx dL_law_33 e25 (by decide) (by decide) rfl rfl (kL_b997 cx sx hE hk18 σ x3 (it_t e25 hF))
      replace hF := it_f e25 hF
      by_cases e26 : (xs x3.toNatClampNeg &&& (127 : Int32)) = 26
      · exact ww_tsIn (v := 26) (tgt := 1030) cx dL_law_33 e26 (by decide) (by decide) rfl rfl (kL_b1030 cx sx hE hk18 σ x3 (it_t e26 hF))
      replace hF := it_f e26 hF
      by_cases e27 : (xs x3.toNatClampNeg &&& (127 : Int32)) = 27
      · exact ww_tsIn (v := 27) (tgt := 1053) cx dL_law_33 e27 (by decide) (by decide) rfl rfl (kL_b1053 cx sx hE hk18 σ x3 (it_t e27 hF))
      replace hF := it_f e27 hF
      by_cases e28 : (xs x3.toNatClampNeg &&& (127 : Int32)) = 28
      · exact ww_tsIn (v := 28) (tgt := 1076) cx dL_law_33 e28 (by decide) (by decide) rfl rfl (kL_b1076 cx sx hE hk18 σ x3 (it_t e28 hF))
      replace hF := it_f e28 hF
      by_cases e29 : (xs x3.toNatClampNeg &&& (127 : Int32)) = 29
      · exact ww_tsIn (v := 29) (tgt := 1099) cx dL_law_33 e29 (by decide) (by decide) rfl rfl (kL_b1099 cx sx hE hk18 σ x3 (it_t e29 hF))
      replace hF := it_f e29 hF
      by_cases e30 : (xs x3.toNatClampNeg &&& (127 : Int32)) = 30
      · exact ww_tsIn (v := 30) (tgt := 1122) cx dL_law_33 e30 (by decide) (by decide) rfl rfl (kL_b1122 cx sx hE hk18 σ x3 (it_t e30 hF))
      replace hF := it_f e30 hF
      by_cases e31 : (xs x3.toNatClampNeg &&& (127 : Int32)) = 31
      · exact ww_tsIn (v := 31) (tgt := 1145) cx dL_law_33 e31 (by decide) (by decide) rfl rfl (kL_b1145 cx sx hE hk18 σ x3 (it_t e31 hF))
      replace hF := it_f e31 hF
      by_cases e32 : (xs x3.toNatClampNeg &&& (127 : Int32)) = 32
      · exact ww_tsIn (v := 32) (tgt := 1168) cx dL_law_33 e32 (by decide) (by decide) rfl rfl (kL_b1168 cx sx hE hk18 σ x3 (it_t e32 hF))
      replace hF := it_f e32 hF
      by_cases e33 : (xs x3.toNatClampNeg &&& (127 : Int32)) = 33
      · exact ww_tsIn (v := 33) (tgt := 1201) cx dL_law_33 e33 (by decide) (by decide) rfl rfl (kL_b1201 cx sx hE hk18 σ x3 (it_t e33 hF))
      replace hF := it_f e33 hF
      by_cases e34 : (xs x3.toNatClampNeg &&& (127 : Int32)) = 34
      · exact ww_tsIn (v := 34) (tgt := 1224) cx dL_law_33 e34 (by decide) (by decide) rfl rfl (kL_b1224 cx sx hE hk18 σ x3 (it_t e34 hF))
      replace hF := it_f e34 hF
      by_cases e35 : (xs x3.toNatClampNeg &&& (127 : Int32)) = 35
      · exact ww_tsIn (v := 35) (tgt := 1247) cx dL_law_33 e35 (by decide) (by decide) rfl rfl (kL_b1247 cx sx hE hk18 σ x3 (it_t e35 hF))
      replace hF := it_f e35 hF
      by_cases e36 : (xs x3.toNatClampNeg &&& (127 : Int32)) = 36
      · exact ww_tsIn (v := 36) (tgt := 1270) cx dL_law_33 e36 (by decide) (by decide) rfl rfl (kL_b1270 cx sx hE hk18 σ x3 (it_t e36 hF))
      replace hF := it_f e36 hF
      by_cases e37 : (xs x3.toNatClampNeg &&& (127 : Int32)) = 37
      · exact ww_tsIn (v := 37) (tgt := 1293) cx dL_law_33 e37 (by decide) (by decide) rfl rfl (kL_b1293 cx sx hE hk18 σ x3 (it_t e37 hF))
      replace hF := it_f e37 hF
      by_cases e38 : (xs x3.toNatClampNeg &&& (127 : Int32)) = 38
      · exact ww_tsIn (v := 38) (tgt := 1316) cx dL_law_33 e38 (by decide) (by decide) rfl rfl (kL_b1316 cx sx hE hk18 σ x3 (it_t e38 hF))
      replace hF := it_f e38 hF
      by_cases e39 : (xs x3.toNatClampNeg &&& (127 : Int32)) = 39
      · exact ww_tsIn (v := 39) (tgt := 1349) cx dL_law_33 e39 (by decide) (by decide) rfl rfl (kL_b1349 cx sx hE hk18 σ x3 (it_t e39 hF))
      replace hF := it_f e39 hF
      by_cases e40 : (xs x3.toNatClampNeg &&& (127 : Int32)) = 40
      · exact ww_tsIn (v := 40) (tgt := 1372) cx dL_law_33 e40 (by decide) (by decide) rfl rfl (kL_b1372 cx sx hE hk18 σ x3 (it_t e40 hF))
      replace hF := it_f e40 hF
      by_cases e41 : (xs x3.toNatClampNeg &&& (127 : Int32)) = 41
      · exact ww_tsIn (v := 41) (tgt := 1395) cx dL_law_33 e41 (by decide) (by decide) rfl rfl (kL_b1395 cx sx hE hk18 σ x3 (it_t e41 hF))
      replace hF := it_f e41 hF
      by_cases e42 : (xs x3.toNatClampNeg &&& (127 : Int32)) = 42
      · exact ww_tsIn (v := 42) (tgt := 1428) cx dL_law_33 e42 (by decide) (by decide) rfl rfl (kL_b1428 cx sx hE hk18 σ x3 (it_t e42 hF))
      replace hF := it_f e42 hF
      by_cases e43 : (xs x3.toNatClampNeg &&& (127 : Int32)) = 43
      · exact ww_tsIn (v := 43) (tgt := 1461) cx dL_law_33 e43 (by decide) (by decide) rfl rfl (kL_b1461 cx sx hE hk18 σ x3 (it_t e43 hF))
      replace hF := it_f e43 hF
      by_cases e44 : (xs x3.toNatClampNeg &&& (127 : Int32)) = 44
      · exact ww_tsIn (v := 44) (tgt := 1494) cx dL_law_33 e44 (by decide) (by decide) rfl rfl (kL_b1494 cx sx hE hk18 σ x3 (it_t e44 hF))
      replace hF := it_f e44 hF
      by_cases e45 : (xs x3.toNatClampNeg &&& (127 : Int32)) = 45
      · exact ww_tsIn (v := 45) (tgt := 1527) cx dL_law_33 e45 (by decide) (by decide) rfl rfl (kL_b1527 cx sx hE hk18 σ x3 (it_t e45 hF))
      replace hF := it_f e45 hF
      by_cases e46 : (xs x3.toNatClampNeg &&& (127 : Int32)) = 46
      · exact ww_tsIn (v := 46) (tgt := 1560) cx dL_law_33 e46 (by decide) (by decide) rfl rfl (kL_b1560 cx sx hE hk18 σ x3 (it_t e46 hF))
      replace hF := it_f e46 hF
      by_cases e47 : (xs x3.toNatClampNeg &&& (127 : Int32)) = 47
      · exact ww_tsIn (v := 47) (tgt := 1603) cx dL_law_33 e47 (by decide) (by decide) rfl rfl (kL_b1603 cx sx hE hk18 σ x3 (it_t e47 hF))
      replace hF := it_f e47 hF
      by_cases e48 : (xs x3.toNatClampNeg &&& (127 : Int32)) = 48
      · exact ww_tsIn (v := 48) (tgt := 1616) cx dL_law_33 e48 (by decide) (by decide) rfl rfl (kL_b1616 cx sx hE hk18 σ x3 (it_t e48 hF))
      replace hF := it_f e48 hF
      by_cases e49 : (xs x3.toNatClampNeg &&& (127 : Int32)) = 49
      · exact ww_tsIn (v := 49) (tgt := 1629) cx dL_law_33 e49 (by decide) (by decide) rfl rfl (kL_b1629 cx sx hE hk18 σ x3 (it_t e49 hF))
      replace hF := it_f e49 hF
      by_cases e50 : (xs x3.toNatClampNeg &&& (127 : Int32)) = 50
      · exact ww_tsIn (v := 50) (tgt := 1642) cx dL_law_33 e50 (by decide) (by decide) rfl rfl (kL_b1642 cx sx hE hk18 σ x3 (it_t e50 hF))
      replace hF := it_f e50 hF
      by_cases e51 : (xs x3.toNatClampNeg &&& (127 : Int32)) = 51
      · exact ww_tsIn (v := 51) (tgt := 1655) cx dL_law_33 e51 (by decide) (by decide) rfl rfl (kL_b1655 cx sx hE hk18 σ x3 (it_t e51 hF))
      replace hF := it_f e51 hF
      by_cases e52 : (xs x3.toNatClampNeg &&& (127 : Int32)) = 52
      · exact ww_tsIn (v := 52) (tgt := 1668) cx dL_law_33 e52 (by decide) (by decide) rfl rfl (kL_b1668 cx sx hE hk18 σ x3 (it_t e52 hF))
      replace hF := it_f e52 hF
      by_cases e53 : (xs x3.toNatClampNeg &&& (127 : Int32)) = 53
      · exact ww_tsIn (v := 53) (tgt := 1681) cx dL_law_33 e53 (by decide) (by decide) rfl rfl (kL_b1681 cx sx hE hk18 σ x3 (it_t e53 hF))
      replace hF := it_f e53 hF
      by_cases e54 : (xs x3.toNatClampNeg &&& (127 : Int32)) = 54
      · exact ww_tsIn (v := 54) (tgt := 1714) cx dL_law_33 e54 (by decide) (by decide) rfl rfl (kL_b1714 cx sx hE hk18 σ x3 (it_t e54 hF))
      replace hF := it_f e54 hF
      by_cases e55 : (xs x3.toNatClampNeg &&& (127 : Int32)) = 55
      · exact ww_tsIn (v := 55) (tgt := 1727) cx dL_law_33 e55 (by decide) (by decide) rfl rfl (kL_b1727 cx sx hE hk18 σ x3 (it_t e55 hF))
      replace hF := it_f e55 hF
      by_cases e56 : (xs x3.toNatClampNeg &&& (127 : Int32)) = 56
      · exact ww_tsIn (v := 56) (tgt := 1740) cx dL_law_33 e56 (by decide) (by decide) rfl rfl (kL_b1740 cx sx hE hk18 σ x3 (it_t e56 hF))
      replace hF := it_f e56 hF
      by_cases e57 : (xs x3.toNatClampNeg &&& (127 : Int32)) = 57
      · exact ww_tsIn (v := 57) (tgt := 1753) cx dL_law_33 e57 (by decide) (by decide) rfl rfl (kL_b1753 cx sx hE hk18 σ x3 (it_t e57 hF))
      replace hF := it_f e57 hF
      by_cases e58 : (xs x3.toNatClampNeg &&& (127 : Int32)) = 58
      · exact ww_tsIn (v := 58) (tgt := 1776) cx dL_law_33 e58 (by decide) (by decide) rfl rfl (kL_b1776 cx sx hE hk18 σ x3 (it_t e58 hF))
      replace hF := it_f e58 hF
      by_cases e59 : (xs x3.toNatClampNeg &&& (127 : Int32)) = 59
      · exact ww_tsIn (v := 59) (tgt := 1799) cx dL_law_33 e59 (by decide) (by decide) rfl rfl (kL_b1799 cx sx hE hk18 σ x3 (it_t e59 hF))
      replace hF := it_f e59 hF
      by_cases e60 : (xs x3.toNatClampNeg &&& (127 : Int32)) = 60
      · exact ww_tsIn (v := 60) (tgt := 1822) cx dL_law_33 e60 (by decide) (by decide) rfl rfl (kL_b1822 cx sx hE hk18 σ x3 (it_t e60 hF))
      replace hF := it_f e60 hF
      by_cases e61 : (xs x3.toNatClampNeg &&& (127 : Int32)) = 61
      · exact ww_tsIn (v := 61) (tgt := 1855) cx dL_law_33 e61 (by decide) (by decide) rfl rfl (kL_b1855 cx sx hE hk18 σ x3 (it_t e61 hF))
      replace hF := it_f e61 hF
      by_cases e62 : (xs x3.toNatClampNeg &&& (127 : Int32)) = 62
      · exact ww_tsIn (v := 62) (tgt := 1878) cx dL_law_33 e62 (by decide) (by decide) rfl rfl (kL_b1878 cx sx hE hk18 σ x3 (it_t e62 hF))
      replace hF := it_f e62 hF
      by_cases e63 : (xs x3.toNatClampNeg &&& (127 : Int32)) = 63
      · exact ww_tsIn (v := 63) (tgt := 1911) cx dL_law_33 e63 (by decide) (by decide) rfl rfl (kL_b1911 cx sx hE hk18 σ x3 (it_t e63 hF))
      replace hF := it_f e63 hF
      by_cases e64 : (xs x3.toNatClampNeg &&& (127 : Int32)) = 64
      · exact ww_tsIn (v := 64) (tgt := 1944) cx dL_law_33 e64 (by decide) (by decide) rfl rfl (kL_b1944 cx sx hE hk18 σ x3 (it_t e64 hF))
      replace hF := it_f e64 hF
      by_cases e65 : (xs x3.toNatClampNeg &&& (127 : Int32)) = 65
      · exact ww_tsIn (v := 65) (tgt := 1977) cx dL_law_33 e65 (by decide) (by decide) rfl rfl (kL_b1977 cx sx hE hk18 σ x3 (it_t e65 hF))
      replace hF := it_f e65 hF
      by_cases e66 : (xs x3.toNatClampNeg &&& (127 : Int32)) = 66
      · exact ww_tsIn (v := 66) (tgt := 1990) cx dL_law_33 e66 (by decide) (by decide) rfl rfl (kL_b1990 cx sx hE hk18 σ x3 (it_t e66 hF))
      replace hF := it_f e66 hF
      by_cases e67 : (xs x3.toNatClampNeg &&& (127 : Int32)) = 67
      · exact ww_tsIn (v := 67) (tgt := 2033) cx dL_law_33 e67 (by decide) (by decide) rfl rfl (kL_b2033 cx sx hE hk18 σ x3 (it_t e67 hF))
      replace hF := it_f e67 hF
      by_cases e68 : (xs x3.toNatClampNeg &&& (127 : Int32)) = 68
      · exact ww_tsIn (v := 68) (tgt := 2056) cx dL_law_33 e68 (by decide) (by decide) rfl rfl (kL_b2056 cx sx hE hk18 σ x3 (it_t e68 hF))
      replace hF := it_f e68 hF
      by_cases e69 : (xs x3.toNatClampNeg &&& (127 : Int32)) = 69
      · exact ww_tsIn (v := 69) (tgt := 2089) cx dL_law_33 e69 (by decide) (by decide) rfl rfl (kL_b2089 cx sx hE hk18 σ x3 (it_t e69 hF))
      replace hF := it_f e69 hF
      by_cases e70 : (xs x3.toNatClampNeg &&& (127 : Int32)) = 70
      · exact ww_tsIn (v := 70) (tgt := 2142) cx dL_law_33 e70 (by decide) (by decide) rfl rfl (kL_b2142 cx sx hE hk18 σ x3 (it_t e70 hF))
      replace hF := it_f e70 hF
      by_cases e71 : (xs x3.toNatClampNeg &&& (127 : Int32)) = 71
      · exact ww_tsIn (v := 71) (tgt := 2165) cx dL_law_33 e71 (by decide) (by decide) rfl rfl (kL_b2165 cx sx hE hk18 σ x3 (it_t e71 hF))
      replace hF := it_f e71 hF
      by_cases e72 : (xs x3.toNatClampNeg &&& (127 : Int32)) = 72
      · exact ww_tsIn (v := 72) (tgt := 2188) cx dL_law_33 e72 (by decide) (by decide) rfl rfl (kL_b2188 cx sx hE hk18 σ x3 (it_t e72 hF))
      replace hF := it_f e72 hF
      by_cases e73 : (xs x3.toNatClampNeg &&& (127 : Int32)) = 73
      · exact ww_tsIn (v := 73) (tgt := 2211) cx dL_law_33 e73 (by decide) (by decide) rfl rfl (kL_b2211 cx sx hE hk18 σ x3 (it_t e73 hF))
      replace hF := it_f e73 hF
      by_cases e74 : (xs x3.toNatClampNeg &&& (127 : Int32)) = 74
      · exact ww_tsIn (v := 74) (tgt := 2254) cx dL_law_33 e74 (by decide) (by decide) rfl rfl (kL_b2254 cx sx hE hk18 σ x3 (it_t e74 hF))
      replace hF := it_f e74 hF
      by_cases e75 : (xs x3.toNatClampNeg &&& (127 : Int32)) = 75
      · exact ww_tsIn (v := 75) (tgt := 2327) cx dL_law_33 e75 (by decide) (by decide) rfl rfl (kL_b2327 cx sx hE hk18 σ x3 (it_t e75 hF))
      replace hF := it_f e75 hF
      refine ww_tsOut (tgt := 2390) cx dL_law_33 (tsw_out (n := 75) (by decide) (fun j hj => (match j, hj with | 0, _ => e0 | 1, _ => e1 | 2, _ => e2 | 3, _ => e3 | 4, _ => e4 | 5, _ => e5 | 6, _ => e6 | 7, _ => e7 | 8, _ => e8 | 9, _ => e9 | 10, _ => e10 | 11, _ => e11 | 12, _ => e12 | 13, _ => e13 | 14, _ => e14 | 15, _ => e15 | 16, _ => e16 | 17, _ => e17 | 18, _ => e18 | 19, _ => e19 | 20, _ => e20 | 21, _ => e21 | 22, _ => e22 | 23, _ => e23 | 24, _ => e24 | 25, _ => e25 | 26, _ => e26 | 27, _ => e27 | 28, _ => e28 | 29, _ => e29 | 30, _ => e30 | 31, _ => e31 | 32, _ => e32 | 33, _ => e33 | 34, _ => e34 | 35, _ => e35 | 36, _ => e36 | 37, _ => e37 | 38, _ => e38 | 39, _ => e39 | 40, _ => e40 | 41, _ => e41 | 42, _ => e42 | 43, _ => e43 | 44, _ => e44 | 45, _ => e45 | 46, _ => e46 | 47, _ => e47 | 48, _ => e48 | 49, _ => e49 | 50, _ => e50 | 51, _ => e51 | 52, _ => e52 | 53, _ => e53 | 54, _ => e54 | 55, _ => e55 | 56, _ => e56 | 57, _ => e57 | 58, _ => e58 | 59, _ => e59 | 60, _ => e60 | 61, _ => e61 | 62, _ => e62 | 63, _ => e63 | 64, _ => e64 | 65, _ => e65 | 66, _ => e66 | 67, _ => e67 | 68, _ => e68 | 69, _ => e69 | 70, _ => e70 | 71, _ => e71 | 72, _ => e72 | 73, _ => e73 | 74, _ => e74 | 75, _ => e75 | m + 76, h => absurd h (by omega)))) rfl ?_
      refine ww_iinc (j := 3) (ks := [1, 2, 3, 0]) (lv' := fun v => [(0, .ref b), (1, .ref (gad G 0)), (2, .ref (gad G 62)), (3, .int v)]) cx dL_law_2390 (by decide) rfl ic_6 hF (fun _ => rfl) (fun v hF => ?_)
      refine ww_goto cx dL_law_2393 (tgt := 18) rfl ?_
      exact hk18 _ _ hF
