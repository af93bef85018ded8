/-! the law's cases -/
set_option maxRecDepth 100000 in
set_option maxHeartbeats 4000000 in
theorem lc_lay {X : zX} {l : Launch} {G : va_G} {ca : Nat → ClassId} {ad ae : Nat → Nat} {b L : Nat} {xs : Nat → Int32} {i : Int32} {xv : XV} {mv : MV} (h : zOk X l G ca cL_law RL wsL_law 4 room_1) (hX : zScr X b L xs) (h1 : vp_in (i + 1) L) (h2 : vp_in (i + 2) L) (h3 : vp_in (i + 3) L) (h4 : vp_in (i + 4) L) (h5 : vp_in (i + 5) L) (h6 : vp_in (i + 6) L) (hR : Rel xv mv) (k : ∀ xv' mv', Rel xv' mv' → V X G 4 137 3130 (wX ca ad xv' ++ wM ca ae mv') 1198 [(0, .ref b), (1, .ref (ad 0)), (2, .ref (ae 0)), (3, .int i)] []) : V X G 4 137 3130 (wX ca ad xv ++ wM ca ae mv) 381 [(0, .ref b), (1, .ref (ad 0)), (2, .ref (ae 0)), (3, .int i)] [] := by
  obtain ⟨a, xv', mv', hR', t6, t7⟩ := e_lay hR (xs (i + 1).toNatClampNeg) (xs (i + 2).toNatClampNeg)
  refine v_aload_n h dL_law_381 1 rfl 382 rfl ?_
  refine v_aload_n h dL_law_382 0 rfl 383 rfl ?_
  refine v_iload_n h dL_law_383 3 rfl 384 rfl ?_
  refine v_iconst h dL_law_384 1 rfl 385 rfl ?_
  refine v_iadd h dL_law_385 386 rfl ?_
  refine v_sld h hX h1 dL_law_386 387 rfl ?_
  refine v_aload_n h dL_law_387 0 rfl 388 rfl ?_
  refine v_iload_n h dL_law_388 3 rfl 389 rfl ?_
  refine v_iconst h dL_law_389 2 rfl 390 rfl ?_
  refine v_iadd h dL_law_390 391 rfl ?_
  refine v_sld h hX h2 dL_law_391 392 rfl ?_
  refine v_swap ?_
  refine v_rcall (n := 2) (As := [.int (xs (i + 1).toNatClampNeg), .int (xs (i + 2).toNatClampNeg)]) (rest := []) (ci := 6) h dL_law_392 (t6 l G ca ad) gL_law_X6_lay rfl rfl ⟨rfl, rfl⟩ nX6_lay ⟨(Nat.le_of_ble_eq_true rfl), (Nat.le_of_ble_eq_true rfl)⟩ rfl rfl rfl rfl (Nat.le_of_ble_eq_true rfl) ⟨(Nat.le_of_ble_eq_true rfl), (Nat.le_of_ble_eq_true rfl)⟩ (wX_adr ca ad xv xv') 395 rfl ?_
  refine v_aload_n h dL_law_395 2 rfl 396 rfl ?_
  refine v_aload_n h dL_law_396 0 rfl 397 rfl ?_
  refine v_iload_n h dL_law_397 3 rfl 398 rfl ?_
  refine v_iconst h dL_law_398 1 rfl 399 rfl ?_
  refine v_iadd h dL_law_399 400 rfl ?_
  refine v_sld h hX h1 dL_law_400 401 rfl ?_
  refine v_aload_n h dL_law_401 0 rfl 402 rfl ?_
  refine v_iload_n h dL_law_402 3 rfl 403 rfl ?_
  refine v_iconst h dL_law_403 2 rfl 404 rfl ?_
  refine v_iadd h dL_law_404 405 rfl ?_
  refine v_sld h hX h2 dL_law_405 406 rfl ?_
  refine v_swap ?_
  refine v_rcall (n := 2) (As := [.int (xs (i + 1).toNatClampNeg), .int (xs (i + 2).toNatClampNeg)]) (rest := [.int a]) (ci := 7) h dL_law_406 (t7 l G ca ae) gL_law_X7_lay rfl rfl ⟨rfl, rfl⟩ nX7_lay ⟨(Nat.le_of_ble_eq_true rfl), (Nat.le_of_ble_eq_true rfl)⟩ rfl rfl rfl rfl (Nat.le_of_ble_eq_true rfl) ⟨(Nat.le_of_ble_eq_true rfl), (Nat.le_of_ble_eq_true rfl)⟩ (wM_adr ca ae mv mv') 409 rfl ?_
  exact v_icmp_eq h dL_law_409 1198 (by decide) 412 rfl (fun _ => k xv' mv' hR') (fun c => absurd rfl c)
set_option maxRecDepth 100000 in
set_option maxHeartbeats 4000000 in
theorem lc_strip {X : zX} {l : Launch} {G : va_G} {ca : Nat → ClassId} {ad ae : Nat → Nat} {b L : Nat} {xs : Nat → Int32} {i : Int32} {xv : XV} {mv : MV} (h : zOk X l G ca cL_law RL wsL_law 4 room_1) (hX : zScr X b L xs) (h1 : vp_in (i + 1) L) (h2 : vp_in (i + 2) L) (h3 : vp_in (i + 3) L) (h4 : vp_in (i + 4) L) (h5 : vp_in (i + 5) L) (h6 : vp_in (i + 6) L) (hR : Rel xv mv) (k : ∀ xv' mv', Rel xv' mv' → V X G 4 137 3130 (wX ca ad xv' ++ wM ca ae mv') 1198 [(0, .ref b), (1, .ref (ad 0)), (2, .ref (ae 0)), (3, .int i)] []) : V X G 4 137 3130 (wX ca ad xv ++ wM ca ae mv) 414 [(0, .ref b), (1, .ref (ad 0)), (2, .ref (ae 0)), (3, .int i)] [] := by
  obtain ⟨a, xv', mv', hR', t6, t7⟩ := e_strip hR (xs (i + 1).toNatClampNeg)
  refine v_aload_n h dL_law_414 1 rfl 415 rfl ?_
  refine v_aload_n h dL_law_415 0 rfl 416 rfl ?_
  refine v_iload_n h dL_law_416 3 rfl 417 rfl ?_
  refine v_iconst h dL_law_417 1 rfl 418 rfl ?_
  refine v_iadd h dL_law_418 419 rfl ?_
  refine v_sld h hX h1 dL_law_419 420 rfl ?_
  refine v_swap ?_
  refine v_rcall (n := 1) (As := [.int (xs (i + 1).toNatClampNeg)]) (rest := []) (ci := 6) h dL_law_420 (t6 l G ca ad) gL_law_X6_strip rfl rfl ⟨rfl, rfl⟩ nX6_strip ⟨(Nat.le_of_ble_eq_true rfl), (Nat.le_of_ble_eq_true rfl)⟩ rfl rfl rfl rfl (Nat.le_of_ble_eq_true rfl) ⟨(Nat.le_of_ble_eq_true rfl), (Nat.le_of_ble_eq_true rfl)⟩ (wX_adr ca ad xv xv') 423 rfl ?_
  refine v_aload_n h dL_law_423 2 rfl 424 rfl ?_
  refine v_aload_n h dL_law_424 0 rfl 425 rfl ?_
  refine v_iload_n h dL_law_425 3 rfl 426 rfl ?_
  refine v_iconst h dL_law_426 1 rfl 427 rfl ?_
  refine v_iadd h dL_law_427 428 rfl ?_
  refine v_sld h hX h1 dL_law_428 429 rfl ?_
  refine v_swap ?_
  refine v_rcall (n := 1) (As := [.int (xs (i + 1).toNatClampNeg)]) (rest := [.int a]) (ci := 7) h dL_law_429 (t7 l G ca ae) gL_law_X7_strip rfl rfl ⟨rfl, rfl⟩ nX7_strip ⟨(Nat.le_of_ble_eq_true rfl), (Nat.le_of_ble_eq_true rfl)⟩ rfl rfl rfl rfl (Nat.le_of_ble_eq_true rfl) ⟨(Nat.le_of_ble_eq_true rfl), (Nat.le_of_ble_eq_true rfl)⟩ (wM_adr ca ae mv mv') 432 rfl ?_
  exact v_icmp_eq h dL_law_432 1198 (by decide) 435 rfl (fun _ => k xv' mv' hR') (fun c => absurd rfl c)
set_option maxRecDepth 100000 in
set_option maxHeartbeats 4000000 in
theorem lc_pull {X : zX} {l : Launch} {G : va_G} {ca : Nat → ClassId} {ad ae : Nat → Nat} {b L : Nat} {xs : Nat → Int32} {i : Int32} {xv : XV} {mv : MV} (h : zOk X l G ca cL_law RL wsL_law 4 room_1) (hX : zScr X b L xs) (h1 : vp_in (i + 1) L) (h2 : vp_in (i + 2) L) (h3 : vp_in (i + 3) L) (h4 : vp_in (i + 4) L) (h5 : vp_in (i + 5) L) (h6 : vp_in (i + 6) L) (hR : Rel xv mv) (k : ∀ xv' mv', Rel xv' mv' → V X G 4 137 3130 (wX ca ad xv' ++ wM ca ae mv') 1198 [(0, .ref b), (1, .ref (ad 0)), (2, .ref (ae 0)), (3, .int i)] []) : V X G 4 137 3130 (wX ca ad xv ++ wM ca ae mv) 437 [(0, .ref b), (1, .ref (ad 0)), (2, .ref (ae 0)), (3, .int i)] [] := by
  obtain ⟨a, xv', mv', hR', t6, t7⟩ := e_pull hR (xs (i + 1).toNatClampNeg) (xs (i + 2).toNatClampNeg)
  refine v_aload_n h dL_law_437 1 rfl 438 rfl ?_
  refine v_aload_n h dL_law_438 0 rfl 439 rfl ?_
  refine v_iload_n h dL_law_439 3 rfl 440 rfl ?_
  refine v_iconst h dL_law_440 1 rfl 441 rfl ?_
  refine v_iadd h dL_law_441 442 rfl ?_
  refine v_sld h hX h1 dL_law_442 443 rfl ?_
  refine v_aload_n h dL_law_443 0 rfl 444 rfl ?_
  refine v_iload_n h dL_law_444 3 rfl 445 rfl ?_
  refine v_iconst h dL_law_445 2 rfl 446 rfl ?_
  refine v_iadd h dL_law_446 447 rfl ?_
  refine v_sld h hX h2 dL_law_447 448 rfl ?_
  refine v_swap ?_
  refine v_rcall (n := 2) (As := [.int (xs (i + 1).toNatClampNeg), .int (xs (i + 2).toNatClampNeg)]) (rest := []) (ci := 6) h dL_law_448 (t6 l G ca ad) gL_law_X6_pull rfl rfl ⟨rfl, rfl⟩ nX6_pull ⟨(Nat.le_of_ble_eq_true rfl), (Nat.le_of_ble_eq_true rfl)⟩ rfl rfl rfl rfl (Nat.le_of_ble_eq_true rfl) ⟨(Nat.le_of_ble_eq_true rfl), (Nat.le_of_ble_eq_true rfl)⟩ (wX_adr ca ad xv xv') 451 rfl ?_
  refine v_aload_n h dL_law_451 2 rfl 452 rfl ?_
  refine v_aload_n h dL_law_452 0 rfl 453 rfl ?_
  refine v_iload_n h dL_law_453 3 rfl 454 rfl ?_
  refine v_iconst h dL_law_454 1 rfl 455 rfl ?_
  refine v_iadd h dL_law_455 456 rfl ?_
  refine v_sld h hX h1 dL_law_456 457 rfl ?_
  refine v_aload_n h dL_law_457 0 rfl 458 rfl ?_
  refine v_iload_n h dL_law_458 3 rfl 459 rfl ?_
  refine v_iconst h dL_law_459 2 rfl 460 rfl ?_
  refine v_iadd h dL_law_460 461 rfl ?_
  refine v_sld h hX h2 dL_law_461 462 rfl ?_
  refine v_swap ?_
  refine v_rcall (n := 2) (As := [.int (xs (i + 1).toNatClampNeg), .int (xs (i + 2).toNatClampNeg)]) (rest := [.int a]) (ci := 7) h dL_law_462 (t7 l G ca ae) gL_law_X7_pull rfl rfl ⟨rfl, rfl⟩ nX7_pull ⟨(Nat.le_of_ble_eq_true rfl), (Nat.le_of_ble_eq_true rfl)⟩ rfl rfl rfl rfl (Nat.le_of_ble_eq_true rfl) ⟨(Nat.le_of_ble_eq_true rfl), (Nat.le_of_ble_eq_true rfl)⟩ (wM_adr ca ae mv mv') 465 rfl ?_
  exact v_icmp_eq h dL_law_465 1198 (by decide) 468 rfl (fun _ => k xv' mv' hR') (fun c => absurd rfl c)
set_option maxRecDepth 100000 in
set_option maxHeartbeats 4000000 in
theorem lc_fire {X : zX} {l : Launch} {G : va_G} {ca : Nat → ClassId} {ad ae : Nat → Nat} {b L : Nat} {xs : Nat → Int32} {i : Int32} {xv : XV} {mv : MV} (h : zOk X l G ca cL_law RL wsL_law 4 room_1) (hX : zScr X b L xs) (h1 : vp_in (i + 1) L) (h2 : vp_in (i + 2) L) (h3 : vp_in (i + 3) L) (h4 : vp_in (i + 4) L) (h5 : vp_in (i + 5) L) (h6 : vp_in (i + 6) L) (hR : Rel xv mv) (k : ∀ xv' mv', Rel xv' mv' → V X G 4 137 3130 (wX ca ad xv' ++ wM ca ae mv') 1198 [(0, .ref b), (1, .ref (ad 0)), (2, .ref (ae 0)), (3, .int i)] []) : V X G 4 137 3130 (wX ca ad xv ++ wM ca ae mv) 470 [(0, .ref b), (1, .ref (ad 0)), (2, .ref (ae 0)), (3, .int i)] [] := by
  obtain ⟨a, xv', mv', hR', t6, t7⟩ := e_fire hR (xs (i + 1).toNatClampNeg)
  refine v_aload_n h dL_law_470 1 rfl 471 rfl ?_
  refine v_aload_n h dL_law_471 0 rfl 472 rfl ?_
  refine v_iload_n h dL_law_472 3 rfl 473 rfl ?_
  refine v_iconst h dL_law_473 1 rfl 474 rfl ?_
  refine v_iadd h dL_law_474 475 rfl ?_
  refine v_sld h hX h1 dL_law_475 476 rfl ?_
  refine v_swap ?_
  refine v_rcall (n := 1) (As := [.int (xs (i + 1).toNatClampNeg)]) (rest := []) (ci := 6) h dL_law_476 (t6 l G ca ad) gL_law_X6_fire rfl rfl ⟨rfl, rfl⟩ nX6_fire ⟨(Nat.le_of_ble_eq_true rfl), (Nat.le_of_ble_eq_true rfl)⟩ rfl rfl rfl rfl (Nat.le_of_ble_eq_true rfl) ⟨(Nat.le_of_ble_eq_true rfl), (Nat.le_of_ble_eq_true rfl)⟩ (wX_adr ca ad xv xv') 479 rfl ?_
  refine v_aload_n h dL_law_479 2 rfl 480 rfl ?_
  refine v_aload_n h dL_law_480 0 rfl 481 rfl ?_
  refine v_iload_n h dL_law_481 3 rfl 482 rfl ?_
  refine v_iconst h dL_law_482 1 rfl 483 rfl ?_
  refine v_iadd h dL_law_483 484 rfl ?_
  refine v_sld h hX h1 dL_law_484 485 rfl ?_
  refine v_swap ?_
  refine v_rcall (n := 1) (As := [.int (xs (i + 1).toNatClampNeg)]) (rest := [.int a]) (ci := 7) h dL_law_485 (t7 l G ca ae) gL_law_X7_fire rfl rfl ⟨rfl, rfl⟩ nX7_fire ⟨(Nat.le_of_ble_eq_true rfl), (Nat.le_of_ble_eq_true rfl)⟩ rfl rfl rfl rfl (Nat.le_of_ble_eq_true rfl) ⟨(Nat.le_of_ble_eq_true rfl), (Nat.le_of_ble_eq_true rfl)⟩ (wM_adr ca ae mv mv') 488 rfl ?_
  exact v_icmp_eq h dL_law_488 1198 (by decide) 491 rfl (fun _ => k xv' mv' hR') (fun c => absurd rfl c)
set_option maxRecDepth 100000 in
set_option maxHeartbeats 4000000 in
theorem lc_drift {X : zX} {l : Launch} {G : va_G} {ca : Nat → ClassId} {ad ae : Nat → Nat} {b L : Nat} {xs : Nat → Int32} {i : Int32} {xv : XV} {mv : MV} (h : zOk X l G ca cL_law RL wsL_law 4 room_1) (hX : zScr X b L xs) (h1 : vp_in (i + 1) L) (h2 : vp_in (i + 2) L) (h3 : vp_in (i + 3) L) (h4 : vp_in (i + 4) L) (h5 : vp_in (i + 5) L) (h6 : vp_in (i + 6) L) (hR : Rel xv mv) (k : ∀ xv' mv', Rel xv' mv' → V X G 4 137 3130 (wX ca ad xv' ++ wM ca ae mv') 1198 [(0, .ref b), (1, .ref (ad 0)), (2, .ref (ae 0)), (3, .int i)] []) : V X G 4 137 3130 (wX ca ad xv ++ wM ca ae mv) 493 [(0, .ref b), (1, .ref (ad 0)), (2, .ref (ae 0)), (3, .int i)] [] := by
  obtain ⟨a, xv', mv', hR', t6, t7⟩ := e_drift hR (xs (i + 1).toNatClampNeg)
  refine v_aload_n h dL_law_493 1 rfl 494 rfl ?_
  refine v_aload_n h dL_law_494 0 rfl 495 rfl ?_
  refine v_iload_n h dL_law_495 3 rfl 496 rfl ?_
  refine v_iconst h dL_law_496 1 rfl 497 rfl ?_
  refine v_iadd h dL_law_497 498 rfl ?_
  refine v_sld h hX h1 dL_law_498 499 rfl ?_
  refine v_swap ?_
  refine v_rcall (n := 1) (As := [.int (xs (i + 1).toNatClampNeg)]) (rest := []) (ci := 6) h dL_law_499 (t6 l G ca ad) gL_law_X6_drift rfl rfl ⟨rfl, rfl⟩ nX6_drift ⟨(Nat.le_of_ble_eq_true rfl), (Nat.le_of_ble_eq_true rfl)⟩ rfl rfl rfl rfl (Nat.le_of_ble_eq_true rfl) ⟨(Nat.le_of_ble_eq_true rfl), (Nat.le_of_ble_eq_true rfl)⟩ (wX_adr ca ad xv xv') 502 rfl ?_
  refine v_aload_n h dL_law_502 2 rfl 503 rfl ?_
  refine v_aload_n h dL_law_503 0 rfl 504 rfl ?_
  refine v_iload_n h dL_law_504 3 rfl 505 rfl ?_
  refine v_iconst h dL_law_505 1 rfl 506 rfl ?_
  refine v_iadd h dL_law_506 507 rfl ?_
  refine v_sld h hX h1 dL_law_507 508 rfl ?_
  refine v_swap ?_
  refine v_rcall (n := 1) (As := [.int (xs (i + 1).toNatClampNeg)]) (rest := [.int a]) (ci := 7) h dL_law_508 (t7 l G ca ae) gL_law_X7_drift rfl rfl ⟨rfl, rfl⟩ nX7_drift ⟨(Nat.le_of_ble_eq_true rfl), (Nat.le_of_ble_eq_true rfl)⟩ rfl rfl rfl rfl (Nat.le_of_ble_eq_true rfl) ⟨(Nat.le_of_ble_eq_true rfl), (Nat.le_of_ble_eq_true rfl)⟩ (wM_adr ca ae mv mv') 511 rfl ?_
  exact v_icmp_eq h dL_law_511 1198 (by decide) 514 rfl (fun _ => k xv' mv' hR') (fun c => absurd rfl c)
set_option maxRecDepth 100000 in
set_option maxHeartbeats 4000000 in
theorem lc_undo {X : zX} {l : Launch} {G : va_G} {ca : Nat → ClassId} {ad ae : Nat → Nat} {b L : Nat} {xs : Nat → Int32} {i : Int32} {xv : XV} {mv : MV} (h : zOk X l G ca cL_law RL wsL_law 4 room_1) (hX : zScr X b L xs) (h1 : vp_in (i + 1) L) (h2 : vp_in (i + 2) L) (h3 : vp_in (i + 3) L) (h4 : vp_in (i + 4) L) (h5 : vp_in (i + 5) L) (h6 : vp_in (i + 6) L) (hR : Rel xv mv) (k : ∀ xv' mv', Rel xv' mv' → V X G 4 137 3130 (wX ca ad xv' ++ wM ca ae mv') 1198 [(0, .ref b), (1, .ref (ad 0)), (2, .ref (ae 0)), (3, .int i)] []) : V X G 4 137 3130 (wX ca ad xv ++ wM ca ae mv) 516 [(0, .ref b), (1, .ref (ad 0)), (2, .ref (ae 0)), (3, .int i)] [] := by
  obtain ⟨a, xv', mv', hR', t6, t7⟩ := e_undo hR
  refine v_aload_n h dL_law_516 1 rfl 517 rfl ?_
  refine v_swap ?_
  refine v_rcall (n := 0) (As := []) (rest := []) (ci := 6) h dL_law_517 (t6 l G ca ad) gL_law_X6_undo rfl rfl ⟨rfl, rfl⟩ nX6_undo ⟨(Nat.le_of_ble_eq_true rfl), (Nat.le_of_ble_eq_true rfl)⟩ rfl rfl rfl rfl (Nat.le_of_ble_eq_true rfl) ⟨(Nat.le_of_ble_eq_true rfl), (Nat.le_of_ble_eq_true rfl)⟩ (wX_adr ca ad xv xv') 520 rfl ?_
  refine v_aload_n h dL_law_520 2 rfl 521 rfl ?_
  refine v_swap ?_
  refine v_rcall (n := 0) (As := []) (rest := [.int a]) (ci := 7) h dL_law_521 (t7 l G ca ae) gL_law_X7_undo rfl rfl ⟨rfl, rfl⟩ nX7_undo ⟨(Nat.le_of_ble_eq_true rfl), (Nat.le_of_ble_eq_true rfl)⟩ rfl rfl rfl rfl (Nat.le_of_ble_eq_true rfl) ⟨(Nat.le_of_ble_eq_true rfl), (Nat.le_of_ble_eq_true rfl)⟩ (wM_adr ca ae mv mv') 524 rfl ?_
  exact v_icmp_eq h dL_law_524 1198 (by decide) 527 rfl (fun _ => k xv' mv' hR') (fun c => absurd rfl c)
set_option maxRecDepth 100000 in
set_option maxHeartbeats 4000000 in
theorem lc_seed {X : zX} {l : Launch} {G : va_G} {ca : Nat → ClassId} {ad ae : Nat → Nat} {b L : Nat} {xs : Nat → Int32} {i : Int32} {xv : XV} {mv : MV} (h : zOk X l G ca cL_law RL wsL_law 4 room_1) (hX : zScr X b L xs) (h1 : vp_in (i + 1) L) (h2 : vp_in (i + 2) L) (h3 : vp_in (i + 3) L) (h4 : vp_in (i + 4) L) (h5 : vp_in (i + 5) L) (h6 : vp_in (i + 6) L) (hR : Rel xv mv) (k : ∀ xv' mv', Rel xv' mv' → V X G 4 137 3130 (wX ca ad xv' ++ wM ca ae mv') 1198 [(0, .ref b), (1, .ref (ad 0)), (2, .ref (ae 0)), (3, .int i)] []) : V X G 4 137 3130 (wX ca ad xv ++ wM ca ae mv) 529 [(0, .ref b), (1, .ref (ad 0)), (2, .ref (ae 0)), (3, .int i)] [] := by
  obtain ⟨a, xv', mv', hR', t6, t7⟩ := e_seed hR (xs (i + 1).toNatClampNeg)
  refine v_aload_n h dL_law_529 1 rfl 530 rfl ?_
  refine v_aload_n h dL_law_530 0 rfl 531 rfl ?_
  refine v_iload_n h dL_law_531 3 rfl 532 rfl ?_
  refine v_iconst h dL_law_532 1 rfl 533 rfl ?_
  refine v_iadd h dL_law_533 534 rfl ?_
  refine v_sld h hX h1 dL_law_534 535 rfl ?_
  refine v_swap ?_
  refine v_rcall (n := 1) (As := [.int (xs (i + 1).toNatClampNeg)]) (rest := []) (ci := 6) h dL_law_535 (t6 l G ca ad) gL_law_X6_seed rfl rfl ⟨rfl, rfl⟩ nX6_seed ⟨(Nat.le_of_ble_eq_true rfl), (Nat.le_of_ble_eq_true rfl)⟩ rfl rfl rfl rfl (Nat.le_of_ble_eq_true rfl) ⟨(Nat.le_of_ble_eq_true rfl), (Nat.le_of_ble_eq_true rfl)⟩ (wX_adr ca ad xv xv') 538 rfl ?_
  refine v_aload_n h dL_law_538 2 rfl 539 rfl ?_
  refine v_aload_n h dL_law_539 0 rfl 540 rfl ?_
  refine v_iload_n h dL_law_540 3 rfl 541 rfl ?_
  refine v_iconst h dL_law_541 1 rfl 542 rfl ?_
  refine v_iadd h dL_law_542 543 rfl ?_
  refine v_sld h hX h1 dL_law_543 544 rfl ?_
  refine v_swap ?_
  refine v_rcall (n := 1) (As := [.int (xs (i + 1).toNatClampNeg)]) (rest := [.int a]) (ci := 7) h dL_law_544 (t7 l G ca ae) gL_law_X7_seed rfl rfl ⟨rfl, rfl⟩ nX7_seed ⟨(Nat.le_of_ble_eq_true rfl), (Nat.le_of_ble_eq_true rfl)⟩ rfl rfl rfl rfl (Nat.le_of_ble_eq_true rfl) ⟨(Nat.le_of_ble_eq_true rfl), (Nat.le_of_ble_eq_true rfl)⟩ (wM_adr ca ae mv mv') 547 rfl ?_
  exact v_icmp_eq h dL_law_547 1198 (by decide) 550 rfl (fun _ => k xv' mv' hR') (fun c => absurd rfl c)
set_option maxRecDepth 100000 in
set_option maxHeartbeats 4000000 in
theorem lc_ahead {X : zX} {l : Launch} {G : va_G} {ca : Nat → ClassId} {ad ae : Nat → Nat} {b L : Nat} {xs : Nat → Int32} {i : Int32} {xv : XV} {mv : MV} (h : zOk X l G ca cL_law RL wsL_law 4 room_1) (hX : zScr X b L xs) (h1 : vp_in (i + 1) L) (h2 : vp_in (i + 2) L) (h3 : vp_in (i + 3) L) (h4 : vp_in (i + 4) L) (h5 : vp_in (i + 5) L) (h6 : vp_in (i + 6) L) (hR : Rel xv mv) (k : ∀ xv' mv', Rel xv' mv' → V X G 4 137 3130 (wX ca ad xv' ++ wM ca ae mv') 1198 [(0, .ref b), (1, .ref (ad 0)), (2, .ref (ae 0)), (3, .int i)] []) : V X G 4 137 3130 (wX ca ad xv ++ wM ca ae mv) 552 [(0, .ref b), (1, .ref (ad 0)), (2, .ref (ae 0)), (3, .int i)] [] := by
  obtain ⟨a, xv', mv', hR', t6, t7⟩ := e_ahead hR (xs (i + 1).toNatClampNeg) (xs (i + 2).toNatClampNeg)
  refine v_aload_n h dL_law_552 1 rfl 553 rfl ?_
  refine v_aload_n h dL_law_553 0 rfl 554 rfl ?_
  refine v_iload_n h dL_law_554 3 rfl 555 rfl ?_
  refine v_iconst h dL_law_555 1 rfl 556 rfl ?_
  refine v_iadd h dL_law_556 557 rfl ?_
  refine v_sld h hX h1 dL_law_557 558 rfl ?_
  refine v_aload_n h dL_law_558 0 rfl 559 rfl ?_
  refine v_iload_n h dL_law_559 3 rfl 560 rfl ?_
  refine v_iconst h dL_law_560 2 rfl 561 rfl ?_
  refine v_iadd h dL_law_561 562 rfl ?_
  refine v_sld h hX h2 dL_law_562 563 rfl ?_
  refine v_swap ?_
  refine v_rcall (n := 2) (As := [.int (xs (i + 1).toNatClampNeg), .int (xs (i + 2).toNatClampNeg)]) (rest := []) (ci := 6) h dL_law_563 (t6 l G ca ad) gL_law_X6_ahead rfl rfl ⟨rfl, rfl⟩ nX6_ahead ⟨(Nat.le_of_ble_eq_true rfl), (Nat.le_of_ble_eq_true rfl)⟩ rfl rfl rfl rfl (Nat.le_of_ble_eq_true rfl) ⟨(Nat.le_of_ble_eq_true rfl), (Nat.le_of_ble_eq_true rfl)⟩ (wX_adr ca ad xv xv') 566 rfl ?_
  refine v_aload_n h dL_law_566 2 rfl 567 rfl ?_
  refine v_aload_n h dL_law_567 0 rfl 568 rfl ?_
  refine v_iload_n h dL_law_568 3 rfl 569 rfl ?_
  refine v_iconst h dL_law_569 1 rfl 570 rfl ?_
  refine v_iadd h dL_law_570 571 rfl ?_
  refine v_sld h hX h1 dL_law_571 572 rfl ?_
  refine v_aload_n h dL_law_572 0 rfl 573 rfl ?_
  refine v_iload_n h dL_law_573 3 rfl 574 rfl ?_
  refine v_iconst h dL_law_574 2 rfl 575 rfl ?_
  refine v_iadd h dL_law_575 576 rfl ?_
  refine v_sld h hX h2 dL_law_576 577 rfl ?_
  refine v_swap ?_
  refine v_rcall (n := 2) (As := [.int (xs (i + 1).toNatClampNeg), .int (xs (i + 2).toNatClampNeg)]) (rest := [.int a]) (ci := 7) h dL_law_577 (t7 l G ca ae) gL_law_X7_ahead rfl rfl ⟨rfl, rfl⟩ nX7_ahead ⟨(Nat.le_of_ble_eq_true rfl), (Nat.le_of_ble_eq_true rfl)⟩ rfl rfl rfl rfl (Nat.le_of_ble_eq_true rfl) ⟨(Nat.le_of_ble_eq_true rfl), (Nat.le_of_ble_eq_true rfl)⟩ (wM_adr ca ae mv mv') 580 rfl ?_
  exact v_icmp_eq h dL_law_580 1198 (by decide) 583 rfl (fun _ => k xv' mv' hR') (fun c => absurd rfl c)
