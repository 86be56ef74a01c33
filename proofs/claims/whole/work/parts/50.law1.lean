/-! the law, a call at a time -/
set_option maxRecDepth 100000 in
set_option maxHeartbeats 4000000 in
theorem law_c7 {K : vK} {l : Launch} {D : va_G} {C : Nat → ClassId} {x0 m0 : Nat} {ax : (Nat → Nat) × (Nat → Nat) × (Nat → Nat)} {am : Nat → Nat} {b L i : Nat} {xs : Nat → Int32} (hKl : K.1.1.2.1 = l) (hE : eV K (gL D C x0 ax m0 am) cL_law 4 RL wsL_law room_1) (hC : scrA K b L xs) (hi : i + 3 < L) (hL : L ≤ 2048) {u : XS} {w : MS} (h : Rel u w) (hk : ∀ (u : XS) (w : MS), Rel u w → vV K (gL D C x0 ax m0 am) (u, w) [(3, .int (nI i)), (2, .ref m0), (1, .ref x0), (0, .ref b)] [] 889) : vV K (gL D C x0 ax m0 am) (u, w) [(3, .int (nI i)), (2, .ref m0), (1, .ref x0), (0, .ref b)] [] 401 := by
  subst hKl
  refine v_aload_n 402 hE dL_law_401 rfl rfl ?_
  refine v_ci 405 hE (sub_x hE) (v_runV 0 hE (sub_x hE) (kX4_measure _ (yZ D C x0 ax) u h.1) gL_law_X4_measure rfl (by decide +kernel) rfl (q0 := 0) rfl rfl ⟨rfl, rfl, Nat.le_of_ble_eq_true rfl, Nat.le_of_ble_eq_true rfl⟩ rfl (Nat.le_of_ble_eq_true rfl) dL_law_402) (back_x hE _) rfl ?_
  refine v_aload_n 406 hE dL_law_405 rfl rfl ?_
  refine v_ci 409 hE (sub_m hE) (v_runV 0 hE (sub_m hE) (kX5_measure _ (yM D C m0 am) w h.2.1) gL_law_X5_measure rfl (by decide +kernel) rfl (q0 := 0) rfl rfl ⟨rfl, rfl, Nat.le_of_ble_eq_true rfl, Nat.le_of_ble_eq_true rfl⟩ rfl (Nat.le_of_ble_eq_true rfl) dL_law_406) (back_m hE _) rfl ?_
  refine v_ic_eq 412 hE 889 dL_law_409 (by decide) rfl (fun _ => ?_) (fun e => absurd (op_meas h).1 e)
  exact hk _ _ (op_meas h).2
set_option maxRecDepth 100000 in
set_option maxHeartbeats 4000000 in
theorem law_c8 {K : vK} {l : Launch} {D : va_G} {C : Nat → ClassId} {x0 m0 : Nat} {ax : (Nat → Nat) × (Nat → Nat) × (Nat → Nat)} {am : Nat → Nat} {b L i : Nat} {xs : Nat → Int32} (hKl : K.1.1.2.1 = l) (hE : eV K (gL D C x0 ax m0 am) cL_law 4 RL wsL_law room_1) (hC : scrA K b L xs) (hi : i + 3 < L) (hL : L ≤ 2048) {u : XS} {w : MS} (h : Rel u w) (hk : ∀ (u : XS) (w : MS), Rel u w → vV K (gL D C x0 ax m0 am) (u, w) [(3, .int (nI i)), (2, .ref m0), (1, .ref x0), (0, .ref b)] [] 889) : vV K (gL D C x0 ax m0 am) (u, w) [(3, .int (nI i)), (2, .ref m0), (1, .ref x0), (0, .ref b)] [] 414 := by
  subst hKl
  refine v_aload_n 415 hE dL_law_414 rfl rfl ?_
  refine v_aload_n 416 hE dL_law_415 rfl rfl ?_
  refine v_iload_n 417 hE dL_law_416 rfl rfl ?_
  refine v_iconst 418 hE (v := nI 1) dL_law_417 (by decide) rfl ?_
  refine v_iaddN 419 hE dL_law_418 rfl ?_
  refine v_sld 420 hE hC (i := i + 1) (by omega) (by omega) dL_law_419 rfl ?_
  refine v_aload_n 421 hE dL_law_420 rfl rfl ?_
  refine v_iload_n 422 hE dL_law_421 rfl rfl ?_
  refine v_iconst 423 hE (v := nI 2) dL_law_422 (by decide) rfl ?_
  refine v_iaddN 424 hE dL_law_423 rfl ?_
  refine v_sld 425 hE hC (i := i + 2) (by omega) (by omega) dL_law_424 rfl ?_
  refine v_ci 428 hE (sub_x hE) (v_runV 2 hE (sub_x hE) (kX4_setMeasuredLoad _ (yZ D C x0 ax) u _ _ h.1) gL_law_X4_setMeasuredLoad rfl (by decide +kernel) rfl (q0 := 0) rfl rfl ⟨rfl, rfl, Nat.le_of_ble_eq_true rfl, Nat.le_of_ble_eq_true rfl⟩ rfl (Nat.le_of_ble_eq_true rfl) dL_law_425) (back_x hE _) rfl ?_
  refine v_aload_n 429 hE dL_law_428 rfl rfl ?_
  refine v_aload_n 430 hE dL_law_429 rfl rfl ?_
  refine v_iload_n 431 hE dL_law_430 rfl rfl ?_
  refine v_iconst 432 hE (v := nI 1) dL_law_431 (by decide) rfl ?_
  refine v_iaddN 433 hE dL_law_432 rfl ?_
  refine v_sld 434 hE hC (i := i + 1) (by omega) (by omega) dL_law_433 rfl ?_
  refine v_aload_n 435 hE dL_law_434 rfl rfl ?_
  refine v_iload_n 436 hE dL_law_435 rfl rfl ?_
  refine v_iconst 437 hE (v := nI 2) dL_law_436 (by decide) rfl ?_
  refine v_iaddN 438 hE dL_law_437 rfl ?_
  refine v_sld 439 hE hC (i := i + 2) (by omega) (by omega) dL_law_438 rfl ?_
  refine v_ci 442 hE (sub_m hE) (v_runV 2 hE (sub_m hE) (kX5_setMeasuredLoad _ (yM D C m0 am) w _ _ h.2.1) gL_law_X5_setMeasuredLoad rfl (by decide +kernel) rfl (q0 := 0) rfl rfl ⟨rfl, rfl, Nat.le_of_ble_eq_true rfl, Nat.le_of_ble_eq_true rfl⟩ rfl (Nat.le_of_ble_eq_true rfl) dL_law_439) (back_m hE _) rfl ?_
  refine v_ic_eq 445 hE 889 dL_law_442 (by decide) rfl (fun _ => ?_) (fun e => absurd (op_load h (xs (i + 1)) (xs (i + 2))).1 e)
  exact hk _ _ (op_load h (xs (i + 1)) (xs (i + 2))).2
set_option maxRecDepth 100000 in
set_option maxHeartbeats 4000000 in
theorem law_c9 {K : vK} {l : Launch} {D : va_G} {C : Nat → ClassId} {x0 m0 : Nat} {ax : (Nat → Nat) × (Nat → Nat) × (Nat → Nat)} {am : Nat → Nat} {b L i : Nat} {xs : Nat → Int32} (hKl : K.1.1.2.1 = l) (hE : eV K (gL D C x0 ax m0 am) cL_law 4 RL wsL_law room_1) (hC : scrA K b L xs) (hi : i + 3 < L) (hL : L ≤ 2048) {u : XS} {w : MS} (h : Rel u w) (hk : ∀ (u : XS) (w : MS), Rel u w → vV K (gL D C x0 ax m0 am) (u, w) [(3, .int (nI i)), (2, .ref m0), (1, .ref x0), (0, .ref b)] [] 889) : vV K (gL D C x0 ax m0 am) (u, w) [(3, .int (nI i)), (2, .ref m0), (1, .ref x0), (0, .ref b)] [] 447 := by
  subst hKl
  refine v_aload_n 448 hE dL_law_447 rfl rfl ?_
  refine v_aload_n 449 hE dL_law_448 rfl rfl ?_
  refine v_iload_n 450 hE dL_law_449 rfl rfl ?_
  refine v_iconst 451 hE (v := nI 1) dL_law_450 (by decide) rfl ?_
  refine v_iaddN 452 hE dL_law_451 rfl ?_
  refine v_sld 453 hE hC (i := i + 1) (by omega) (by omega) dL_law_452 rfl ?_
  refine v_ci 456 hE (sub_x hE) (v_runV 1 hE (sub_x hE) (kX4_measuredLoad _ (yZ D C x0 ax) u _ h.1) gL_law_X4_measuredLoad rfl (by decide +kernel) rfl (q0 := 0) rfl rfl ⟨rfl, rfl, Nat.le_of_ble_eq_true rfl, Nat.le_of_ble_eq_true rfl⟩ rfl (Nat.le_of_ble_eq_true rfl) dL_law_453) (back_x hE _) rfl ?_
  refine v_aload_n 457 hE dL_law_456 rfl rfl ?_
  refine v_aload_n 458 hE dL_law_457 rfl rfl ?_
  refine v_iload_n 459 hE dL_law_458 rfl rfl ?_
  refine v_iconst 460 hE (v := nI 1) dL_law_459 (by decide) rfl ?_
  refine v_iaddN 461 hE dL_law_460 rfl ?_
  refine v_sld 462 hE hC (i := i + 1) (by omega) (by omega) dL_law_461 rfl ?_
  refine v_ci 465 hE (sub_m hE) (v_runV 1 hE (sub_m hE) (kX5_measuredLoad _ (yM D C m0 am) w _ h.2.1) gL_law_X5_measuredLoad rfl (by decide +kernel) rfl (q0 := 0) rfl rfl ⟨rfl, rfl, Nat.le_of_ble_eq_true rfl, Nat.le_of_ble_eq_true rfl⟩ rfl (Nat.le_of_ble_eq_true rfl) dL_law_462) (back_m hE _) rfl ?_
  refine v_ic_eq 468 hE 889 dL_law_465 (by decide) rfl (fun _ => ?_) (fun e => absurd (op_gload h (xs (i + 1))) e)
  exact hk _ _ h
set_option maxRecDepth 100000 in
set_option maxHeartbeats 4000000 in
theorem law_c10 {K : vK} {l : Launch} {D : va_G} {C : Nat → ClassId} {x0 m0 : Nat} {ax : (Nat → Nat) × (Nat → Nat) × (Nat → Nat)} {am : Nat → Nat} {b L i : Nat} {xs : Nat → Int32} (hKl : K.1.1.2.1 = l) (hE : eV K (gL D C x0 ax m0 am) cL_law 4 RL wsL_law room_1) (hC : scrA K b L xs) (hi : i + 3 < L) (hL : L ≤ 2048) {u : XS} {w : MS} (h : Rel u w) (hk : ∀ (u : XS) (w : MS), Rel u w → vV K (gL D C x0 ax m0 am) (u, w) [(3, .int (nI i)), (2, .ref m0), (1, .ref x0), (0, .ref b)] [] 889) : vV K (gL D C x0 ax m0 am) (u, w) [(3, .int (nI i)), (2, .ref m0), (1, .ref x0), (0, .ref b)] [] 470 := by
  subst hKl
  refine v_aload_n 471 hE dL_law_470 rfl rfl ?_
  refine v_aload_n 472 hE dL_law_471 rfl rfl ?_
  refine v_iload_n 473 hE dL_law_472 rfl rfl ?_
  refine v_iconst 474 hE (v := nI 1) dL_law_473 (by decide) rfl ?_
  refine v_iaddN 475 hE dL_law_474 rfl ?_
  refine v_sld 476 hE hC (i := i + 1) (by omega) (by omega) dL_law_475 rfl ?_
  refine v_ci 479 hE (sub_x hE) (v_runV 1 hE (sub_x hE) (kX4_outTotal _ (yZ D C x0 ax) u _ h.1) gL_law_X4_outTotal rfl (by decide +kernel) rfl (q0 := 0) rfl rfl ⟨rfl, rfl, Nat.le_of_ble_eq_true rfl, Nat.le_of_ble_eq_true rfl⟩ rfl (Nat.le_of_ble_eq_true rfl) dL_law_476) (back_x hE _) rfl ?_
  refine v_aload_n 480 hE dL_law_479 rfl rfl ?_
  refine v_aload_n 481 hE dL_law_480 rfl rfl ?_
  refine v_iload_n 482 hE dL_law_481 rfl rfl ?_
  refine v_iconst 483 hE (v := nI 1) dL_law_482 (by decide) rfl ?_
  refine v_iaddN 484 hE dL_law_483 rfl ?_
  refine v_sld 485 hE hC (i := i + 1) (by omega) (by omega) dL_law_484 rfl ?_
  refine v_ci 488 hE (sub_m hE) (v_runV 1 hE (sub_m hE) (kX5_outTotal _ (yM D C m0 am) w _ h.2.1) gL_law_X5_outTotal rfl (by decide +kernel) rfl (q0 := 0) rfl rfl ⟨rfl, rfl, Nat.le_of_ble_eq_true rfl, Nat.le_of_ble_eq_true rfl⟩ rfl (Nat.le_of_ble_eq_true rfl) dL_law_485) (back_m hE _) rfl ?_
  refine v_ic_eq 491 hE 889 dL_law_488 (by decide) rfl (fun _ => ?_) (fun e => absurd (op_out h (xs (i + 1))).1 e)
  exact hk _ _ h
set_option maxRecDepth 100000 in
set_option maxHeartbeats 4000000 in
theorem law_c11 {K : vK} {l : Launch} {D : va_G} {C : Nat → ClassId} {x0 m0 : Nat} {ax : (Nat → Nat) × (Nat → Nat) × (Nat → Nat)} {am : Nat → Nat} {b L i : Nat} {xs : Nat → Int32} (hKl : K.1.1.2.1 = l) (hE : eV K (gL D C x0 ax m0 am) cL_law 4 RL wsL_law room_1) (hC : scrA K b L xs) (hi : i + 3 < L) (hL : L ≤ 2048) {u : XS} {w : MS} (h : Rel u w) (hk : ∀ (u : XS) (w : MS), Rel u w → vV K (gL D C x0 ax m0 am) (u, w) [(3, .int (nI i)), (2, .ref m0), (1, .ref x0), (0, .ref b)] [] 889) : vV K (gL D C x0 ax m0 am) (u, w) [(3, .int (nI i)), (2, .ref m0), (1, .ref x0), (0, .ref b)] [] 493 := by
  subst hKl
  refine v_aload_n 494 hE dL_law_493 rfl rfl ?_
  refine v_aload_n 495 hE dL_law_494 rfl rfl ?_
  refine v_iload_n 496 hE dL_law_495 rfl rfl ?_
  refine v_iconst 497 hE (v := nI 1) dL_law_496 (by decide) rfl ?_
  refine v_iaddN 498 hE dL_law_497 rfl ?_
  refine v_sld 499 hE hC (i := i + 1) (by omega) (by omega) dL_law_498 rfl ?_
  refine v_ci 502 hE (sub_x hE) (v_runV 1 hE (sub_x hE) (kX4_inTotal _ (yZ D C x0 ax) u _ h.1) gL_law_X4_inTotal rfl (by decide +kernel) rfl (q0 := 0) rfl rfl ⟨rfl, rfl, Nat.le_of_ble_eq_true rfl, Nat.le_of_ble_eq_true rfl⟩ rfl (Nat.le_of_ble_eq_true rfl) dL_law_499) (back_x hE _) rfl ?_
  refine v_aload_n 503 hE dL_law_502 rfl rfl ?_
  refine v_aload_n 504 hE dL_law_503 rfl rfl ?_
  refine v_iload_n 505 hE dL_law_504 rfl rfl ?_
  refine v_iconst 506 hE (v := nI 1) dL_law_505 (by decide) rfl ?_
  refine v_iaddN 507 hE dL_law_506 rfl ?_
  refine v_sld 508 hE hC (i := i + 1) (by omega) (by omega) dL_law_507 rfl ?_
  refine v_ci 511 hE (sub_m hE) (v_runV 1 hE (sub_m hE) (kX5_inTotal _ (yM D C m0 am) w _ h.2.1) gL_law_X5_inTotal rfl (by decide +kernel) rfl (q0 := 0) rfl rfl ⟨rfl, rfl, Nat.le_of_ble_eq_true rfl, Nat.le_of_ble_eq_true rfl⟩ rfl (Nat.le_of_ble_eq_true rfl) dL_law_508) (back_m hE _) rfl ?_
  refine v_ic_eq 514 hE 889 dL_law_511 (by decide) rfl (fun _ => ?_) (fun e => absurd (op_out h (xs (i + 1))).2 e)
  exact hk _ _ h
set_option maxRecDepth 100000 in
set_option maxHeartbeats 4000000 in
theorem law_c12 {K : vK} {l : Launch} {D : va_G} {C : Nat → ClassId} {x0 m0 : Nat} {ax : (Nat → Nat) × (Nat → Nat) × (Nat → Nat)} {am : Nat → Nat} {b L i : Nat} {xs : Nat → Int32} (hKl : K.1.1.2.1 = l) (hE : eV K (gL D C x0 ax m0 am) cL_law 4 RL wsL_law room_1) (hC : scrA K b L xs) (hi : i + 3 < L) (hL : L ≤ 2048) {u : XS} {w : MS} (h : Rel u w) (hk : ∀ (u : XS) (w : MS), Rel u w → vV K (gL D C x0 ax m0 am) (u, w) [(3, .int (nI i)), (2, .ref m0), (1, .ref x0), (0, .ref b)] [] 889) : vV K (gL D C x0 ax m0 am) (u, w) [(3, .int (nI i)), (2, .ref m0), (1, .ref x0), (0, .ref b)] [] 516 := by
  subst hKl
  refine v_aload_n 517 hE dL_law_516 rfl rfl ?_
  refine v_aload_n 518 hE dL_law_517 rfl rfl ?_
  refine v_iload_n 519 hE dL_law_518 rfl rfl ?_
  refine v_iconst 520 hE (v := nI 1) dL_law_519 (by decide) rfl ?_
  refine v_iaddN 521 hE dL_law_520 rfl ?_
  refine v_sld 522 hE hC (i := i + 1) (by omega) (by omega) dL_law_521 rfl ?_
  refine v_aload_n 523 hE dL_law_522 rfl rfl ?_
  refine v_iload_n 524 hE dL_law_523 rfl rfl ?_
  refine v_iconst 525 hE (v := nI 2) dL_law_524 (by decide) rfl ?_
  refine v_iaddN 526 hE dL_law_525 rfl ?_
  refine v_sld 527 hE hC (i := i + 2) (by omega) (by omega) dL_law_526 rfl ?_
  refine v_ci 530 hE (sub_x hE) (v_runV 2 hE (sub_x hE) (kX4_measurePair _ (yZ D C x0 ax) u _ _ h.1) gL_law_X4_measurePair rfl (by decide +kernel) rfl (q0 := 0) rfl rfl ⟨rfl, rfl, Nat.le_of_ble_eq_true rfl, Nat.le_of_ble_eq_true rfl⟩ rfl (Nat.le_of_ble_eq_true rfl) dL_law_527) (back_x hE _) rfl ?_
  refine v_aload_n 531 hE dL_law_530 rfl rfl ?_
  refine v_aload_n 532 hE dL_law_531 rfl rfl ?_
  refine v_iload_n 533 hE dL_law_532 rfl rfl ?_
  refine v_iconst 534 hE (v := nI 1) dL_law_533 (by decide) rfl ?_
  refine v_iaddN 535 hE dL_law_534 rfl ?_
  refine v_sld 536 hE hC (i := i + 1) (by omega) (by omega) dL_law_535 rfl ?_
  refine v_aload_n 537 hE dL_law_536 rfl rfl ?_
  refine v_iload_n 538 hE dL_law_537 rfl rfl ?_
  refine v_iconst 539 hE (v := nI 2) dL_law_538 (by decide) rfl ?_
  refine v_iaddN 540 hE dL_law_539 rfl ?_
  refine v_sld 541 hE hC (i := i + 2) (by omega) (by omega) dL_law_540 rfl ?_
  refine v_ci 544 hE (sub_m hE) (v_runV 2 hE (sub_m hE) (kX5_measurePair _ (yM D C m0 am) w _ _ h.2.1) gL_law_X5_measurePair rfl (by decide +kernel) rfl (q0 := 0) rfl rfl ⟨rfl, rfl, Nat.le_of_ble_eq_true rfl, Nat.le_of_ble_eq_true rfl⟩ rfl (Nat.le_of_ble_eq_true rfl) dL_law_541) (back_m hE _) rfl ?_
  refine v_ic_eq 547 hE 889 dL_law_544 (by decide) rfl (fun _ => ?_) (fun e => absurd (op_mpair h (xs (i + 1)) (xs (i + 2))).1 e)
  exact hk _ _ (op_mpair h (xs (i + 1)) (xs (i + 2))).2
set_option maxRecDepth 100000 in
set_option maxHeartbeats 4000000 in
theorem law_c13 {K : vK} {l : Launch} {D : va_G} {C : Nat → ClassId} {x0 m0 : Nat} {ax : (Nat → Nat) × (Nat → Nat) × (Nat → Nat)} {am : Nat → Nat} {b L i : Nat} {xs : Nat → Int32} (hKl : K.1.1.2.1 = l) (hE : eV K (gL D C x0 ax m0 am) cL_law 4 RL wsL_law room_1) (hC : scrA K b L xs) (hi : i + 3 < L) (hL : L ≤ 2048) {u : XS} {w : MS} (h : Rel u w) (hk : ∀ (u : XS) (w : MS), Rel u w → vV K (gL D C x0 ax m0 am) (u, w) [(3, .int (nI i)), (2, .ref m0), (1, .ref x0), (0, .ref b)] [] 889) : vV K (gL D C x0 ax m0 am) (u, w) [(3, .int (nI i)), (2, .ref m0), (1, .ref x0), (0, .ref b)] [] 549 := by
  subst hKl
  refine v_aload_n 550 hE dL_law_549 rfl rfl ?_
  refine v_aload_n 551 hE dL_law_550 rfl rfl ?_
  refine v_iload_n 552 hE dL_law_551 rfl rfl ?_
  refine v_iconst 553 hE (v := nI 1) dL_law_552 (by decide) rfl ?_
  refine v_iaddN 554 hE dL_law_553 rfl ?_
  refine v_sld 555 hE hC (i := i + 1) (by omega) (by omega) dL_law_554 rfl ?_
  refine v_aload_n 556 hE dL_law_555 rfl rfl ?_
  refine v_iload_n 557 hE dL_law_556 rfl rfl ?_
  refine v_iconst 558 hE (v := nI 2) dL_law_557 (by decide) rfl ?_
  refine v_iaddN 559 hE dL_law_558 rfl ?_
  refine v_sld 560 hE hC (i := i + 2) (by omega) (by omega) dL_law_559 rfl ?_
  refine v_ci 563 hE (sub_x hE) (v_runV 2 hE (sub_x hE) (kX4_forgetPair _ (yZ D C x0 ax) u _ _ h.1) gL_law_X4_forgetPair rfl (by decide +kernel) rfl (q0 := 0) rfl rfl ⟨rfl, rfl, Nat.le_of_ble_eq_true rfl, Nat.le_of_ble_eq_true rfl⟩ rfl (Nat.le_of_ble_eq_true rfl) dL_law_560) (back_x hE _) rfl ?_
  refine v_aload_n 564 hE dL_law_563 rfl rfl ?_
  refine v_aload_n 565 hE dL_law_564 rfl rfl ?_
  refine v_iload_n 566 hE dL_law_565 rfl rfl ?_
  refine v_iconst 567 hE (v := nI 1) dL_law_566 (by decide) rfl ?_
  refine v_iaddN 568 hE dL_law_567 rfl ?_
  refine v_sld 569 hE hC (i := i + 1) (by omega) (by omega) dL_law_568 rfl ?_
  refine v_aload_n 570 hE dL_law_569 rfl rfl ?_
  refine v_iload_n 571 hE dL_law_570 rfl rfl ?_
  refine v_iconst 572 hE (v := nI 2) dL_law_571 (by decide) rfl ?_
  refine v_iaddN 573 hE dL_law_572 rfl ?_
  refine v_sld 574 hE hC (i := i + 2) (by omega) (by omega) dL_law_573 rfl ?_
  refine v_ci 577 hE (sub_m hE) (v_runV 2 hE (sub_m hE) (kX5_forgetPair _ (yM D C m0 am) w _ _ h.2.1) gL_law_X5_forgetPair rfl (by decide +kernel) rfl (q0 := 0) rfl rfl ⟨rfl, rfl, Nat.le_of_ble_eq_true rfl, Nat.le_of_ble_eq_true rfl⟩ rfl (Nat.le_of_ble_eq_true rfl) dL_law_574) (back_m hE _) rfl ?_
  refine v_ic_eq 580 hE 889 dL_law_577 (by decide) rfl (fun _ => ?_) (fun e => absurd (op_fpair h (xs (i + 1)) (xs (i + 2))).1 e)
  exact hk _ _ (op_fpair h (xs (i + 1)) (xs (i + 2))).2
