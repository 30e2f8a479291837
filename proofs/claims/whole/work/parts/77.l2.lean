/-! the cases with a helper -/
theorem law_4 {G : GG} {m : Mem} {K : Nat} {c0 s0 : Nat} {i : Int} (h : IV m K) (hK : K ≤ 600) (hi : 0 ≤ i ∧ i + 5 ≤ (gV G 8 : Nat)) (hL : gV G 8 < 2147483648) (hc : c0 ≤ 400000) (hs : s0 ≤ 6000000) : LST G m K c0 s0 i 336 := by
  rcases pr_count (G := G) h hK (inI_of (gSx G (i + 1).toNat)) with ⟨R, r, c1, m2, hR, hr, hC, hM, e49, e7, hI⟩ | ⟨R, e, m2, hR, he, hC, hM, e7, hI⟩
  · refine ⟨m2, hI, fun res h' kk => ?_⟩
    unfold lvL at kk ⊢
    refine x_aload_n (pc := 336) dL_law_336 2 rfl ?_
    refine x_aload_n (pc := 337) dL_law_337 1 rfl ?_
    refine x_iload (pc := 338) dL_law_338 0 rfl ?_
    refine x_iconst (pc := 340) dL_law_340 ?_
    refine x_iadd (pc := 341) dL_law_341 ?_
    refine x_sld (pc := 342) (a := (i + 1).toNat) dL_law_342 (by omega) (by omega) hL ?_
    refine x_aload_n (pc := 343) dL_law_343 4 rfl ?_
    refine l_callW (pc := 344) _ dL_law_344 hC lsL_152 rfl (Nat.le_of_ble_eq_true rfl) (by decide) rfl (by omega) (by omega) ?_
    refine x_istore (pc := 347) (lv' := [(6, _), (5, _), (0, _), (1, _), (2, _), (3, _), (4, _)]) dL_law_347 (by decide) rfl ?_
    refine x_aload_n (pc := 349) dL_law_349 4 rfl ?_
    refine x_aload_n (pc := 350) dL_law_350 2 rfl ?_
    refine x_iload (pc := 351) dL_law_351 1 rfl ?_
    refine x_iconst (pc := 353) dL_law_353 ?_
    refine x_iadd (pc := 354) dL_law_354 ?_
    refine x_sld (pc := 355) (a := (i + 1).toNat) dL_law_355 (by omega) (by omega) hL ?_
    refine l_callV (pc := 356) _ dL_law_356 (.inl hR) hM lkL_157 rfl rfl rfl rfl (mem_dom0 (by decide) (by decide)) (Nat.le_of_ble_eq_true rfl) (by decide) rfl (by omega) (by omega) ?_
    refine x_istore (pc := 359) (lv' := [(7, _), (6, _), (5, _), (0, _), (1, _), (2, _), (3, _), (4, _)]) dL_law_359 (by decide) rfl ?_
    refine x_aload_n (pc := 361) dL_law_361 5 rfl ?_
    refine l_callV (pc := 362) _ dL_law_362 (.inr rfl) (ct_thrown e7) lkL_158 rfl rfl rfl rfl (mem_dom0 (by decide) (by decide)) (Nat.le_of_ble_eq_true rfl) (by decide) rfl (by omega) (by omega) ?_
    refine x_iload (pc := 365) dL_law_365 1 rfl ?_
    refine x_icmp_eq (pc := 367) 372 dL_law_367 (by decide) in_01 in_01 (fun _ => ?_) (fun q => absurd rfl q)
    refine x_iload (pc := 372) dL_law_372 1 rfl ?_
    refine x_if_ne (pc := 374) 389 dL_law_374 (by decide) in_01 (fun q => absurd rfl q) (fun _ => ?_)
    refine x_aload_n (pc := 377) dL_law_377 6 rfl ?_
    refine x_iconst (pc := 378) dL_law_378 ?_
    refine y_lald (pc := 379) dL_law_379 rfl (by decide) ⟨by decide, by decide⟩ ?_
    rw [e49]
    refine x_iload (pc := 380) dL_law_380 0 rfl ?_
    refine x_i2l (pc := 382) dL_law_382 hr ?_
    refine x_lcmp (pc := 383) dL_law_383 (in_IL hr) (in_IL hr) ?_
    refine x_if_eq (pc := 384) 389 dL_law_384 (by decide) in_ae (fun _ => ?_) (fun q => absurd (ae_0 r) q)
    refine x_goto (pc := 389) 2773 dL_law_389 (by decide) ?_
    exact x_lv [2, 3, 4, 5, 6, 7] rfl (x_widen (by omega) (by omega) kk)
  · refine ⟨m2, hI, fun res h' kk => ?_⟩
    unfold lvL at kk ⊢
    refine x_aload_n (pc := 336) dL_law_336 2 rfl ?_
    refine x_aload_n (pc := 337) dL_law_337 1 rfl ?_
    refine x_iload (pc := 338) dL_law_338 0 rfl ?_
    refine x_iconst (pc := 340) dL_law_340 ?_
    refine x_iadd (pc := 341) dL_law_341 ?_
    refine x_sld (pc := 342) (a := (i + 1).toNat) dL_law_342 (by omega) (by omega) hL ?_
    refine x_aload_n (pc := 343) dL_law_343 4 rfl ?_
    refine l_callE (pc := 344) _ dL_law_344 hC lsL_152 rfl (Nat.le_of_ble_eq_true rfl) (by decide) rfl (by omega) (by omega) ?_
    refine x_istore (pc := 347) (lv' := [(6, _), (5, _), (0, _), (1, _), (2, _), (3, _), (4, _)]) dL_law_347 (by decide) rfl ?_
    refine x_aload_n (pc := 349) dL_law_349 4 rfl ?_
    refine x_aload_n (pc := 350) dL_law_350 2 rfl ?_
    refine x_iload (pc := 351) dL_law_351 1 rfl ?_
    refine x_iconst (pc := 353) dL_law_353 ?_
    refine x_iadd (pc := 354) dL_law_354 ?_
    refine x_sld (pc := 355) (a := (i + 1).toNat) dL_law_355 (by omega) (by omega) hL ?_
    refine l_callV (pc := 356) _ dL_law_356 (.inl hR) hM lkL_157 rfl rfl rfl rfl (mem_dom0 (by decide) (by decide)) (Nat.le_of_ble_eq_true rfl) (by decide) rfl (by omega) (by omega) ?_
    refine x_istore (pc := 359) (lv' := [(7, _), (6, _), (5, _), (0, _), (1, _), (2, _), (3, _), (4, _)]) dL_law_359 (by decide) rfl ?_
    refine x_aload_n (pc := 361) dL_law_361 5 rfl ?_
    refine l_callV (pc := 362) _ dL_law_362 (.inr rfl) (ct_thrown e7) lkL_158 rfl rfl rfl rfl (mem_dom0 (by decide) (by decide)) (Nat.le_of_ble_eq_true rfl) (by decide) rfl (by omega) (by omega) ?_
    refine x_iload (pc := 365) dL_law_365 1 rfl ?_
    refine x_icmp_eq (pc := 367) 372 dL_law_367 (by decide) (in_12 he) (in_12 he) (fun _ => ?_) (fun q => absurd rfl q)
    refine x_iload (pc := 372) dL_law_372 1 rfl ?_
    refine x_if_ne (pc := 374) 389 dL_law_374 (by decide) (in_12 he) (fun _ => ?_) (fun q => by exfalso; omega)
    refine x_goto (pc := 389) 2773 dL_law_389 (by decide) ?_
    exact x_lv [2, 3, 4, 5, 6, 7] rfl (x_widen (by omega) (by omega) kk)
theorem law_5 {G : GG} {m : Mem} {K : Nat} {c0 s0 : Nat} {i : Int} (h : IV m K) (hK : K ≤ 600) (hi : 0 ≤ i ∧ i + 5 ≤ (gV G 8 : Nat)) (hL : gV G 8 < 2147483648) (hc : c0 ≤ 400000) (hs : s0 ≤ 6000000) : LST G m K c0 s0 i 392 := by
  rcases pr_pack (G := G) h hK (inI_of (gSx G (i + 1).toNat)) (inI_of (gSx G (i + 2).toNat)) with ⟨R, r, c1, m2, hR, hr, hC, hM, e49, e7, hI⟩ | ⟨R, e, m2, hR, he, hC, hM, e7, hI⟩
  · refine ⟨m2, hI, fun res h' kk => ?_⟩
    unfold lvL at kk ⊢
    refine x_aload_n (pc := 392) dL_law_392 2 rfl ?_
    refine x_aload_n (pc := 393) dL_law_393 1 rfl ?_
    refine x_iload (pc := 394) dL_law_394 0 rfl ?_
    refine x_iconst (pc := 396) dL_law_396 ?_
    refine x_iadd (pc := 397) dL_law_397 ?_
    refine x_sld (pc := 398) (a := (i + 1).toNat) dL_law_398 (by omega) (by omega) hL ?_
    refine x_aload_n (pc := 399) dL_law_399 1 rfl ?_
    refine x_iload (pc := 400) dL_law_400 0 rfl ?_
    refine x_iconst (pc := 402) dL_law_402 ?_
    refine x_iadd (pc := 403) dL_law_403 ?_
    refine x_sld (pc := 404) (a := (i + 2).toNat) dL_law_404 (by omega) (by omega) hL ?_
    refine x_aload_n (pc := 405) dL_law_405 4 rfl ?_
    refine l_callW (pc := 406) _ dL_law_406 hC lsL_161 rfl (Nat.le_of_ble_eq_true rfl) (by decide) rfl (by omega) (by omega) ?_
    refine x_istore (pc := 409) (lv' := [(6, _), (5, _), (0, _), (1, _), (2, _), (3, _), (4, _)]) dL_law_409 (by decide) rfl ?_
    refine x_aload_n (pc := 411) dL_law_411 4 rfl ?_
    refine x_aload_n (pc := 412) dL_law_412 2 rfl ?_
    refine x_iload (pc := 413) dL_law_413 1 rfl ?_
    refine x_iconst (pc := 415) dL_law_415 ?_
    refine x_iadd (pc := 416) dL_law_416 ?_
    refine x_sld (pc := 417) (a := (i + 1).toNat) dL_law_417 (by omega) (by omega) hL ?_
    refine x_aload_n (pc := 418) dL_law_418 2 rfl ?_
    refine x_iload (pc := 419) dL_law_419 1 rfl ?_
    refine x_iconst (pc := 421) dL_law_421 ?_
    refine x_iadd (pc := 422) dL_law_422 ?_
    refine x_sld (pc := 423) (a := (i + 2).toNat) dL_law_423 (by omega) (by omega) hL ?_
    refine l_callV (pc := 424) _ dL_law_424 (.inl hR) hM lkL_164 rfl rfl rfl rfl (mem_dom0 (by decide) (by decide)) (Nat.le_of_ble_eq_true rfl) (by decide) rfl (by omega) (by omega) ?_
    refine x_istore (pc := 427) (lv' := [(7, _), (6, _), (5, _), (0, _), (1, _), (2, _), (3, _), (4, _)]) dL_law_427 (by decide) rfl ?_
    refine x_aload_n (pc := 429) dL_law_429 5 rfl ?_
    refine l_callV (pc := 430) _ dL_law_430 (.inr rfl) (ct_thrown e7) lkL_158 rfl rfl rfl rfl (mem_dom0 (by decide) (by decide)) (Nat.le_of_ble_eq_true rfl) (by decide) rfl (by omega) (by omega) ?_
    refine x_iload (pc := 433) dL_law_433 1 rfl ?_
    refine x_icmp_eq (pc := 435) 440 dL_law_435 (by decide) in_01 in_01 (fun _ => ?_) (fun q => absurd rfl q)
    refine x_iload (pc := 440) dL_law_440 1 rfl ?_
    refine x_if_ne (pc := 442) 457 dL_law_442 (by decide) in_01 (fun q => absurd rfl q) (fun _ => ?_)
    refine x_aload_n (pc := 445) dL_law_445 6 rfl ?_
    refine x_iconst (pc := 446) dL_law_446 ?_
    refine y_lald (pc := 447) dL_law_447 rfl (by decide) ⟨by decide, by decide⟩ ?_
    rw [e49]
    refine x_iload (pc := 448) dL_law_448 0 rfl ?_
    refine x_i2l (pc := 450) dL_law_450 hr ?_
    refine x_lcmp (pc := 451) dL_law_451 (in_IL hr) (in_IL hr) ?_
    refine x_if_eq (pc := 452) 457 dL_law_452 (by decide) in_ae (fun _ => ?_) (fun q => absurd (ae_0 r) q)
    refine x_goto (pc := 457) 2773 dL_law_457 (by decide) ?_
    exact x_lv [2, 3, 4, 5, 6, 7] rfl (x_widen (by omega) (by omega) kk)
  · refine ⟨m2, hI, fun res h' kk => ?_⟩
    unfold lvL at kk ⊢
    refine x_aload_n (pc := 392) dL_law_392 2 rfl ?_
    refine x_aload_n (pc := 393) dL_law_393 1 rfl ?_
    refine x_iload (pc := 394) dL_law_394 0 rfl ?_
    refine x_iconst (pc := 396) dL_law_396 ?_
    refine x_iadd (pc := 397) dL_law_397 ?_
    refine x_sld (pc := 398) (a := (i + 1).toNat) dL_law_398 (by omega) (by omega) hL ?_
    refine x_aload_n (pc := 399) dL_law_399 1 rfl ?_
    refine x_iload (pc := 400) dL_law_400 0 rfl ?_
    refine x_iconst (pc := 402) dL_law_402 ?_
    refine x_iadd (pc := 403) dL_law_403 ?_
    refine x_sld (pc := 404) (a := (i + 2).toNat) dL_law_404 (by omega) (by omega) hL ?_
    refine x_aload_n (pc := 405) dL_law_405 4 rfl ?_
    refine l_callE (pc := 406) _ dL_law_406 hC lsL_161 rfl (Nat.le_of_ble_eq_true rfl) (by decide) rfl (by omega) (by omega) ?_
    refine x_istore (pc := 409) (lv' := [(6, _), (5, _), (0, _), (1, _), (2, _), (3, _), (4, _)]) dL_law_409 (by decide) rfl ?_
    refine x_aload_n (pc := 411) dL_law_411 4 rfl ?_
    refine x_aload_n (pc := 412) dL_law_412 2 rfl ?_
    refine x_iload (pc := 413) dL_law_413 1 rfl ?_
    refine x_iconst (pc := 415) dL_law_415 ?_
    refine x_iadd (pc := 416) dL_law_416 ?_
    refine x_sld (pc := 417) (a := (i + 1).toNat) dL_law_417 (by omega) (by omega) hL ?_
    refine x_aload_n (pc := 418) dL_law_418 2 rfl ?_
    refine x_iload (pc := 419) dL_law_419 1 rfl ?_
    refine x_iconst (pc := 421) dL_law_421 ?_
    refine x_iadd (pc := 422) dL_law_422 ?_
    refine x_sld (pc := 423) (a := (i + 2).toNat) dL_law_423 (by omega) (by omega) hL ?_
    refine l_callV (pc := 424) _ dL_law_424 (.inl hR) hM lkL_164 rfl rfl rfl rfl (mem_dom0 (by decide) (by decide)) (Nat.le_of_ble_eq_true rfl) (by decide) rfl (by omega) (by omega) ?_
    refine x_istore (pc := 427) (lv' := [(7, _), (6, _), (5, _), (0, _), (1, _), (2, _), (3, _), (4, _)]) dL_law_427 (by decide) rfl ?_
    refine x_aload_n (pc := 429) dL_law_429 5 rfl ?_
    refine l_callV (pc := 430) _ dL_law_430 (.inr rfl) (ct_thrown e7) lkL_158 rfl rfl rfl rfl (mem_dom0 (by decide) (by decide)) (Nat.le_of_ble_eq_true rfl) (by decide) rfl (by omega) (by omega) ?_
    refine x_iload (pc := 433) dL_law_433 1 rfl ?_
    refine x_icmp_eq (pc := 435) 440 dL_law_435 (by decide) (in_12 he) (in_12 he) (fun _ => ?_) (fun q => absurd rfl q)
    refine x_iload (pc := 440) dL_law_440 1 rfl ?_
    refine x_if_ne (pc := 442) 457 dL_law_442 (by decide) (in_12 he) (fun _ => ?_) (fun q => by exfalso; omega)
    refine x_goto (pc := 457) 2773 dL_law_457 (by decide) ?_
    exact x_lv [2, 3, 4, 5, 6, 7] rfl (x_widen (by omega) (by omega) kk)
theorem law_6 {G : GG} {m : Mem} {K : Nat} {c0 s0 : Nat} {i : Int} (h : IV m K) (hK : K ≤ 600) (hi : 0 ≤ i ∧ i + 5 ≤ (gV G 8 : Nat)) (hL : gV G 8 < 2147483648) (hc : c0 ≤ 400000) (hs : s0 ≤ 6000000) : LST G m K c0 s0 i 460 := by
  rcases pr_cable (G := G) h hK (inI_of (gSx G (i + 1).toNat)) (inI_of (gSx G (i + 2).toNat)) (inI_of (gSx G (i + 3).toNat)) with ⟨R, r, c1, m2, hR, hr, hC, hM, e49, e7, hI⟩ | ⟨R, e, m2, hR, he, hC, hM, e7, hI⟩
  · refine ⟨m2, hI, fun res h' kk => ?_⟩
    unfold lvL at kk ⊢
    refine x_aload_n (pc := 460) dL_law_460 2 rfl ?_
    refine x_aload_n (pc := 461) dL_law_461 1 rfl ?_
    refine x_iload (pc := 462) dL_law_462 0 rfl ?_
    refine x_iconst (pc := 464) dL_law_464 ?_
    refine x_iadd (pc := 465) dL_law_465 ?_
    refine x_sld (pc := 466) (a := (i + 1).toNat) dL_law_466 (by omega) (by omega) hL ?_
    refine x_aload_n (pc := 467) dL_law_467 1 rfl ?_
    refine x_iload (pc := 468) dL_law_468 0 rfl ?_
    refine x_iconst (pc := 470) dL_law_470 ?_
    refine x_iadd (pc := 471) dL_law_471 ?_
    refine x_sld (pc := 472) (a := (i + 2).toNat) dL_law_472 (by omega) (by omega) hL ?_
    refine x_aload_n (pc := 473) dL_law_473 1 rfl ?_
    refine x_iload (pc := 474) dL_law_474 0 rfl ?_
    refine x_iconst (pc := 476) dL_law_476 ?_
    refine x_iadd (pc := 477) dL_law_477 ?_
    refine x_sld (pc := 478) (a := (i + 3).toNat) dL_law_478 (by omega) (by omega) hL ?_
    refine x_aload_n (pc := 479) dL_law_479 4 rfl ?_
    refine l_callW (pc := 480) _ dL_law_480 hC lsL_165 rfl (Nat.le_of_ble_eq_true rfl) (by decide) rfl (by omega) (by omega) ?_
    refine x_istore (pc := 483) (lv' := [(6, _), (5, _), (0, _), (1, _), (2, _), (3, _), (4, _)]) dL_law_483 (by decide) rfl ?_
    refine x_aload_n (pc := 485) dL_law_485 4 rfl ?_
    refine x_aload_n (pc := 486) dL_law_486 2 rfl ?_
    refine x_iload (pc := 487) dL_law_487 1 rfl ?_
    refine x_iconst (pc := 489) dL_law_489 ?_
    refine x_iadd (pc := 490) dL_law_490 ?_
    refine x_sld (pc := 491) (a := (i + 1).toNat) dL_law_491 (by omega) (by omega) hL ?_
    refine x_aload_n (pc := 492) dL_law_492 2 rfl ?_
    refine x_iload (pc := 493) dL_law_493 1 rfl ?_
    refine x_iconst (pc := 495) dL_law_495 ?_
    refine x_iadd (pc := 496) dL_law_496 ?_
    refine x_sld (pc := 497) (a := (i + 2).toNat) dL_law_497 (by omega) (by omega) hL ?_
    refine x_aload_n (pc := 498) dL_law_498 2 rfl ?_
    refine x_iload (pc := 499) dL_law_499 1 rfl ?_
    refine x_iconst (pc := 501) dL_law_501 ?_
    refine x_iadd (pc := 502) dL_law_502 ?_
    refine x_sld (pc := 503) (a := (i + 3).toNat) dL_law_503 (by omega) (by omega) hL ?_
    refine l_callV (pc := 504) _ dL_law_504 (.inl hR) hM lkL_168 rfl rfl rfl rfl (mem_dom0 (by decide) (by decide)) (Nat.le_of_ble_eq_true rfl) (by decide) rfl (by omega) (by omega) ?_
    refine x_istore (pc := 507) (lv' := [(7, _), (6, _), (5, _), (0, _), (1, _), (2, _), (3, _), (4, _)]) dL_law_507 (by decide) rfl ?_
    refine x_aload_n (pc := 509) dL_law_509 5 rfl ?_
    refine l_callV (pc := 510) _ dL_law_510 (.inr rfl) (ct_thrown e7) lkL_158 rfl rfl rfl rfl (mem_dom0 (by decide) (by decide)) (Nat.le_of_ble_eq_true rfl) (by decide) rfl (by omega) (by omega) ?_
    refine x_iload (pc := 513) dL_law_513 1 rfl ?_
    refine x_icmp_eq (pc := 515) 520 dL_law_515 (by decide) in_01 in_01 (fun _ => ?_) (fun q => absurd rfl q)
    refine x_iload (pc := 520) dL_law_520 1 rfl ?_
    refine x_if_ne (pc := 522) 537 dL_law_522 (by decide) in_01 (fun q => absurd rfl q) (fun _ => ?_)
    refine x_aload_n (pc := 525) dL_law_525 6 rfl ?_
    refine x_iconst (pc := 526) dL_law_526 ?_
    refine y_lald (pc := 527) dL_law_527 rfl (by decide) ⟨by decide, by decide⟩ ?_
    rw [e49]
    refine x_iload (pc := 528) dL_law_528 0 rfl ?_
    refine x_i2l (pc := 530) dL_law_530 hr ?_
    refine x_lcmp (pc := 531) dL_law_531 (in_IL hr) (in_IL hr) ?_
    refine x_if_eq (pc := 532) 537 dL_law_532 (by decide) in_ae (fun _ => ?_) (fun q => absurd (ae_0 r) q)
    refine x_goto (pc := 537) 2773 dL_law_537 (by decide) ?_
    exact x_lv [2, 3, 4, 5, 6, 7] rfl (x_widen (by omega) (by omega) kk)
  · refine ⟨m2, hI, fun res h' kk => ?_⟩
    unfold lvL at kk ⊢
    refine x_aload_n (pc := 460) dL_law_460 2 rfl ?_
    refine x_aload_n (pc := 461) dL_law_461 1 rfl ?_
    refine x_iload (pc := 462) dL_law_462 0 rfl ?_
    refine x_iconst (pc := 464) dL_law_464 ?_
    refine x_iadd (pc := 465) dL_law_465 ?_
    refine x_sld (pc := 466) (a := (i + 1).toNat) dL_law_466 (by omega) (by omega) hL ?_
    refine x_aload_n (pc := 467) dL_law_467 1 rfl ?_
    refine x_iload (pc := 468) dL_law_468 0 rfl ?_
    refine x_iconst (pc := 470) dL_law_470 ?_
    refine x_iadd (pc := 471) dL_law_471 ?_
    refine x_sld (pc := 472) (a := (i + 2).toNat) dL_law_472 (by omega) (by omega) hL ?_
    refine x_aload_n (pc := 473) dL_law_473 1 rfl ?_
    refine x_iload (pc := 474) dL_law_474 0 rfl ?_
    refine x_iconst (pc := 476) dL_law_476 ?_
    refine x_iadd (pc := 477) dL_law_477 ?_
    refine x_sld (pc := 478) (a := (i + 3).toNat) dL_law_478 (by omega) (by omega) hL ?_
    refine x_aload_n (pc := 479) dL_law_479 4 rfl ?_
    refine l_callE (pc := 480) _ dL_law_480 hC lsL_165 rfl (Nat.le_of_ble_eq_true rfl) (by decide) rfl (by omega) (by omega) ?_
    refine x_istore (pc := 483) (lv' := [(6, _), (5, _), (0, _), (1, _), (2, _), (3, _), (4, _)]) dL_law_483 (by decide) rfl ?_
    refine x_aload_n (pc := 485) dL_law_485 4 rfl ?_
    refine x_aload_n (pc := 486) dL_law_486 2 rfl ?_
    refine x_iload (pc := 487) dL_law_487 1 rfl ?_
    refine x_iconst (pc := 489) dL_law_489 ?_
    refine x_iadd (pc := 490) dL_law_490 ?_
    refine x_sld (pc := 491) (a := (i + 1).toNat) dL_law_491 (by omega) (by omega) hL ?_
    refine x_aload_n (pc := 492) dL_law_492 2 rfl ?_
    refine x_iload (pc := 493) dL_law_493 1 rfl ?_
    refine x_iconst (pc := 495) dL_law_495 ?_
    refine x_iadd (pc := 496) dL_law_496 ?_
    refine x_sld (pc := 497) (a := (i + 2).toNat) dL_law_497 (by omega) (by omega) hL ?_
    refine x_aload_n (pc := 498) dL_law_498 2 rfl ?_
    refine x_iload (pc := 499) dL_law_499 1 rfl ?_
    refine x_iconst (pc := 501) dL_law_501 ?_
    refine x_iadd (pc := 502) dL_law_502 ?_
    refine x_sld (pc := 503) (a := (i + 3).toNat) dL_law_503 (by omega) (by omega) hL ?_
    refine l_callV (pc := 504) _ dL_law_504 (.inl hR) hM lkL_168 rfl rfl rfl rfl (mem_dom0 (by decide) (by decide)) (Nat.le_of_ble_eq_true rfl) (by decide) rfl (by omega) (by omega) ?_
    refine x_istore (pc := 507) (lv' := [(7, _), (6, _), (5, _), (0, _), (1, _), (2, _), (3, _), (4, _)]) dL_law_507 (by decide) rfl ?_
    refine x_aload_n (pc := 509) dL_law_509 5 rfl ?_
    refine l_callV (pc := 510) _ dL_law_510 (.inr rfl) (ct_thrown e7) lkL_158 rfl rfl rfl rfl (mem_dom0 (by decide) (by decide)) (Nat.le_of_ble_eq_true rfl) (by decide) rfl (by omega) (by omega) ?_
    refine x_iload (pc := 513) dL_law_513 1 rfl ?_
    refine x_icmp_eq (pc := 515) 520 dL_law_515 (by decide) (in_12 he) (in_12 he) (fun _ => ?_) (fun q => absurd rfl q)
    refine x_iload (pc := 520) dL_law_520 1 rfl ?_
    refine x_if_ne (pc := 522) 537 dL_law_522 (by decide) (in_12 he) (fun _ => ?_) (fun q => by exfalso; omega)
    refine x_goto (pc := 537) 2773 dL_law_537 (by decide) ?_
    exact x_lv [2, 3, 4, 5, 6, 7] rfl (x_widen (by omega) (by omega) kk)
theorem law_7 {G : GG} {m : Mem} {K : Nat} {c0 s0 : Nat} {i : Int} (h : IV m K) (hK : K ≤ 600) (hi : 0 ≤ i ∧ i + 5 ≤ (gV G 8 : Nat)) (hL : gV G 8 < 2147483648) (hc : c0 ≤ 400000) (hs : s0 ≤ 6000000) : LST G m K c0 s0 i 540 := by
  rcases pr_gainAt (G := G) h hK (inI_of (gSx G (i + 1).toNat)) (inI_of (gSx G (i + 2).toNat)) with ⟨R, r, c1, m2, hR, hr, hC, hM, e49, e7, hI⟩ | ⟨R, e, m2, hR, he, hC, hM, e7, hI⟩
  · refine ⟨m2, hI, fun res h' kk => ?_⟩
    unfold lvL at kk ⊢
    refine x_aload_n (pc := 540) dL_law_540 2 rfl ?_
    refine x_aload_n (pc := 541) dL_law_541 1 rfl ?_
    refine x_iload (pc := 542) dL_law_542 0 rfl ?_
    refine x_iconst (pc := 544) dL_law_544 ?_
    refine x_iadd (pc := 545) dL_law_545 ?_
    refine x_sld (pc := 546) (a := (i + 1).toNat) dL_law_546 (by omega) (by omega) hL ?_
    refine x_aload_n (pc := 547) dL_law_547 1 rfl ?_
    refine x_iload (pc := 548) dL_law_548 0 rfl ?_
    refine x_iconst (pc := 550) dL_law_550 ?_
    refine x_iadd (pc := 551) dL_law_551 ?_
    refine x_sld (pc := 552) (a := (i + 2).toNat) dL_law_552 (by omega) (by omega) hL ?_
    refine x_aload_n (pc := 553) dL_law_553 4 rfl ?_
    refine l_callW (pc := 554) _ dL_law_554 hC lsL_169 rfl (Nat.le_of_ble_eq_true rfl) (by decide) rfl (by omega) (by omega) ?_
    refine x_istore (pc := 557) (lv' := [(6, _), (5, _), (0, _), (1, _), (2, _), (3, _), (4, _)]) dL_law_557 (by decide) rfl ?_
    refine x_aload_n (pc := 559) dL_law_559 4 rfl ?_
    refine x_aload_n (pc := 560) dL_law_560 2 rfl ?_
    refine x_iload (pc := 561) dL_law_561 1 rfl ?_
    refine x_iconst (pc := 563) dL_law_563 ?_
    refine x_iadd (pc := 564) dL_law_564 ?_
    refine x_sld (pc := 565) (a := (i + 1).toNat) dL_law_565 (by omega) (by omega) hL ?_
    refine x_aload_n (pc := 566) dL_law_566 2 rfl ?_
    refine x_iload (pc := 567) dL_law_567 1 rfl ?_
    refine x_iconst (pc := 569) dL_law_569 ?_
    refine x_iadd (pc := 570) dL_law_570 ?_
    refine x_sld (pc := 571) (a := (i + 2).toNat) dL_law_571 (by omega) (by omega) hL ?_
    refine l_callV (pc := 572) _ dL_law_572 (.inl hR) hM lkL_171 rfl rfl rfl rfl (mem_dom0 (by decide) (by decide)) (Nat.le_of_ble_eq_true rfl) (by decide) rfl (by omega) (by omega) ?_
    refine x_istore (pc := 575) (lv' := [(7, _), (6, _), (5, _), (0, _), (1, _), (2, _), (3, _), (4, _)]) dL_law_575 (by decide) rfl ?_
    refine x_aload_n (pc := 577) dL_law_577 5 rfl ?_
    refine l_callV (pc := 578) _ dL_law_578 (.inr rfl) (ct_thrown e7) lkL_158 rfl rfl rfl rfl (mem_dom0 (by decide) (by decide)) (Nat.le_of_ble_eq_true rfl) (by decide) rfl (by omega) (by omega) ?_
    refine x_iload (pc := 581) dL_law_581 1 rfl ?_
    refine x_icmp_eq (pc := 583) 588 dL_law_583 (by decide) in_01 in_01 (fun _ => ?_) (fun q => absurd rfl q)
    refine x_iload (pc := 588) dL_law_588 1 rfl ?_
    refine x_if_ne (pc := 590) 605 dL_law_590 (by decide) in_01 (fun q => absurd rfl q) (fun _ => ?_)
    refine x_aload_n (pc := 593) dL_law_593 6 rfl ?_
    refine x_iconst (pc := 594) dL_law_594 ?_
    refine y_lald (pc := 595) dL_law_595 rfl (by decide) ⟨by decide, by decide⟩ ?_
    rw [e49]
    refine x_iload (pc := 596) dL_law_596 0 rfl ?_
    refine x_i2l (pc := 598) dL_law_598 hr ?_
    refine x_lcmp (pc := 599) dL_law_599 (in_IL hr) (in_IL hr) ?_
    refine x_if_eq (pc := 600) 605 dL_law_600 (by decide) in_ae (fun _ => ?_) (fun q => absurd (ae_0 r) q)
    refine x_goto (pc := 605) 2773 dL_law_605 (by decide) ?_
    exact x_lv [2, 3, 4, 5, 6, 7] rfl (x_widen (by omega) (by omega) kk)
  · refine ⟨m2, hI, fun res h' kk => ?_⟩
    unfold lvL at kk ⊢
    refine x_aload_n (pc := 540) dL_law_540 2 rfl ?_
    refine x_aload_n (pc := 541) dL_law_541 1 rfl ?_
    refine x_iload (pc := 542) dL_law_542 0 rfl ?_
    refine x_iconst (pc := 544) dL_law_544 ?_
    refine x_iadd (pc := 545) dL_law_545 ?_
    refine x_sld (pc := 546) (a := (i + 1).toNat) dL_law_546 (by omega) (by omega) hL ?_
    refine x_aload_n (pc := 547) dL_law_547 1 rfl ?_
    refine x_iload (pc := 548) dL_law_548 0 rfl ?_
    refine x_iconst (pc := 550) dL_law_550 ?_
    refine x_iadd (pc := 551) dL_law_551 ?_
    refine x_sld (pc := 552) (a := (i + 2).toNat) dL_law_552 (by omega) (by omega) hL ?_
    refine x_aload_n (pc := 553) dL_law_553 4 rfl ?_
    refine l_callE (pc := 554) _ dL_law_554 hC lsL_169 rfl (Nat.le_of_ble_eq_true rfl) (by decide) rfl (by omega) (by omega) ?_
    refine x_istore (pc := 557) (lv' := [(6, _), (5, _), (0, _), (1, _), (2, _), (3, _), (4, _)]) dL_law_557 (by decide) rfl ?_
    refine x_aload_n (pc := 559) dL_law_559 4 rfl ?_
    refine x_aload_n (pc := 560) dL_law_560 2 rfl ?_
    refine x_iload (pc := 561) dL_law_561 1 rfl ?_
    refine x_iconst (pc := 563) dL_law_563 ?_
    refine x_iadd (pc := 564) dL_law_564 ?_
    refine x_sld (pc := 565) (a := (i + 1).toNat) dL_law_565 (by omega) (by omega) hL ?_
    refine x_aload_n (pc := 566) dL_law_566 2 rfl ?_
    refine x_iload (pc := 567) dL_law_567 1 rfl ?_
    refine x_iconst (pc := 569) dL_law_569 ?_
    refine x_iadd (pc := 570) dL_law_570 ?_
    refine x_sld (pc := 571) (a := (i + 2).toNat) dL_law_571 (by omega) (by omega) hL ?_
    refine l_callV (pc := 572) _ dL_law_572 (.inl hR) hM lkL_171 rfl rfl rfl rfl (mem_dom0 (by decide) (by decide)) (Nat.le_of_ble_eq_true rfl) (by decide) rfl (by omega) (by omega) ?_
    refine x_istore (pc := 575) (lv' := [(7, _), (6, _), (5, _), (0, _), (1, _), (2, _), (3, _), (4, _)]) dL_law_575 (by decide) rfl ?_
    refine x_aload_n (pc := 577) dL_law_577 5 rfl ?_
    refine l_callV (pc := 578) _ dL_law_578 (.inr rfl) (ct_thrown e7) lkL_158 rfl rfl rfl rfl (mem_dom0 (by decide) (by decide)) (Nat.le_of_ble_eq_true rfl) (by decide) rfl (by omega) (by omega) ?_
    refine x_iload (pc := 581) dL_law_581 1 rfl ?_
    refine x_icmp_eq (pc := 583) 588 dL_law_583 (by decide) (in_12 he) (in_12 he) (fun _ => ?_) (fun q => absurd rfl q)
    refine x_iload (pc := 588) dL_law_588 1 rfl ?_
    refine x_if_ne (pc := 590) 605 dL_law_590 (by decide) (in_12 he) (fun _ => ?_) (fun q => by exfalso; omega)
    refine x_goto (pc := 605) 2773 dL_law_605 (by decide) ?_
    exact x_lv [2, 3, 4, 5, 6, 7] rfl (x_widen (by omega) (by omega) kk)
theorem law_8 {G : GG} {m : Mem} {K : Nat} {c0 s0 : Nat} {i : Int} (h : IV m K) (hK : K ≤ 600) (hi : 0 ≤ i ∧ i + 5 ≤ (gV G 8 : Nat)) (hL : gV G 8 < 2147483648) (hc : c0 ≤ 400000) (hs : s0 ≤ 6000000) : LST G m K c0 s0 i 608 := by
  rcases pr_trip (G := G) h hK (inI_of (gSx G (i + 1).toNat)) (inI_of (gSx G (i + 2).toNat)) with ⟨R, r, c1, m2, hR, hr, hC, hM, e49, e7, hI⟩ | ⟨R, e, m2, hR, he, hC, hM, e7, hI⟩
  · refine ⟨m2, hI, fun res h' kk => ?_⟩
    unfold lvL at kk ⊢
    refine x_aload_n (pc := 608) dL_law_608 2 rfl ?_
    refine x_aload_n (pc := 609) dL_law_609 1 rfl ?_
    refine x_iload (pc := 610) dL_law_610 0 rfl ?_
    refine x_iconst (pc := 612) dL_law_612 ?_
    refine x_iadd (pc := 613) dL_law_613 ?_
    refine x_sld (pc := 614) (a := (i + 1).toNat) dL_law_614 (by omega) (by omega) hL ?_
    refine x_aload_n (pc := 615) dL_law_615 1 rfl ?_
    refine x_iload (pc := 616) dL_law_616 0 rfl ?_
    refine x_iconst (pc := 618) dL_law_618 ?_
    refine x_iadd (pc := 619) dL_law_619 ?_
    refine x_sld (pc := 620) (a := (i + 2).toNat) dL_law_620 (by omega) (by omega) hL ?_
    refine x_aload_n (pc := 621) dL_law_621 4 rfl ?_
    refine l_callW (pc := 622) _ dL_law_622 hC lsL_172 rfl (Nat.le_of_ble_eq_true rfl) (by decide) rfl (by omega) (by omega) ?_
    refine x_istore (pc := 625) (lv' := [(6, _), (5, _), (0, _), (1, _), (2, _), (3, _), (4, _)]) dL_law_625 (by decide) rfl ?_
    refine x_aload_n (pc := 627) dL_law_627 4 rfl ?_
    refine x_aload_n (pc := 628) dL_law_628 2 rfl ?_
    refine x_iload (pc := 629) dL_law_629 1 rfl ?_
    refine x_iconst (pc := 631) dL_law_631 ?_
    refine x_iadd (pc := 632) dL_law_632 ?_
    refine x_sld (pc := 633) (a := (i + 1).toNat) dL_law_633 (by omega) (by omega) hL ?_
    refine x_aload_n (pc := 634) dL_law_634 2 rfl ?_
    refine x_iload (pc := 635) dL_law_635 1 rfl ?_
    refine x_iconst (pc := 637) dL_law_637 ?_
    refine x_iadd (pc := 638) dL_law_638 ?_
    refine x_sld (pc := 639) (a := (i + 2).toNat) dL_law_639 (by omega) (by omega) hL ?_
    refine l_callV (pc := 640) _ dL_law_640 (.inl hR) hM lkL_174 rfl rfl rfl rfl (mem_dom0 (by decide) (by decide)) (Nat.le_of_ble_eq_true rfl) (by decide) rfl (by omega) (by omega) ?_
    refine x_istore (pc := 643) (lv' := [(7, _), (6, _), (5, _), (0, _), (1, _), (2, _), (3, _), (4, _)]) dL_law_643 (by decide) rfl ?_
    refine x_aload_n (pc := 645) dL_law_645 5 rfl ?_
    refine l_callV (pc := 646) _ dL_law_646 (.inr rfl) (ct_thrown e7) lkL_158 rfl rfl rfl rfl (mem_dom0 (by decide) (by decide)) (Nat.le_of_ble_eq_true rfl) (by decide) rfl (by omega) (by omega) ?_
    refine x_iload (pc := 649) dL_law_649 1 rfl ?_
    refine x_icmp_eq (pc := 651) 656 dL_law_651 (by decide) in_01 in_01 (fun _ => ?_) (fun q => absurd rfl q)
    refine x_iload (pc := 656) dL_law_656 1 rfl ?_
    refine x_if_ne (pc := 658) 673 dL_law_658 (by decide) in_01 (fun q => absurd rfl q) (fun _ => ?_)
    refine x_aload_n (pc := 661) dL_law_661 6 rfl ?_
    refine x_iconst (pc := 662) dL_law_662 ?_
    refine y_lald (pc := 663) dL_law_663 rfl (by decide) ⟨by decide, by decide⟩ ?_
    rw [e49]
    refine x_iload (pc := 664) dL_law_664 0 rfl ?_
    refine x_i2l (pc := 666) dL_law_666 hr ?_
    refine x_lcmp (pc := 667) dL_law_667 (in_IL hr) (in_IL hr) ?_
    refine x_if_eq (pc := 668) 673 dL_law_668 (by decide) in_ae (fun _ => ?_) (fun q => absurd (ae_0 r) q)
    refine x_goto (pc := 673) 2773 dL_law_673 (by decide) ?_
    exact x_lv [2, 3, 4, 5, 6, 7] rfl (x_widen (by omega) (by omega) kk)
  · refine ⟨m2, hI, fun res h' kk => ?_⟩
    unfold lvL at kk ⊢
    refine x_aload_n (pc := 608) dL_law_608 2 rfl ?_
    refine x_aload_n (pc := 609) dL_law_609 1 rfl ?_
    refine x_iload (pc := 610) dL_law_610 0 rfl ?_
    refine x_iconst (pc := 612) dL_law_612 ?_
    refine x_iadd (pc := 613) dL_law_613 ?_
    refine x_sld (pc := 614) (a := (i + 1).toNat) dL_law_614 (by omega) (by omega) hL ?_
    refine x_aload_n (pc := 615) dL_law_615 1 rfl ?_
    refine x_iload (pc := 616) dL_law_616 0 rfl ?_
    refine x_iconst (pc := 618) dL_law_618 ?_
    refine x_iadd (pc := 619) dL_law_619 ?_
    refine x_sld (pc := 620) (a := (i + 2).toNat) dL_law_620 (by omega) (by omega) hL ?_
    refine x_aload_n (pc := 621) dL_law_621 4 rfl ?_
    refine l_callE (pc := 622) _ dL_law_622 hC lsL_172 rfl (Nat.le_of_ble_eq_true rfl) (by decide) rfl (by omega) (by omega) ?_
    refine x_istore (pc := 625) (lv' := [(6, _), (5, _), (0, _), (1, _), (2, _), (3, _), (4, _)]) dL_law_625 (by decide) rfl ?_
    refine x_aload_n (pc := 627) dL_law_627 4 rfl ?_
    refine x_aload_n (pc := 628) dL_law_628 2 rfl ?_
    refine x_iload (pc := 629) dL_law_629 1 rfl ?_
    refine x_iconst (pc := 631) dL_law_631 ?_
    refine x_iadd (pc := 632) dL_law_632 ?_
    refine x_sld (pc := 633) (a := (i + 1).toNat) dL_law_633 (by omega) (by omega) hL ?_
    refine x_aload_n (pc := 634) dL_law_634 2 rfl ?_
    refine x_iload (pc := 635) dL_law_635 1 rfl ?_
    refine x_iconst (pc := 637) dL_law_637 ?_
    refine x_iadd (pc := 638) dL_law_638 ?_
    refine x_sld (pc := 639) (a := (i + 2).toNat) dL_law_639 (by omega) (by omega) hL ?_
    refine l_callV (pc := 640) _ dL_law_640 (.inl hR) hM lkL_174 rfl rfl rfl rfl (mem_dom0 (by decide) (by decide)) (Nat.le_of_ble_eq_true rfl) (by decide) rfl (by omega) (by omega) ?_
    refine x_istore (pc := 643) (lv' := [(7, _), (6, _), (5, _), (0, _), (1, _), (2, _), (3, _), (4, _)]) dL_law_643 (by decide) rfl ?_
    refine x_aload_n (pc := 645) dL_law_645 5 rfl ?_
    refine l_callV (pc := 646) _ dL_law_646 (.inr rfl) (ct_thrown e7) lkL_158 rfl rfl rfl rfl (mem_dom0 (by decide) (by decide)) (Nat.le_of_ble_eq_true rfl) (by decide) rfl (by omega) (by omega) ?_
    refine x_iload (pc := 649) dL_law_649 1 rfl ?_
    refine x_icmp_eq (pc := 651) 656 dL_law_651 (by decide) (in_12 he) (in_12 he) (fun _ => ?_) (fun q => absurd rfl q)
    refine x_iload (pc := 656) dL_law_656 1 rfl ?_
    refine x_if_ne (pc := 658) 673 dL_law_658 (by decide) (in_12 he) (fun _ => ?_) (fun q => by exfalso; omega)
    refine x_goto (pc := 673) 2773 dL_law_673 (by decide) ?_
    exact x_lv [2, 3, 4, 5, 6, 7] rfl (x_widen (by omega) (by omega) kk)
theorem law_9 {G : GG} {m : Mem} {K : Nat} {c0 s0 : Nat} {i : Int} (h : IV m K) (hK : K ≤ 600) (hi : 0 ≤ i ∧ i + 5 ≤ (gV G 8 : Nat)) (hL : gV G 8 < 2147483648) (hc : c0 ≤ 400000) (hs : s0 ≤ 6000000) : LST G m K c0 s0 i 676 := by
  rcases pr_contract (G := G) h hK (inI_of (gSx G (i + 1).toNat)) (inI_of (gSx G (i + 2).toNat)) with ⟨R, r, c1, m2, hR, hr, hC, hM, e49, e7, hI⟩ | ⟨R, e, m2, hR, he, hC, hM, e7, hI⟩
  · refine ⟨m2, hI, fun res h' kk => ?_⟩
    unfold lvL at kk ⊢
    refine x_aload_n (pc := 676) dL_law_676 2 rfl ?_
    refine x_aload_n (pc := 677) dL_law_677 1 rfl ?_
    refine x_iload (pc := 678) dL_law_678 0 rfl ?_
    refine x_iconst (pc := 680) dL_law_680 ?_
    refine x_iadd (pc := 681) dL_law_681 ?_
    refine x_sld (pc := 682) (a := (i + 1).toNat) dL_law_682 (by omega) (by omega) hL ?_
    refine x_aload_n (pc := 683) dL_law_683 1 rfl ?_
    refine x_iload (pc := 684) dL_law_684 0 rfl ?_
    refine x_iconst (pc := 686) dL_law_686 ?_
    refine x_iadd (pc := 687) dL_law_687 ?_
    refine x_sld (pc := 688) (a := (i + 2).toNat) dL_law_688 (by omega) (by omega) hL ?_
    refine x_aload_n (pc := 689) dL_law_689 4 rfl ?_
    refine l_callW (pc := 690) _ dL_law_690 hC lsL_175 rfl (Nat.le_of_ble_eq_true rfl) (by decide) rfl (by omega) (by omega) ?_
    refine x_istore (pc := 693) (lv' := [(6, _), (5, _), (0, _), (1, _), (2, _), (3, _), (4, _)]) dL_law_693 (by decide) rfl ?_
    refine x_aload_n (pc := 695) dL_law_695 4 rfl ?_
    refine x_aload_n (pc := 696) dL_law_696 2 rfl ?_
    refine x_iload (pc := 697) dL_law_697 1 rfl ?_
    refine x_iconst (pc := 699) dL_law_699 ?_
    refine x_iadd (pc := 700) dL_law_700 ?_
    refine x_sld (pc := 701) (a := (i + 1).toNat) dL_law_701 (by omega) (by omega) hL ?_
    refine x_aload_n (pc := 702) dL_law_702 2 rfl ?_
    refine x_iload (pc := 703) dL_law_703 1 rfl ?_
    refine x_iconst (pc := 705) dL_law_705 ?_
    refine x_iadd (pc := 706) dL_law_706 ?_
    refine x_sld (pc := 707) (a := (i + 2).toNat) dL_law_707 (by omega) (by omega) hL ?_
    refine l_callV (pc := 708) _ dL_law_708 (.inl hR) hM lkL_177 rfl rfl rfl rfl (mem_dom0 (by decide) (by decide)) (Nat.le_of_ble_eq_true rfl) (by decide) rfl (by omega) (by omega) ?_
    refine x_istore (pc := 711) (lv' := [(7, _), (6, _), (5, _), (0, _), (1, _), (2, _), (3, _), (4, _)]) dL_law_711 (by decide) rfl ?_
    refine x_aload_n (pc := 713) dL_law_713 5 rfl ?_
    refine l_callV (pc := 714) _ dL_law_714 (.inr rfl) (ct_thrown e7) lkL_158 rfl rfl rfl rfl (mem_dom0 (by decide) (by decide)) (Nat.le_of_ble_eq_true rfl) (by decide) rfl (by omega) (by omega) ?_
    refine x_iload (pc := 717) dL_law_717 1 rfl ?_
    refine x_icmp_eq (pc := 719) 724 dL_law_719 (by decide) in_01 in_01 (fun _ => ?_) (fun q => absurd rfl q)
    refine x_iload (pc := 724) dL_law_724 1 rfl ?_
    refine x_if_ne (pc := 726) 741 dL_law_726 (by decide) in_01 (fun q => absurd rfl q) (fun _ => ?_)
    refine x_aload_n (pc := 729) dL_law_729 6 rfl ?_
    refine x_iconst (pc := 730) dL_law_730 ?_
    refine y_lald (pc := 731) dL_law_731 rfl (by decide) ⟨by decide, by decide⟩ ?_
    rw [e49]
    refine x_iload (pc := 732) dL_law_732 0 rfl ?_
    refine x_i2l (pc := 734) dL_law_734 hr ?_
    refine x_lcmp (pc := 735) dL_law_735 (in_IL hr) (in_IL hr) ?_
    refine x_if_eq (pc := 736) 741 dL_law_736 (by decide) in_ae (fun _ => ?_) (fun q => absurd (ae_0 r) q)
    refine x_goto (pc := 741) 2773 dL_law_741 (by decide) ?_
    exact x_lv [2, 3, 4, 5, 6, 7] rfl (x_widen (by omega) (by omega) kk)
  · refine ⟨m2, hI, fun res h' kk => ?_⟩
    unfold lvL at kk ⊢
    refine x_aload_n (pc := 676) dL_law_676 2 rfl ?_
    refine x_aload_n (pc := 677) dL_law_677 1 rfl ?_
    refine x_iload (pc := 678) dL_law_678 0 rfl ?_
    refine x_iconst (pc := 680) dL_law_680 ?_
    refine x_iadd (pc := 681) dL_law_681 ?_
    refine x_sld (pc := 682) (a := (i + 1).toNat) dL_law_682 (by omega) (by omega) hL ?_
    refine x_aload_n (pc := 683) dL_law_683 1 rfl ?_
    refine x_iload (pc := 684) dL_law_684 0 rfl ?_
    refine x_iconst (pc := 686) dL_law_686 ?_
    refine x_iadd (pc := 687) dL_law_687 ?_
    refine x_sld (pc := 688) (a := (i + 2).toNat) dL_law_688 (by omega) (by omega) hL ?_
    refine x_aload_n (pc := 689) dL_law_689 4 rfl ?_
    refine l_callE (pc := 690) _ dL_law_690 hC lsL_175 rfl (Nat.le_of_ble_eq_true rfl) (by decide) rfl (by omega) (by omega) ?_
    refine x_istore (pc := 693) (lv' := [(6, _), (5, _), (0, _), (1, _), (2, _), (3, _), (4, _)]) dL_law_693 (by decide) rfl ?_
    refine x_aload_n (pc := 695) dL_law_695 4 rfl ?_
    refine x_aload_n (pc := 696) dL_law_696 2 rfl ?_
    refine x_iload (pc := 697) dL_law_697 1 rfl ?_
    refine x_iconst (pc := 699) dL_law_699 ?_
    refine x_iadd (pc := 700) dL_law_700 ?_
    refine x_sld (pc := 701) (a := (i + 1).toNat) dL_law_701 (by omega) (by omega) hL ?_
    refine x_aload_n (pc := 702) dL_law_702 2 rfl ?_
    refine x_iload (pc := 703) dL_law_703 1 rfl ?_
    refine x_iconst (pc := 705) dL_law_705 ?_
    refine x_iadd (pc := 706) dL_law_706 ?_
    refine x_sld (pc := 707) (a := (i + 2).toNat) dL_law_707 (by omega) (by omega) hL ?_
    refine l_callV (pc := 708) _ dL_law_708 (.inl hR) hM lkL_177 rfl rfl rfl rfl (mem_dom0 (by decide) (by decide)) (Nat.le_of_ble_eq_true rfl) (by decide) rfl (by omega) (by omega) ?_
    refine x_istore (pc := 711) (lv' := [(7, _), (6, _), (5, _), (0, _), (1, _), (2, _), (3, _), (4, _)]) dL_law_711 (by decide) rfl ?_
    refine x_aload_n (pc := 713) dL_law_713 5 rfl ?_
    refine l_callV (pc := 714) _ dL_law_714 (.inr rfl) (ct_thrown e7) lkL_158 rfl rfl rfl rfl (mem_dom0 (by decide) (by decide)) (Nat.le_of_ble_eq_true rfl) (by decide) rfl (by omega) (by omega) ?_
    refine x_iload (pc := 717) dL_law_717 1 rfl ?_
    refine x_icmp_eq (pc := 719) 724 dL_law_719 (by decide) (in_12 he) (in_12 he) (fun _ => ?_) (fun q => absurd rfl q)
    refine x_iload (pc := 724) dL_law_724 1 rfl ?_
    refine x_if_ne (pc := 726) 741 dL_law_726 (by decide) (in_12 he) (fun _ => ?_) (fun q => by exfalso; omega)
    refine x_goto (pc := 741) 2773 dL_law_741 (by decide) ?_
    exact x_lv [2, 3, 4, 5, 6, 7] rfl (x_widen (by omega) (by omega) kk)
theorem law_10 {G : GG} {m : Mem} {K : Nat} {c0 s0 : Nat} {i : Int} (h : IV m K) (hK : K ≤ 600) (hi : 0 ≤ i ∧ i + 5 ≤ (gV G 8 : Nat)) (hL : gV G 8 < 2147483648) (hc : c0 ≤ 400000) (hs : s0 ≤ 6000000) : LST G m K c0 s0 i 744 := by
  rcases pr_loan (G := G) h hK (inI_of (gSx G (i + 1).toNat)) (inI_of (gSx G (i + 2).toNat)) with ⟨R, r, c1, m2, hR, hr, hC, hM, e49, e7, hI⟩ | ⟨R, e, m2, hR, he, hC, hM, e7, hI⟩
  · refine ⟨m2, hI, fun res h' kk => ?_⟩
    unfold lvL at kk ⊢
    refine x_aload_n (pc := 744) dL_law_744 2 rfl ?_
    refine x_aload_n (pc := 745) dL_law_745 1 rfl ?_
    refine x_iload (pc := 746) dL_law_746 0 rfl ?_
    refine x_iconst (pc := 748) dL_law_748 ?_
    refine x_iadd (pc := 749) dL_law_749 ?_
    refine x_sld (pc := 750) (a := (i + 1).toNat) dL_law_750 (by omega) (by omega) hL ?_
    refine x_aload_n (pc := 751) dL_law_751 1 rfl ?_
    refine x_iload (pc := 752) dL_law_752 0 rfl ?_
    refine x_iconst (pc := 754) dL_law_754 ?_
    refine x_iadd (pc := 755) dL_law_755 ?_
    refine x_sld (pc := 756) (a := (i + 2).toNat) dL_law_756 (by omega) (by omega) hL ?_
    refine x_aload_n (pc := 757) dL_law_757 4 rfl ?_
    refine l_callW (pc := 758) _ dL_law_758 hC lsL_178 rfl (Nat.le_of_ble_eq_true rfl) (by decide) rfl (by omega) (by omega) ?_
    refine x_istore (pc := 761) (lv' := [(6, _), (5, _), (0, _), (1, _), (2, _), (3, _), (4, _)]) dL_law_761 (by decide) rfl ?_
    refine x_aload_n (pc := 763) dL_law_763 4 rfl ?_
    refine x_aload_n (pc := 764) dL_law_764 2 rfl ?_
    refine x_iload (pc := 765) dL_law_765 1 rfl ?_
    refine x_iconst (pc := 767) dL_law_767 ?_
    refine x_iadd (pc := 768) dL_law_768 ?_
    refine x_sld (pc := 769) (a := (i + 1).toNat) dL_law_769 (by omega) (by omega) hL ?_
    refine x_aload_n (pc := 770) dL_law_770 2 rfl ?_
    refine x_iload (pc := 771) dL_law_771 1 rfl ?_
    refine x_iconst (pc := 773) dL_law_773 ?_
    refine x_iadd (pc := 774) dL_law_774 ?_
    refine x_sld (pc := 775) (a := (i + 2).toNat) dL_law_775 (by omega) (by omega) hL ?_
    refine l_callV (pc := 776) _ dL_law_776 (.inl hR) hM lkL_180 rfl rfl rfl rfl (mem_dom0 (by decide) (by decide)) (Nat.le_of_ble_eq_true rfl) (by decide) rfl (by omega) (by omega) ?_
    refine x_istore (pc := 779) (lv' := [(7, _), (6, _), (5, _), (0, _), (1, _), (2, _), (3, _), (4, _)]) dL_law_779 (by decide) rfl ?_
    refine x_aload_n (pc := 781) dL_law_781 5 rfl ?_
    refine l_callV (pc := 782) _ dL_law_782 (.inr rfl) (ct_thrown e7) lkL_158 rfl rfl rfl rfl (mem_dom0 (by decide) (by decide)) (Nat.le_of_ble_eq_true rfl) (by decide) rfl (by omega) (by omega) ?_
    refine x_iload (pc := 785) dL_law_785 1 rfl ?_
    refine x_icmp_eq (pc := 787) 792 dL_law_787 (by decide) in_01 in_01 (fun _ => ?_) (fun q => absurd rfl q)
    refine x_iload (pc := 792) dL_law_792 1 rfl ?_
    refine x_if_ne (pc := 794) 809 dL_law_794 (by decide) in_01 (fun q => absurd rfl q) (fun _ => ?_)
    refine x_aload_n (pc := 797) dL_law_797 6 rfl ?_
    refine x_iconst (pc := 798) dL_law_798 ?_
    refine y_lald (pc := 799) dL_law_799 rfl (by decide) ⟨by decide, by decide⟩ ?_
    rw [e49]
    refine x_iload (pc := 800) dL_law_800 0 rfl ?_
    refine x_i2l (pc := 802) dL_law_802 hr ?_
    refine x_lcmp (pc := 803) dL_law_803 (in_IL hr) (in_IL hr) ?_
    refine x_if_eq (pc := 804) 809 dL_law_804 (by decide) in_ae (fun _ => ?_) (fun q => absurd (ae_0 r) q)
    refine x_goto (pc := 809) 2773 dL_law_809 (by decide) ?_
    exact x_lv [2, 3, 4, 5, 6, 7] rfl (x_widen (by omega) (by omega) kk)
  · refine ⟨m2, hI, fun res h' kk => ?_⟩
    unfold lvL at kk ⊢
    refine x_aload_n (pc := 744) dL_law_744 2 rfl ?_
    refine x_aload_n (pc := 745) dL_law_745 1 rfl ?_
    refine x_iload (pc := 746) dL_law_746 0 rfl ?_
    refine x_iconst (pc := 748) dL_law_748 ?_
    refine x_iadd (pc := 749) dL_law_749 ?_
    refine x_sld (pc := 750) (a := (i + 1).toNat) dL_law_750 (by omega) (by omega) hL ?_
    refine x_aload_n (pc := 751) dL_law_751 1 rfl ?_
    refine x_iload (pc := 752) dL_law_752 0 rfl ?_
    refine x_iconst (pc := 754) dL_law_754 ?_
    refine x_iadd (pc := 755) dL_law_755 ?_
    refine x_sld (pc := 756) (a := (i + 2).toNat) dL_law_756 (by omega) (by omega) hL ?_
    refine x_aload_n (pc := 757) dL_law_757 4 rfl ?_
    refine l_callE (pc := 758) _ dL_law_758 hC lsL_178 rfl (Nat.le_of_ble_eq_true rfl) (by decide) rfl (by omega) (by omega) ?_
    refine x_istore (pc := 761) (lv' := [(6, _), (5, _), (0, _), (1, _), (2, _), (3, _), (4, _)]) dL_law_761 (by decide) rfl ?_
    refine x_aload_n (pc := 763) dL_law_763 4 rfl ?_
    refine x_aload_n (pc := 764) dL_law_764 2 rfl ?_
    refine x_iload (pc := 765) dL_law_765 1 rfl ?_
    refine x_iconst (pc := 767) dL_law_767 ?_
    refine x_iadd (pc := 768) dL_law_768 ?_
    refine x_sld (pc := 769) (a := (i + 1).toNat) dL_law_769 (by omega) (by omega) hL ?_
    refine x_aload_n (pc := 770) dL_law_770 2 rfl ?_
    refine x_iload (pc := 771) dL_law_771 1 rfl ?_
    refine x_iconst (pc := 773) dL_law_773 ?_
    refine x_iadd (pc := 774) dL_law_774 ?_
    refine x_sld (pc := 775) (a := (i + 2).toNat) dL_law_775 (by omega) (by omega) hL ?_
    refine l_callV (pc := 776) _ dL_law_776 (.inl hR) hM lkL_180 rfl rfl rfl rfl (mem_dom0 (by decide) (by decide)) (Nat.le_of_ble_eq_true rfl) (by decide) rfl (by omega) (by omega) ?_
    refine x_istore (pc := 779) (lv' := [(7, _), (6, _), (5, _), (0, _), (1, _), (2, _), (3, _), (4, _)]) dL_law_779 (by decide) rfl ?_
    refine x_aload_n (pc := 781) dL_law_781 5 rfl ?_
    refine l_callV (pc := 782) _ dL_law_782 (.inr rfl) (ct_thrown e7) lkL_158 rfl rfl rfl rfl (mem_dom0 (by decide) (by decide)) (Nat.le_of_ble_eq_true rfl) (by decide) rfl (by omega) (by omega) ?_
    refine x_iload (pc := 785) dL_law_785 1 rfl ?_
    refine x_icmp_eq (pc := 787) 792 dL_law_787 (by decide) (in_12 he) (in_12 he) (fun _ => ?_) (fun q => absurd rfl q)
    refine x_iload (pc := 792) dL_law_792 1 rfl ?_
    refine x_if_ne (pc := 794) 809 dL_law_794 (by decide) (in_12 he) (fun _ => ?_) (fun q => by exfalso; omega)
    refine x_goto (pc := 809) 2773 dL_law_809 (by decide) ?_
    exact x_lv [2, 3, 4, 5, 6, 7] rfl (x_widen (by omega) (by omega) kk)
theorem law_12 {G : GG} {m : Mem} {K : Nat} {c0 s0 : Nat} {i : Int} (h : IV m K) (hK : K ≤ 600) (hi : 0 ≤ i ∧ i + 5 ≤ (gV G 8 : Nat)) (hL : gV G 8 < 2147483648) (hc : c0 ≤ 400000) (hs : s0 ≤ 6000000) : LST G m K c0 s0 i 825 := by
  rcases pr_total (G := G) h hK (inI_of (gSx G (i + 1).toNat)) with ⟨R, r, c1, m2, hR, hC, hM, e49, e7, hI⟩ | ⟨R, e, m2, hR, he, hC, hM, e7, hI⟩
  · refine ⟨m2, hI, fun res h' kk => ?_⟩
    unfold lvL at kk ⊢
    refine x_aload_n (pc := 825) dL_law_825 2 rfl ?_
    refine x_aload_n (pc := 826) dL_law_826 1 rfl ?_
    refine x_iload (pc := 827) dL_law_827 0 rfl ?_
    refine x_iconst (pc := 829) dL_law_829 ?_
    refine x_iadd (pc := 830) dL_law_830 ?_
    refine x_sld (pc := 831) (a := (i + 1).toNat) dL_law_831 (by omega) (by omega) hL ?_
    refine x_aload_n (pc := 832) dL_law_832 4 rfl ?_
    refine l_callW (pc := 833) _ dL_law_833 hC lsL_185 rfl (Nat.le_of_ble_eq_true rfl) (by decide) rfl (by omega) (by omega) ?_
    refine x_istore (pc := 836) (lv' := [(6, _), (5, _), (0, _), (1, _), (2, _), (3, _), (4, _)]) dL_law_836 (by decide) rfl ?_
    refine x_aload_n (pc := 838) dL_law_838 4 rfl ?_
    refine x_aload_n (pc := 839) dL_law_839 2 rfl ?_
    refine x_iload (pc := 840) dL_law_840 1 rfl ?_
    refine x_iconst (pc := 842) dL_law_842 ?_
    refine x_iadd (pc := 843) dL_law_843 ?_
    refine x_sld (pc := 844) (a := (i + 1).toNat) dL_law_844 (by omega) (by omega) hL ?_
    refine l_callV (pc := 845) _ dL_law_845 (.inl hR) hM lkL_187 rfl rfl rfl rfl (mem_dom0 (by decide) (by decide)) (Nat.le_of_ble_eq_true rfl) (by decide) rfl (by omega) (by omega) ?_
    refine x_lstore (pc := 848) (lv' := [(7, _), (6, _), (5, _), (0, _), (1, _), (2, _), (3, _), (4, _)]) dL_law_848 (by decide) rfl ?_
    refine x_aload_n (pc := 850) dL_law_850 5 rfl ?_
    refine l_callV (pc := 851) _ dL_law_851 (.inr rfl) (ct_thrown e7) lkL_158 rfl rfl rfl rfl (mem_dom0 (by decide) (by decide)) (Nat.le_of_ble_eq_true rfl) (by decide) rfl (by omega) (by omega) ?_
    refine x_iload (pc := 854) dL_law_854 1 rfl ?_
    refine x_icmp_eq (pc := 856) 861 dL_law_856 (by decide) in_01 in_01 (fun _ => ?_) (fun q => absurd rfl q)
    refine x_iload (pc := 861) dL_law_861 1 rfl ?_
    refine x_if_ne (pc := 863) 877 dL_law_863 (by decide) in_01 (fun q => absurd rfl q) (fun _ => ?_)
    refine x_aload_n (pc := 866) dL_law_866 6 rfl ?_
    refine x_iconst (pc := 867) dL_law_867 ?_
    refine y_lald (pc := 868) dL_law_868 rfl (by decide) ⟨by decide, by decide⟩ ?_
    rw [e49]
    refine x_lload (pc := 869) dL_law_869 0 rfl ?_
    refine x_lcmp2 (pc := 871) dL_law_871 ?_
    refine x_if_eq (pc := 872) 877 dL_law_872 (by decide) in_01 (fun _ => ?_) (fun q => absurd rfl q)
    refine x_goto (pc := 877) 2773 dL_law_877 (by decide) ?_
    exact x_lv [2, 3, 4, 5, 6, 7] rfl (x_widen (by omega) (by omega) kk)
  · refine ⟨m2, hI, fun res h' kk => ?_⟩
    unfold lvL at kk ⊢
    refine x_aload_n (pc := 825) dL_law_825 2 rfl ?_
    refine x_aload_n (pc := 826) dL_law_826 1 rfl ?_
    refine x_iload (pc := 827) dL_law_827 0 rfl ?_
    refine x_iconst (pc := 829) dL_law_829 ?_
    refine x_iadd (pc := 830) dL_law_830 ?_
    refine x_sld (pc := 831) (a := (i + 1).toNat) dL_law_831 (by omega) (by omega) hL ?_
    refine x_aload_n (pc := 832) dL_law_832 4 rfl ?_
    refine l_callE (pc := 833) _ dL_law_833 hC lsL_185 rfl (Nat.le_of_ble_eq_true rfl) (by decide) rfl (by omega) (by omega) ?_
    refine x_istore (pc := 836) (lv' := [(6, _), (5, _), (0, _), (1, _), (2, _), (3, _), (4, _)]) dL_law_836 (by decide) rfl ?_
    refine x_aload_n (pc := 838) dL_law_838 4 rfl ?_
    refine x_aload_n (pc := 839) dL_law_839 2 rfl ?_
    refine x_iload (pc := 840) dL_law_840 1 rfl ?_
    refine x_iconst (pc := 842) dL_law_842 ?_
    refine x_iadd (pc := 843) dL_law_843 ?_
    refine x_sld (pc := 844) (a := (i + 1).toNat) dL_law_844 (by omega) (by omega) hL ?_
    refine l_callV (pc := 845) _ dL_law_845 (.inl hR) hM lkL_187 rfl rfl rfl rfl (mem_dom0 (by decide) (by decide)) (Nat.le_of_ble_eq_true rfl) (by decide) rfl (by omega) (by omega) ?_
    refine x_lstore (pc := 848) (lv' := [(7, _), (6, _), (5, _), (0, _), (1, _), (2, _), (3, _), (4, _)]) dL_law_848 (by decide) rfl ?_
    refine x_aload_n (pc := 850) dL_law_850 5 rfl ?_
    refine l_callV (pc := 851) _ dL_law_851 (.inr rfl) (ct_thrown e7) lkL_158 rfl rfl rfl rfl (mem_dom0 (by decide) (by decide)) (Nat.le_of_ble_eq_true rfl) (by decide) rfl (by omega) (by omega) ?_
    refine x_iload (pc := 854) dL_law_854 1 rfl ?_
    refine x_icmp_eq (pc := 856) 861 dL_law_856 (by decide) (in_12 he) (in_12 he) (fun _ => ?_) (fun q => absurd rfl q)
    refine x_iload (pc := 861) dL_law_861 1 rfl ?_
    refine x_if_ne (pc := 863) 877 dL_law_863 (by decide) (in_12 he) (fun _ => ?_) (fun q => by exfalso; omega)
    refine x_goto (pc := 877) 2773 dL_law_877 (by decide) ?_
    exact x_lv [2, 3, 4, 5, 6, 7] rfl (x_widen (by omega) (by omega) kk)
theorem law_15 {G : GG} {m : Mem} {K : Nat} {c0 s0 : Nat} {i : Int} (h : IV m K) (hK : K ≤ 600) (hi : 0 ≤ i ∧ i + 5 ≤ (gV G 8 : Nat)) (hL : gV G 8 < 2147483648) (hc : c0 ≤ 400000) (hs : s0 ≤ 6000000) : LST G m K c0 s0 i 999 := by
  rcases pr_interest (G := G) h hK (inI_of (gSx G (i + 1).toNat)) (inI_of (gSx G (i + 2).toNat)) with ⟨R, r, c1, m2, hR, hr, hC, hM, e49, e7, hI⟩ | ⟨R, e, m2, hR, he, hC, hM, e7, hI⟩
  · refine ⟨m2, hI, fun res h' kk => ?_⟩
    unfold lvL at kk ⊢
    refine x_aload_n (pc := 999) dL_law_999 2 rfl ?_
    refine x_aload_n (pc := 1000) dL_law_1000 1 rfl ?_
    refine x_iload (pc := 1001) dL_law_1001 0 rfl ?_
    refine x_iconst (pc := 1003) dL_law_1003 ?_
    refine x_iadd (pc := 1004) dL_law_1004 ?_
    refine x_sld (pc := 1005) (a := (i + 1).toNat) dL_law_1005 (by omega) (by omega) hL ?_
    refine x_aload_n (pc := 1006) dL_law_1006 1 rfl ?_
    refine x_iload (pc := 1007) dL_law_1007 0 rfl ?_
    refine x_iconst (pc := 1009) dL_law_1009 ?_
    refine x_iadd (pc := 1010) dL_law_1010 ?_
    refine x_sld (pc := 1011) (a := (i + 2).toNat) dL_law_1011 (by omega) (by omega) hL ?_
    refine x_aload_n (pc := 1012) dL_law_1012 4 rfl ?_
    refine l_callW (pc := 1013) _ dL_law_1013 hC lsL_197 rfl (Nat.le_of_ble_eq_true rfl) (by decide) rfl (by omega) (by omega) ?_
    refine x_istore (pc := 1016) (lv' := [(6, _), (5, _), (0, _), (1, _), (2, _), (3, _), (4, _)]) dL_law_1016 (by decide) rfl ?_
    refine x_aload_n (pc := 1018) dL_law_1018 4 rfl ?_
    refine x_aload_n (pc := 1019) dL_law_1019 2 rfl ?_
    refine x_iload (pc := 1020) dL_law_1020 1 rfl ?_
    refine x_iconst (pc := 1022) dL_law_1022 ?_
    refine x_iadd (pc := 1023) dL_law_1023 ?_
    refine x_sld (pc := 1024) (a := (i + 1).toNat) dL_law_1024 (by omega) (by omega) hL ?_
    refine x_aload_n (pc := 1025) dL_law_1025 2 rfl ?_
    refine x_iload (pc := 1026) dL_law_1026 1 rfl ?_
    refine x_iconst (pc := 1028) dL_law_1028 ?_
    refine x_iadd (pc := 1029) dL_law_1029 ?_
    refine x_sld (pc := 1030) (a := (i + 2).toNat) dL_law_1030 (by omega) (by omega) hL ?_
    refine l_callV (pc := 1031) _ dL_law_1031 (.inl hR) hM lkL_199 rfl rfl rfl rfl (mem_dom0 (by decide) (by decide)) (Nat.le_of_ble_eq_true rfl) (by decide) rfl (by omega) (by omega) ?_
    refine x_istore (pc := 1034) (lv' := [(7, _), (6, _), (5, _), (0, _), (1, _), (2, _), (3, _), (4, _)]) dL_law_1034 (by decide) rfl ?_
    refine x_aload_n (pc := 1036) dL_law_1036 5 rfl ?_
    refine l_callV (pc := 1037) _ dL_law_1037 (.inr rfl) (ct_thrown e7) lkL_158 rfl rfl rfl rfl (mem_dom0 (by decide) (by decide)) (Nat.le_of_ble_eq_true rfl) (by decide) rfl (by omega) (by omega) ?_
    refine x_iload (pc := 1040) dL_law_1040 1 rfl ?_
    refine x_icmp_eq (pc := 1042) 1047 dL_law_1042 (by decide) in_01 in_01 (fun _ => ?_) (fun q => absurd rfl q)
    refine x_iload (pc := 1047) dL_law_1047 1 rfl ?_
    refine x_if_ne (pc := 1049) 1064 dL_law_1049 (by decide) in_01 (fun q => absurd rfl q) (fun _ => ?_)
    refine x_aload_n (pc := 1052) dL_law_1052 6 rfl ?_
    refine x_iconst (pc := 1053) dL_law_1053 ?_
    refine y_lald (pc := 1054) dL_law_1054 rfl (by decide) ⟨by decide, by decide⟩ ?_
    rw [e49]
    refine x_iload (pc := 1055) dL_law_1055 0 rfl ?_
    refine x_i2l (pc := 1057) dL_law_1057 hr ?_
    refine x_lcmp (pc := 1058) dL_law_1058 (in_IL hr) (in_IL hr) ?_
    refine x_if_eq (pc := 1059) 1064 dL_law_1059 (by decide) in_ae (fun _ => ?_) (fun q => absurd (ae_0 r) q)
    refine x_goto (pc := 1064) 2773 dL_law_1064 (by decide) ?_
    exact x_lv [2, 3, 4, 5, 6, 7] rfl (x_widen (by omega) (by omega) kk)
  · refine ⟨m2, hI, fun res h' kk => ?_⟩
    unfold lvL at kk ⊢
    refine x_aload_n (pc := 999) dL_law_999 2 rfl ?_
    refine x_aload_n (pc := 1000) dL_law_1000 1 rfl ?_
    refine x_iload (pc := 1001) dL_law_1001 0 rfl ?_
    refine x_iconst (pc := 1003) dL_law_1003 ?_
    refine x_iadd (pc := 1004) dL_law_1004 ?_
    refine x_sld (pc := 1005) (a := (i + 1).toNat) dL_law_1005 (by omega) (by omega) hL ?_
    refine x_aload_n (pc := 1006) dL_law_1006 1 rfl ?_
    refine x_iload (pc := 1007) dL_law_1007 0 rfl ?_
    refine x_iconst (pc := 1009) dL_law_1009 ?_
    refine x_iadd (pc := 1010) dL_law_1010 ?_
    refine x_sld (pc := 1011) (a := (i + 2).toNat) dL_law_1011 (by omega) (by omega) hL ?_
    refine x_aload_n (pc := 1012) dL_law_1012 4 rfl ?_
    refine l_callE (pc := 1013) _ dL_law_1013 hC lsL_197 rfl (Nat.le_of_ble_eq_true rfl) (by decide) rfl (by omega) (by omega) ?_
    refine x_istore (pc := 1016) (lv' := [(6, _), (5, _), (0, _), (1, _), (2, _), (3, _), (4, _)]) dL_law_1016 (by decide) rfl ?_
    refine x_aload_n (pc := 1018) dL_law_1018 4 rfl ?_
    refine x_aload_n (pc := 1019) dL_law_1019 2 rfl ?_
    refine x_iload (pc := 1020) dL_law_1020 1 rfl ?_
    refine x_iconst (pc := 1022) dL_law_1022 ?_
    refine x_iadd (pc := 1023) dL_law_1023 ?_
    refine x_sld (pc := 1024) (a := (i + 1).toNat) dL_law_1024 (by omega) (by omega) hL ?_
    refine x_aload_n (pc := 1025) dL_law_1025 2 rfl ?_
    refine x_iload (pc := 1026) dL_law_1026 1 rfl ?_
    refine x_iconst (pc := 1028) dL_law_1028 ?_
    refine x_iadd (pc := 1029) dL_law_1029 ?_
    refine x_sld (pc := 1030) (a := (i + 2).toNat) dL_law_1030 (by omega) (by omega) hL ?_
    refine l_callV (pc := 1031) _ dL_law_1031 (.inl hR) hM lkL_199 rfl rfl rfl rfl (mem_dom0 (by decide) (by decide)) (Nat.le_of_ble_eq_true rfl) (by decide) rfl (by omega) (by omega) ?_
    refine x_istore (pc := 1034) (lv' := [(7, _), (6, _), (5, _), (0, _), (1, _), (2, _), (3, _), (4, _)]) dL_law_1034 (by decide) rfl ?_
    refine x_aload_n (pc := 1036) dL_law_1036 5 rfl ?_
    refine l_callV (pc := 1037) _ dL_law_1037 (.inr rfl) (ct_thrown e7) lkL_158 rfl rfl rfl rfl (mem_dom0 (by decide) (by decide)) (Nat.le_of_ble_eq_true rfl) (by decide) rfl (by omega) (by omega) ?_
    refine x_iload (pc := 1040) dL_law_1040 1 rfl ?_
    refine x_icmp_eq (pc := 1042) 1047 dL_law_1042 (by decide) (in_12 he) (in_12 he) (fun _ => ?_) (fun q => absurd rfl q)
    refine x_iload (pc := 1047) dL_law_1047 1 rfl ?_
    refine x_if_ne (pc := 1049) 1064 dL_law_1049 (by decide) (in_12 he) (fun _ => ?_) (fun q => by exfalso; omega)
    refine x_goto (pc := 1064) 2773 dL_law_1064 (by decide) ?_
    exact x_lv [2, 3, 4, 5, 6, 7] rfl (x_widen (by omega) (by omega) kk)
theorem law_16 {G : GG} {m : Mem} {K : Nat} {c0 s0 : Nat} {i : Int} (h : IV m K) (hK : K ≤ 600) (hi : 0 ≤ i ∧ i + 5 ≤ (gV G 8 : Nat)) (hL : gV G 8 < 2147483648) (hc : c0 ≤ 400000) (hs : s0 ≤ 6000000) : LST G m K c0 s0 i 1067 := by
  rcases pr_hindrance (G := G) h hK (inI_of (gSx G (i + 1).toNat)) (inI_of (gSx G (i + 2).toNat)) with ⟨R, r, c1, m2, hR, hr, hC, hM, e49, e7, hI⟩ | ⟨R, e, m2, hR, he, hC, hM, e7, hI⟩
  · refine ⟨m2, hI, fun res h' kk => ?_⟩
    unfold lvL at kk ⊢
    refine x_aload_n (pc := 1067) dL_law_1067 2 rfl ?_
    refine x_aload_n (pc := 1068) dL_law_1068 1 rfl ?_
    refine x_iload (pc := 1069) dL_law_1069 0 rfl ?_
    refine x_iconst (pc := 1071) dL_law_1071 ?_
    refine x_iadd (pc := 1072) dL_law_1072 ?_
    refine x_sld (pc := 1073) (a := (i + 1).toNat) dL_law_1073 (by omega) (by omega) hL ?_
    refine x_aload_n (pc := 1074) dL_law_1074 1 rfl ?_
    refine x_iload (pc := 1075) dL_law_1075 0 rfl ?_
    refine x_iconst (pc := 1077) dL_law_1077 ?_
    refine x_iadd (pc := 1078) dL_law_1078 ?_
    refine x_sld (pc := 1079) (a := (i + 2).toNat) dL_law_1079 (by omega) (by omega) hL ?_
    refine x_aload_n (pc := 1080) dL_law_1080 4 rfl ?_
    refine l_callW (pc := 1081) _ dL_law_1081 hC lsL_200 rfl (Nat.le_of_ble_eq_true rfl) (by decide) rfl (by omega) (by omega) ?_
    refine x_istore (pc := 1084) (lv' := [(6, _), (5, _), (0, _), (1, _), (2, _), (3, _), (4, _)]) dL_law_1084 (by decide) rfl ?_
    refine x_aload_n (pc := 1086) dL_law_1086 4 rfl ?_
    refine x_aload_n (pc := 1087) dL_law_1087 2 rfl ?_
    refine x_iload (pc := 1088) dL_law_1088 1 rfl ?_
    refine x_iconst (pc := 1090) dL_law_1090 ?_
    refine x_iadd (pc := 1091) dL_law_1091 ?_
    refine x_sld (pc := 1092) (a := (i + 1).toNat) dL_law_1092 (by omega) (by omega) hL ?_
    refine x_aload_n (pc := 1093) dL_law_1093 2 rfl ?_
    refine x_iload (pc := 1094) dL_law_1094 1 rfl ?_
    refine x_iconst (pc := 1096) dL_law_1096 ?_
    refine x_iadd (pc := 1097) dL_law_1097 ?_
    refine x_sld (pc := 1098) (a := (i + 2).toNat) dL_law_1098 (by omega) (by omega) hL ?_
    refine l_callV (pc := 1099) _ dL_law_1099 (.inl hR) hM lkL_202 rfl rfl rfl rfl (mem_dom0 (by decide) (by decide)) (Nat.le_of_ble_eq_true rfl) (by decide) rfl (by omega) (by omega) ?_
    refine x_istore (pc := 1102) (lv' := [(7, _), (6, _), (5, _), (0, _), (1, _), (2, _), (3, _), (4, _)]) dL_law_1102 (by decide) rfl ?_
    refine x_aload_n (pc := 1104) dL_law_1104 5 rfl ?_
    refine l_callV (pc := 1105) _ dL_law_1105 (.inr rfl) (ct_thrown e7) lkL_158 rfl rfl rfl rfl (mem_dom0 (by decide) (by decide)) (Nat.le_of_ble_eq_true rfl) (by decide) rfl (by omega) (by omega) ?_
    refine x_iload (pc := 1108) dL_law_1108 1 rfl ?_
    refine x_icmp_eq (pc := 1110) 1115 dL_law_1110 (by decide) in_01 in_01 (fun _ => ?_) (fun q => absurd rfl q)
    refine x_iload (pc := 1115) dL_law_1115 1 rfl ?_
    refine x_if_ne (pc := 1117) 1132 dL_law_1117 (by decide) in_01 (fun q => absurd rfl q) (fun _ => ?_)
    refine x_aload_n (pc := 1120) dL_law_1120 6 rfl ?_
    refine x_iconst (pc := 1121) dL_law_1121 ?_
    refine y_lald (pc := 1122) dL_law_1122 rfl (by decide) ⟨by decide, by decide⟩ ?_
    rw [e49]
    refine x_iload (pc := 1123) dL_law_1123 0 rfl ?_
    refine x_i2l (pc := 1125) dL_law_1125 hr ?_
    refine x_lcmp (pc := 1126) dL_law_1126 (in_IL hr) (in_IL hr) ?_
    refine x_if_eq (pc := 1127) 1132 dL_law_1127 (by decide) in_ae (fun _ => ?_) (fun q => absurd (ae_0 r) q)
    refine x_goto (pc := 1132) 2773 dL_law_1132 (by decide) ?_
    exact x_lv [2, 3, 4, 5, 6, 7] rfl (x_widen (by omega) (by omega) kk)
  · refine ⟨m2, hI, fun res h' kk => ?_⟩
    unfold lvL at kk ⊢
    refine x_aload_n (pc := 1067) dL_law_1067 2 rfl ?_
    refine x_aload_n (pc := 1068) dL_law_1068 1 rfl ?_
    refine x_iload (pc := 1069) dL_law_1069 0 rfl ?_
    refine x_iconst (pc := 1071) dL_law_1071 ?_
    refine x_iadd (pc := 1072) dL_law_1072 ?_
    refine x_sld (pc := 1073) (a := (i + 1).toNat) dL_law_1073 (by omega) (by omega) hL ?_
    refine x_aload_n (pc := 1074) dL_law_1074 1 rfl ?_
    refine x_iload (pc := 1075) dL_law_1075 0 rfl ?_
    refine x_iconst (pc := 1077) dL_law_1077 ?_
    refine x_iadd (pc := 1078) dL_law_1078 ?_
    refine x_sld (pc := 1079) (a := (i + 2).toNat) dL_law_1079 (by omega) (by omega) hL ?_
    refine x_aload_n (pc := 1080) dL_law_1080 4 rfl ?_
    refine l_callE (pc := 1081) _ dL_law_1081 hC lsL_200 rfl (Nat.le_of_ble_eq_true rfl) (by decide) rfl (by omega) (by omega) ?_
    refine x_istore (pc := 1084) (lv' := [(6, _), (5, _), (0, _), (1, _), (2, _), (3, _), (4, _)]) dL_law_1084 (by decide) rfl ?_
    refine x_aload_n (pc := 1086) dL_law_1086 4 rfl ?_
    refine x_aload_n (pc := 1087) dL_law_1087 2 rfl ?_
    refine x_iload (pc := 1088) dL_law_1088 1 rfl ?_
    refine x_iconst (pc := 1090) dL_law_1090 ?_
    refine x_iadd (pc := 1091) dL_law_1091 ?_
    refine x_sld (pc := 1092) (a := (i + 1).toNat) dL_law_1092 (by omega) (by omega) hL ?_
    refine x_aload_n (pc := 1093) dL_law_1093 2 rfl ?_
    refine x_iload (pc := 1094) dL_law_1094 1 rfl ?_
    refine x_iconst (pc := 1096) dL_law_1096 ?_
    refine x_iadd (pc := 1097) dL_law_1097 ?_
    refine x_sld (pc := 1098) (a := (i + 2).toNat) dL_law_1098 (by omega) (by omega) hL ?_
    refine l_callV (pc := 1099) _ dL_law_1099 (.inl hR) hM lkL_202 rfl rfl rfl rfl (mem_dom0 (by decide) (by decide)) (Nat.le_of_ble_eq_true rfl) (by decide) rfl (by omega) (by omega) ?_
    refine x_istore (pc := 1102) (lv' := [(7, _), (6, _), (5, _), (0, _), (1, _), (2, _), (3, _), (4, _)]) dL_law_1102 (by decide) rfl ?_
    refine x_aload_n (pc := 1104) dL_law_1104 5 rfl ?_
    refine l_callV (pc := 1105) _ dL_law_1105 (.inr rfl) (ct_thrown e7) lkL_158 rfl rfl rfl rfl (mem_dom0 (by decide) (by decide)) (Nat.le_of_ble_eq_true rfl) (by decide) rfl (by omega) (by omega) ?_
    refine x_iload (pc := 1108) dL_law_1108 1 rfl ?_
    refine x_icmp_eq (pc := 1110) 1115 dL_law_1110 (by decide) (in_12 he) (in_12 he) (fun _ => ?_) (fun q => absurd rfl q)
    refine x_iload (pc := 1115) dL_law_1115 1 rfl ?_
    refine x_if_ne (pc := 1117) 1132 dL_law_1117 (by decide) (in_12 he) (fun _ => ?_) (fun q => by exfalso; omega)
    refine x_goto (pc := 1132) 2773 dL_law_1132 (by decide) ?_
    exact x_lv [2, 3, 4, 5, 6, 7] rfl (x_widen (by omega) (by omega) kk)
theorem law_17 {G : GG} {m : Mem} {K : Nat} {c0 s0 : Nat} {i : Int} (h : IV m K) (hK : K ≤ 600) (hi : 0 ≤ i ∧ i + 5 ≤ (gV G 8 : Nat)) (hL : gV G 8 < 2147483648) (hc : c0 ≤ 400000) (hs : s0 ≤ 6000000) : LST G m K c0 s0 i 1135 := by
  rcases pr_cheapest (G := G) h hK (inI_of (gSx G (i + 1).toNat)) (inI_of (gSx G (i + 2).toNat)) with ⟨R, r, c1, m2, hR, hr, hC, hM, e49, e7, hI⟩ | ⟨R, e, m2, hR, he, hC, hM, e7, hI⟩
  · refine ⟨m2, hI, fun res h' kk => ?_⟩
    unfold lvL at kk ⊢
    refine x_aload_n (pc := 1135) dL_law_1135 2 rfl ?_
    refine x_aload_n (pc := 1136) dL_law_1136 1 rfl ?_
    refine x_iload (pc := 1137) dL_law_1137 0 rfl ?_
    refine x_iconst (pc := 1139) dL_law_1139 ?_
    refine x_iadd (pc := 1140) dL_law_1140 ?_
    refine x_sld (pc := 1141) (a := (i + 1).toNat) dL_law_1141 (by omega) (by omega) hL ?_
    refine x_aload_n (pc := 1142) dL_law_1142 1 rfl ?_
    refine x_iload (pc := 1143) dL_law_1143 0 rfl ?_
    refine x_iconst (pc := 1145) dL_law_1145 ?_
    refine x_iadd (pc := 1146) dL_law_1146 ?_
    refine x_sld (pc := 1147) (a := (i + 2).toNat) dL_law_1147 (by omega) (by omega) hL ?_
    refine x_aload_n (pc := 1148) dL_law_1148 4 rfl ?_
    refine l_callW (pc := 1149) _ dL_law_1149 hC lsL_203 rfl (Nat.le_of_ble_eq_true rfl) (by decide) rfl (by omega) (by omega) ?_
    refine x_istore (pc := 1152) (lv' := [(6, _), (5, _), (0, _), (1, _), (2, _), (3, _), (4, _)]) dL_law_1152 (by decide) rfl ?_
    refine x_aload_n (pc := 1154) dL_law_1154 4 rfl ?_
    refine x_aload_n (pc := 1155) dL_law_1155 2 rfl ?_
    refine x_iload (pc := 1156) dL_law_1156 1 rfl ?_
    refine x_iconst (pc := 1158) dL_law_1158 ?_
    refine x_iadd (pc := 1159) dL_law_1159 ?_
    refine x_sld (pc := 1160) (a := (i + 1).toNat) dL_law_1160 (by omega) (by omega) hL ?_
    refine x_aload_n (pc := 1161) dL_law_1161 2 rfl ?_
    refine x_iload (pc := 1162) dL_law_1162 1 rfl ?_
    refine x_iconst (pc := 1164) dL_law_1164 ?_
    refine x_iadd (pc := 1165) dL_law_1165 ?_
    refine x_sld (pc := 1166) (a := (i + 2).toNat) dL_law_1166 (by omega) (by omega) hL ?_
    refine l_callV (pc := 1167) _ dL_law_1167 (.inl hR) hM lkL_205 rfl rfl rfl rfl (mem_dom0 (by decide) (by decide)) (Nat.le_of_ble_eq_true rfl) (by decide) rfl (by omega) (by omega) ?_
    refine x_istore (pc := 1170) (lv' := [(7, _), (6, _), (5, _), (0, _), (1, _), (2, _), (3, _), (4, _)]) dL_law_1170 (by decide) rfl ?_
    refine x_aload_n (pc := 1172) dL_law_1172 5 rfl ?_
    refine l_callV (pc := 1173) _ dL_law_1173 (.inr rfl) (ct_thrown e7) lkL_158 rfl rfl rfl rfl (mem_dom0 (by decide) (by decide)) (Nat.le_of_ble_eq_true rfl) (by decide) rfl (by omega) (by omega) ?_
    refine x_iload (pc := 1176) dL_law_1176 1 rfl ?_
    refine x_icmp_eq (pc := 1178) 1183 dL_law_1178 (by decide) in_01 in_01 (fun _ => ?_) (fun q => absurd rfl q)
    refine x_iload (pc := 1183) dL_law_1183 1 rfl ?_
    refine x_if_ne (pc := 1185) 1200 dL_law_1185 (by decide) in_01 (fun q => absurd rfl q) (fun _ => ?_)
    refine x_aload_n (pc := 1188) dL_law_1188 6 rfl ?_
    refine x_iconst (pc := 1189) dL_law_1189 ?_
    refine y_lald (pc := 1190) dL_law_1190 rfl (by decide) ⟨by decide, by decide⟩ ?_
    rw [e49]
    refine x_iload (pc := 1191) dL_law_1191 0 rfl ?_
    refine x_i2l (pc := 1193) dL_law_1193 hr ?_
    refine x_lcmp (pc := 1194) dL_law_1194 (in_IL hr) (in_IL hr) ?_
    refine x_if_eq (pc := 1195) 1200 dL_law_1195 (by decide) in_ae (fun _ => ?_) (fun q => absurd (ae_0 r) q)
    refine x_goto (pc := 1200) 2773 dL_law_1200 (by decide) ?_
    exact x_lv [2, 3, 4, 5, 6, 7] rfl (x_widen (by omega) (by omega) kk)
  · refine ⟨m2, hI, fun res h' kk => ?_⟩
    unfold lvL at kk ⊢
    refine x_aload_n (pc := 1135) dL_law_1135 2 rfl ?_
    refine x_aload_n (pc := 1136) dL_law_1136 1 rfl ?_
    refine x_iload (pc := 1137) dL_law_1137 0 rfl ?_
    refine x_iconst (pc := 1139) dL_law_1139 ?_
    refine x_iadd (pc := 1140) dL_law_1140 ?_
    refine x_sld (pc := 1141) (a := (i + 1).toNat) dL_law_1141 (by omega) (by omega) hL ?_
    refine x_aload_n (pc := 1142) dL_law_1142 1 rfl ?_
    refine x_iload (pc := 1143) dL_law_1143 0 rfl ?_
    refine x_iconst (pc := 1145) dL_law_1145 ?_
    refine x_iadd (pc := 1146) dL_law_1146 ?_
    refine x_sld (pc := 1147) (a := (i + 2).toNat) dL_law_1147 (by omega) (by omega) hL ?_
    refine x_aload_n (pc := 1148) dL_law_1148 4 rfl ?_
    refine l_callE (pc := 1149) _ dL_law_1149 hC lsL_203 rfl (Nat.le_of_ble_eq_true rfl) (by decide) rfl (by omega) (by omega) ?_
    refine x_istore (pc := 1152) (lv' := [(6, _), (5, _), (0, _), (1, _), (2, _), (3, _), (4, _)]) dL_law_1152 (by decide) rfl ?_
    refine x_aload_n (pc := 1154) dL_law_1154 4 rfl ?_
    refine x_aload_n (pc := 1155) dL_law_1155 2 rfl ?_
    refine x_iload (pc := 1156) dL_law_1156 1 rfl ?_
    refine x_iconst (pc := 1158) dL_law_1158 ?_
    refine x_iadd (pc := 1159) dL_law_1159 ?_
    refine x_sld (pc := 1160) (a := (i + 1).toNat) dL_law_1160 (by omega) (by omega) hL ?_
    refine x_aload_n (pc := 1161) dL_law_1161 2 rfl ?_
    refine x_iload (pc := 1162) dL_law_1162 1 rfl ?_
    refine x_iconst (pc := 1164) dL_law_1164 ?_
    refine x_iadd (pc := 1165) dL_law_1165 ?_
    refine x_sld (pc := 1166) (a := (i + 2).toNat) dL_law_1166 (by omega) (by omega) hL ?_
    refine l_callV (pc := 1167) _ dL_law_1167 (.inl hR) hM lkL_205 rfl rfl rfl rfl (mem_dom0 (by decide) (by decide)) (Nat.le_of_ble_eq_true rfl) (by decide) rfl (by omega) (by omega) ?_
    refine x_istore (pc := 1170) (lv' := [(7, _), (6, _), (5, _), (0, _), (1, _), (2, _), (3, _), (4, _)]) dL_law_1170 (by decide) rfl ?_
    refine x_aload_n (pc := 1172) dL_law_1172 5 rfl ?_
    refine l_callV (pc := 1173) _ dL_law_1173 (.inr rfl) (ct_thrown e7) lkL_158 rfl rfl rfl rfl (mem_dom0 (by decide) (by decide)) (Nat.le_of_ble_eq_true rfl) (by decide) rfl (by omega) (by omega) ?_
    refine x_iload (pc := 1176) dL_law_1176 1 rfl ?_
    refine x_icmp_eq (pc := 1178) 1183 dL_law_1178 (by decide) (in_12 he) (in_12 he) (fun _ => ?_) (fun q => absurd rfl q)
    refine x_iload (pc := 1183) dL_law_1183 1 rfl ?_
    refine x_if_ne (pc := 1185) 1200 dL_law_1185 (by decide) (in_12 he) (fun _ => ?_) (fun q => by exfalso; omega)
    refine x_goto (pc := 1200) 2773 dL_law_1200 (by decide) ?_
    exact x_lv [2, 3, 4, 5, 6, 7] rfl (x_widen (by omega) (by omega) kk)
theorem law_18 {G : GG} {m : Mem} {K : Nat} {c0 s0 : Nat} {i : Int} (h : IV m K) (hK : K ≤ 600) (hi : 0 ≤ i ∧ i + 5 ≤ (gV G 8 : Nat)) (hL : gV G 8 < 2147483648) (hc : c0 ≤ 400000) (hs : s0 ≤ 6000000) : LST G m K c0 s0 i 1203 := by
  rcases pr_lend (G := G) h hK (inI_of (gSx G (i + 1).toNat)) (inI_of (gSx G (i + 2).toNat)) (inI_of (gSx G (i + 3).toNat)) with ⟨R, r, c1, m2, hR, hr, hC, hM, e49, e7, hI⟩ | ⟨R, e, m2, hR, he, hC, hM, e7, hI⟩
  · refine ⟨m2, hI, fun res h' kk => ?_⟩
    unfold lvL at kk ⊢
    refine x_aload_n (pc := 1203) dL_law_1203 2 rfl ?_
    refine x_aload_n (pc := 1204) dL_law_1204 1 rfl ?_
    refine x_iload (pc := 1205) dL_law_1205 0 rfl ?_
    refine x_iconst (pc := 1207) dL_law_1207 ?_
    refine x_iadd (pc := 1208) dL_law_1208 ?_
    refine x_sld (pc := 1209) (a := (i + 1).toNat) dL_law_1209 (by omega) (by omega) hL ?_
    refine x_aload_n (pc := 1210) dL_law_1210 1 rfl ?_
    refine x_iload (pc := 1211) dL_law_1211 0 rfl ?_
    refine x_iconst (pc := 1213) dL_law_1213 ?_
    refine x_iadd (pc := 1214) dL_law_1214 ?_
    refine x_sld (pc := 1215) (a := (i + 2).toNat) dL_law_1215 (by omega) (by omega) hL ?_
    refine x_aload_n (pc := 1216) dL_law_1216 1 rfl ?_
    refine x_iload (pc := 1217) dL_law_1217 0 rfl ?_
    refine x_iconst (pc := 1219) dL_law_1219 ?_
    refine x_iadd (pc := 1220) dL_law_1220 ?_
    refine x_sld (pc := 1221) (a := (i + 3).toNat) dL_law_1221 (by omega) (by omega) hL ?_
    refine x_aload_n (pc := 1222) dL_law_1222 4 rfl ?_
    refine l_callW (pc := 1223) _ dL_law_1223 hC lsL_206 rfl (Nat.le_of_ble_eq_true rfl) (by decide) rfl (by omega) (by omega) ?_
    refine x_istore (pc := 1226) (lv' := [(6, _), (5, _), (0, _), (1, _), (2, _), (3, _), (4, _)]) dL_law_1226 (by decide) rfl ?_
    refine x_aload_n (pc := 1228) dL_law_1228 4 rfl ?_
    refine x_aload_n (pc := 1229) dL_law_1229 2 rfl ?_
    refine x_iload (pc := 1230) dL_law_1230 1 rfl ?_
    refine x_iconst (pc := 1232) dL_law_1232 ?_
    refine x_iadd (pc := 1233) dL_law_1233 ?_
    refine x_sld (pc := 1234) (a := (i + 1).toNat) dL_law_1234 (by omega) (by omega) hL ?_
    refine x_aload_n (pc := 1235) dL_law_1235 2 rfl ?_
    refine x_iload (pc := 1236) dL_law_1236 1 rfl ?_
    refine x_iconst (pc := 1238) dL_law_1238 ?_
    refine x_iadd (pc := 1239) dL_law_1239 ?_
    refine x_sld (pc := 1240) (a := (i + 2).toNat) dL_law_1240 (by omega) (by omega) hL ?_
    refine x_aload_n (pc := 1241) dL_law_1241 2 rfl ?_
    refine x_iload (pc := 1242) dL_law_1242 1 rfl ?_
    refine x_iconst (pc := 1244) dL_law_1244 ?_
    refine x_iadd (pc := 1245) dL_law_1245 ?_
    refine x_sld (pc := 1246) (a := (i + 3).toNat) dL_law_1246 (by omega) (by omega) hL ?_
    refine l_callV (pc := 1247) _ dL_law_1247 (.inl hR) hM lkL_208 rfl rfl rfl rfl (mem_dom0 (by decide) (by decide)) (Nat.le_of_ble_eq_true rfl) (by decide) rfl (by omega) (by omega) ?_
    refine x_istore (pc := 1250) (lv' := [(7, _), (6, _), (5, _), (0, _), (1, _), (2, _), (3, _), (4, _)]) dL_law_1250 (by decide) rfl ?_
    refine x_aload_n (pc := 1252) dL_law_1252 5 rfl ?_
    refine l_callV (pc := 1253) _ dL_law_1253 (.inr rfl) (ct_thrown e7) lkL_158 rfl rfl rfl rfl (mem_dom0 (by decide) (by decide)) (Nat.le_of_ble_eq_true rfl) (by decide) rfl (by omega) (by omega) ?_
    refine x_iload (pc := 1256) dL_law_1256 1 rfl ?_
    refine x_icmp_eq (pc := 1258) 1263 dL_law_1258 (by decide) in_01 in_01 (fun _ => ?_) (fun q => absurd rfl q)
    refine x_iload (pc := 1263) dL_law_1263 1 rfl ?_
    refine x_if_ne (pc := 1265) 1280 dL_law_1265 (by decide) in_01 (fun q => absurd rfl q) (fun _ => ?_)
    refine x_aload_n (pc := 1268) dL_law_1268 6 rfl ?_
    refine x_iconst (pc := 1269) dL_law_1269 ?_
    refine y_lald (pc := 1270) dL_law_1270 rfl (by decide) ⟨by decide, by decide⟩ ?_
    rw [e49]
    refine x_iload (pc := 1271) dL_law_1271 0 rfl ?_
    refine x_i2l (pc := 1273) dL_law_1273 hr ?_
    refine x_lcmp (pc := 1274) dL_law_1274 (in_IL hr) (in_IL hr) ?_
    refine x_if_eq (pc := 1275) 1280 dL_law_1275 (by decide) in_ae (fun _ => ?_) (fun q => absurd (ae_0 r) q)
    refine x_goto (pc := 1280) 2773 dL_law_1280 (by decide) ?_
    exact x_lv [2, 3, 4, 5, 6, 7] rfl (x_widen (by omega) (by omega) kk)
  · refine ⟨m2, hI, fun res h' kk => ?_⟩
    unfold lvL at kk ⊢
    refine x_aload_n (pc := 1203) dL_law_1203 2 rfl ?_
    refine x_aload_n (pc := 1204) dL_law_1204 1 rfl ?_
    refine x_iload (pc := 1205) dL_law_1205 0 rfl ?_
    refine x_iconst (pc := 1207) dL_law_1207 ?_
    refine x_iadd (pc := 1208) dL_law_1208 ?_
    refine x_sld (pc := 1209) (a := (i + 1).toNat) dL_law_1209 (by omega) (by omega) hL ?_
    refine x_aload_n (pc := 1210) dL_law_1210 1 rfl ?_
    refine x_iload (pc := 1211) dL_law_1211 0 rfl ?_
    refine x_iconst (pc := 1213) dL_law_1213 ?_
    refine x_iadd (pc := 1214) dL_law_1214 ?_
    refine x_sld (pc := 1215) (a := (i + 2).toNat) dL_law_1215 (by omega) (by omega) hL ?_
    refine x_aload_n (pc := 1216) dL_law_1216 1 rfl ?_
    refine x_iload (pc := 1217) dL_law_1217 0 rfl ?_
    refine x_iconst (pc := 1219) dL_law_1219 ?_
    refine x_iadd (pc := 1220) dL_law_1220 ?_
    refine x_sld (pc := 1221) (a := (i + 3).toNat) dL_law_1221 (by omega) (by omega) hL ?_
    refine x_aload_n (pc := 1222) dL_law_1222 4 rfl ?_
    refine l_callE (pc := 1223) _ dL_law_1223 hC lsL_206 rfl (Nat.le_of_ble_eq_true rfl) (by decide) rfl (by omega) (by omega) ?_
    refine x_istore (pc := 1226) (lv' := [(6, _), (5, _), (0, _), (1, _), (2, _), (3, _), (4, _)]) dL_law_1226 (by decide) rfl ?_
    refine x_aload_n (pc := 1228) dL_law_1228 4 rfl ?_
    refine x_aload_n (pc := 1229) dL_law_1229 2 rfl ?_
    refine x_iload (pc := 1230) dL_law_1230 1 rfl ?_
    refine x_iconst (pc := 1232) dL_law_1232 ?_
    refine x_iadd (pc := 1233) dL_law_1233 ?_
    refine x_sld (pc := 1234) (a := (i + 1).toNat) dL_law_1234 (by omega) (by omega) hL ?_
    refine x_aload_n (pc := 1235) dL_law_1235 2 rfl ?_
    refine x_iload (pc := 1236) dL_law_1236 1 rfl ?_
    refine x_iconst (pc := 1238) dL_law_1238 ?_
    refine x_iadd (pc := 1239) dL_law_1239 ?_
    refine x_sld (pc := 1240) (a := (i + 2).toNat) dL_law_1240 (by omega) (by omega) hL ?_
    refine x_aload_n (pc := 1241) dL_law_1241 2 rfl ?_
    refine x_iload (pc := 1242) dL_law_1242 1 rfl ?_
    refine x_iconst (pc := 1244) dL_law_1244 ?_
    refine x_iadd (pc := 1245) dL_law_1245 ?_
    refine x_sld (pc := 1246) (a := (i + 3).toNat) dL_law_1246 (by omega) (by omega) hL ?_
    refine l_callV (pc := 1247) _ dL_law_1247 (.inl hR) hM lkL_208 rfl rfl rfl rfl (mem_dom0 (by decide) (by decide)) (Nat.le_of_ble_eq_true rfl) (by decide) rfl (by omega) (by omega) ?_
    refine x_istore (pc := 1250) (lv' := [(7, _), (6, _), (5, _), (0, _), (1, _), (2, _), (3, _), (4, _)]) dL_law_1250 (by decide) rfl ?_
    refine x_aload_n (pc := 1252) dL_law_1252 5 rfl ?_
    refine l_callV (pc := 1253) _ dL_law_1253 (.inr rfl) (ct_thrown e7) lkL_158 rfl rfl rfl rfl (mem_dom0 (by decide) (by decide)) (Nat.le_of_ble_eq_true rfl) (by decide) rfl (by omega) (by omega) ?_
    refine x_iload (pc := 1256) dL_law_1256 1 rfl ?_
    refine x_icmp_eq (pc := 1258) 1263 dL_law_1258 (by decide) (in_12 he) (in_12 he) (fun _ => ?_) (fun q => absurd rfl q)
    refine x_iload (pc := 1263) dL_law_1263 1 rfl ?_
    refine x_if_ne (pc := 1265) 1280 dL_law_1265 (by decide) (in_12 he) (fun _ => ?_) (fun q => by exfalso; omega)
    refine x_goto (pc := 1280) 2773 dL_law_1280 (by decide) ?_
    exact x_lv [2, 3, 4, 5, 6, 7] rfl (x_widen (by omega) (by omega) kk)
theorem law_19 {G : GG} {m : Mem} {K : Nat} {c0 s0 : Nat} {i : Int} (h : IV m K) (hK : K ≤ 600) (hi : 0 ≤ i ∧ i + 5 ≤ (gV G 8 : Nat)) (hL : gV G 8 < 2147483648) (hc : c0 ≤ 400000) (hs : s0 ≤ 6000000) : LST G m K c0 s0 i 1283 := by
  rcases pr_recall (G := G) h hK (inI_of (gSx G (i + 1).toNat)) with ⟨R, r, c1, m2, hR, hr, hC, hM, e49, e7, hI⟩ | ⟨R, e, m2, hR, he, hC, hM, e7, hI⟩
  · refine ⟨m2, hI, fun res h' kk => ?_⟩
    unfold lvL at kk ⊢
    refine x_aload_n (pc := 1283) dL_law_1283 2 rfl ?_
    refine x_aload_n (pc := 1284) dL_law_1284 1 rfl ?_
    refine x_iload (pc := 1285) dL_law_1285 0 rfl ?_
    refine x_iconst (pc := 1287) dL_law_1287 ?_
    refine x_iadd (pc := 1288) dL_law_1288 ?_
    refine x_sld (pc := 1289) (a := (i + 1).toNat) dL_law_1289 (by omega) (by omega) hL ?_
    refine x_aload_n (pc := 1290) dL_law_1290 4 rfl ?_
    refine l_callW (pc := 1291) _ dL_law_1291 hC lsL_209 rfl (Nat.le_of_ble_eq_true rfl) (by decide) rfl (by omega) (by omega) ?_
    refine x_istore (pc := 1294) (lv' := [(6, _), (5, _), (0, _), (1, _), (2, _), (3, _), (4, _)]) dL_law_1294 (by decide) rfl ?_
    refine x_aload_n (pc := 1296) dL_law_1296 4 rfl ?_
    refine x_aload_n (pc := 1297) dL_law_1297 2 rfl ?_
    refine x_iload (pc := 1298) dL_law_1298 1 rfl ?_
    refine x_iconst (pc := 1300) dL_law_1300 ?_
    refine x_iadd (pc := 1301) dL_law_1301 ?_
    refine x_sld (pc := 1302) (a := (i + 1).toNat) dL_law_1302 (by omega) (by omega) hL ?_
    refine l_callV (pc := 1303) _ dL_law_1303 (.inl hR) hM lkL_211 rfl rfl rfl rfl (mem_dom0 (by decide) (by decide)) (Nat.le_of_ble_eq_true rfl) (by decide) rfl (by omega) (by omega) ?_
    refine x_istore (pc := 1306) (lv' := [(7, _), (6, _), (5, _), (0, _), (1, _), (2, _), (3, _), (4, _)]) dL_law_1306 (by decide) rfl ?_
    refine x_aload_n (pc := 1308) dL_law_1308 5 rfl ?_
    refine l_callV (pc := 1309) _ dL_law_1309 (.inr rfl) (ct_thrown e7) lkL_158 rfl rfl rfl rfl (mem_dom0 (by decide) (by decide)) (Nat.le_of_ble_eq_true rfl) (by decide) rfl (by omega) (by omega) ?_
    refine x_iload (pc := 1312) dL_law_1312 1 rfl ?_
    refine x_icmp_eq (pc := 1314) 1319 dL_law_1314 (by decide) in_01 in_01 (fun _ => ?_) (fun q => absurd rfl q)
    refine x_iload (pc := 1319) dL_law_1319 1 rfl ?_
    refine x_if_ne (pc := 1321) 1336 dL_law_1321 (by decide) in_01 (fun q => absurd rfl q) (fun _ => ?_)
    refine x_aload_n (pc := 1324) dL_law_1324 6 rfl ?_
    refine x_iconst (pc := 1325) dL_law_1325 ?_
    refine y_lald (pc := 1326) dL_law_1326 rfl (by decide) ⟨by decide, by decide⟩ ?_
    rw [e49]
    refine x_iload (pc := 1327) dL_law_1327 0 rfl ?_
    refine x_i2l (pc := 1329) dL_law_1329 hr ?_
    refine x_lcmp (pc := 1330) dL_law_1330 (in_IL hr) (in_IL hr) ?_
    refine x_if_eq (pc := 1331) 1336 dL_law_1331 (by decide) in_ae (fun _ => ?_) (fun q => absurd (ae_0 r) q)
    refine x_goto (pc := 1336) 2773 dL_law_1336 (by decide) ?_
    exact x_lv [2, 3, 4, 5, 6, 7] rfl (x_widen (by omega) (by omega) kk)
  · refine ⟨m2, hI, fun res h' kk => ?_⟩
    unfold lvL at kk ⊢
    refine x_aload_n (pc := 1283) dL_law_1283 2 rfl ?_
    refine x_aload_n (pc := 1284) dL_law_1284 1 rfl ?_
    refine x_iload (pc := 1285) dL_law_1285 0 rfl ?_
    refine x_iconst (pc := 1287) dL_law_1287 ?_
    refine x_iadd (pc := 1288) dL_law_1288 ?_
    refine x_sld (pc := 1289) (a := (i + 1).toNat) dL_law_1289 (by omega) (by omega) hL ?_
    refine x_aload_n (pc := 1290) dL_law_1290 4 rfl ?_
    refine l_callE (pc := 1291) _ dL_law_1291 hC lsL_209 rfl (Nat.le_of_ble_eq_true rfl) (by decide) rfl (by omega) (by omega) ?_
    refine x_istore (pc := 1294) (lv' := [(6, _), (5, _), (0, _), (1, _), (2, _), (3, _), (4, _)]) dL_law_1294 (by decide) rfl ?_
    refine x_aload_n (pc := 1296) dL_law_1296 4 rfl ?_
    refine x_aload_n (pc := 1297) dL_law_1297 2 rfl ?_
    refine x_iload (pc := 1298) dL_law_1298 1 rfl ?_
    refine x_iconst (pc := 1300) dL_law_1300 ?_
    refine x_iadd (pc := 1301) dL_law_1301 ?_
    refine x_sld (pc := 1302) (a := (i + 1).toNat) dL_law_1302 (by omega) (by omega) hL ?_
    refine l_callV (pc := 1303) _ dL_law_1303 (.inl hR) hM lkL_211 rfl rfl rfl rfl (mem_dom0 (by decide) (by decide)) (Nat.le_of_ble_eq_true rfl) (by decide) rfl (by omega) (by omega) ?_
    refine x_istore (pc := 1306) (lv' := [(7, _), (6, _), (5, _), (0, _), (1, _), (2, _), (3, _), (4, _)]) dL_law_1306 (by decide) rfl ?_
    refine x_aload_n (pc := 1308) dL_law_1308 5 rfl ?_
    refine l_callV (pc := 1309) _ dL_law_1309 (.inr rfl) (ct_thrown e7) lkL_158 rfl rfl rfl rfl (mem_dom0 (by decide) (by decide)) (Nat.le_of_ble_eq_true rfl) (by decide) rfl (by omega) (by omega) ?_
    refine x_iload (pc := 1312) dL_law_1312 1 rfl ?_
    refine x_icmp_eq (pc := 1314) 1319 dL_law_1314 (by decide) (in_12 he) (in_12 he) (fun _ => ?_) (fun q => absurd rfl q)
    refine x_iload (pc := 1319) dL_law_1319 1 rfl ?_
    refine x_if_ne (pc := 1321) 1336 dL_law_1321 (by decide) (in_12 he) (fun _ => ?_) (fun q => by exfalso; omega)
    refine x_goto (pc := 1336) 2773 dL_law_1336 (by decide) ?_
    exact x_lv [2, 3, 4, 5, 6, 7] rfl (x_widen (by omega) (by omega) kk)
theorem law_20 {G : GG} {m : Mem} {K : Nat} {c0 s0 : Nat} {i : Int} (h : IV m K) (hK : K ≤ 600) (hi : 0 ≤ i ∧ i + 5 ≤ (gV G 8 : Nat)) (hL : gV G 8 < 2147483648) (hc : c0 ≤ 400000) (hs : s0 ≤ 6000000) : LST G m K c0 s0 i 1339 := by
  rcases pr_giveBack (G := G) h hK (inI_of (gSx G (i + 1).toNat)) with ⟨R, r, c1, m2, hR, hr, hC, hM, e49, e7, hI⟩ | ⟨R, e, m2, hR, he, hC, hM, e7, hI⟩
  · refine ⟨m2, hI, fun res h' kk => ?_⟩
    unfold lvL at kk ⊢
    refine x_aload_n (pc := 1339) dL_law_1339 2 rfl ?_
    refine x_aload_n (pc := 1340) dL_law_1340 1 rfl ?_
    refine x_iload (pc := 1341) dL_law_1341 0 rfl ?_
    refine x_iconst (pc := 1343) dL_law_1343 ?_
    refine x_iadd (pc := 1344) dL_law_1344 ?_
    refine x_sld (pc := 1345) (a := (i + 1).toNat) dL_law_1345 (by omega) (by omega) hL ?_
    refine x_aload_n (pc := 1346) dL_law_1346 4 rfl ?_
    refine l_callW (pc := 1347) _ dL_law_1347 hC lsL_212 rfl (Nat.le_of_ble_eq_true rfl) (by decide) rfl (by omega) (by omega) ?_
    refine x_istore (pc := 1350) (lv' := [(6, _), (5, _), (0, _), (1, _), (2, _), (3, _), (4, _)]) dL_law_1350 (by decide) rfl ?_
    refine x_aload_n (pc := 1352) dL_law_1352 4 rfl ?_
    refine x_aload_n (pc := 1353) dL_law_1353 2 rfl ?_
    refine x_iload (pc := 1354) dL_law_1354 1 rfl ?_
    refine x_iconst (pc := 1356) dL_law_1356 ?_
    refine x_iadd (pc := 1357) dL_law_1357 ?_
    refine x_sld (pc := 1358) (a := (i + 1).toNat) dL_law_1358 (by omega) (by omega) hL ?_
    refine l_callV (pc := 1359) _ dL_law_1359 (.inl hR) hM lkL_214 rfl rfl rfl rfl (mem_dom0 (by decide) (by decide)) (Nat.le_of_ble_eq_true rfl) (by decide) rfl (by omega) (by omega) ?_
    refine x_istore (pc := 1362) (lv' := [(7, _), (6, _), (5, _), (0, _), (1, _), (2, _), (3, _), (4, _)]) dL_law_1362 (by decide) rfl ?_
    refine x_aload_n (pc := 1364) dL_law_1364 5 rfl ?_
    refine l_callV (pc := 1365) _ dL_law_1365 (.inr rfl) (ct_thrown e7) lkL_158 rfl rfl rfl rfl (mem_dom0 (by decide) (by decide)) (Nat.le_of_ble_eq_true rfl) (by decide) rfl (by omega) (by omega) ?_
    refine x_iload (pc := 1368) dL_law_1368 1 rfl ?_
    refine x_icmp_eq (pc := 1370) 1375 dL_law_1370 (by decide) in_01 in_01 (fun _ => ?_) (fun q => absurd rfl q)
    refine x_iload (pc := 1375) dL_law_1375 1 rfl ?_
    refine x_if_ne (pc := 1377) 1392 dL_law_1377 (by decide) in_01 (fun q => absurd rfl q) (fun _ => ?_)
    refine x_aload_n (pc := 1380) dL_law_1380 6 rfl ?_
    refine x_iconst (pc := 1381) dL_law_1381 ?_
    refine y_lald (pc := 1382) dL_law_1382 rfl (by decide) ⟨by decide, by decide⟩ ?_
    rw [e49]
    refine x_iload (pc := 1383) dL_law_1383 0 rfl ?_
    refine x_i2l (pc := 1385) dL_law_1385 hr ?_
    refine x_lcmp (pc := 1386) dL_law_1386 (in_IL hr) (in_IL hr) ?_
    refine x_if_eq (pc := 1387) 1392 dL_law_1387 (by decide) in_ae (fun _ => ?_) (fun q => absurd (ae_0 r) q)
    refine x_goto (pc := 1392) 2773 dL_law_1392 (by decide) ?_
    exact x_lv [2, 3, 4, 5, 6, 7] rfl (x_widen (by omega) (by omega) kk)
  · refine ⟨m2, hI, fun res h' kk => ?_⟩
    unfold lvL at kk ⊢
    refine x_aload_n (pc := 1339) dL_law_1339 2 rfl ?_
    refine x_aload_n (pc := 1340) dL_law_1340 1 rfl ?_
    refine x_iload (pc := 1341) dL_law_1341 0 rfl ?_
    refine x_iconst (pc := 1343) dL_law_1343 ?_
    refine x_iadd (pc := 1344) dL_law_1344 ?_
    refine x_sld (pc := 1345) (a := (i + 1).toNat) dL_law_1345 (by omega) (by omega) hL ?_
    refine x_aload_n (pc := 1346) dL_law_1346 4 rfl ?_
    refine l_callE (pc := 1347) _ dL_law_1347 hC lsL_212 rfl (Nat.le_of_ble_eq_true rfl) (by decide) rfl (by omega) (by omega) ?_
    refine x_istore (pc := 1350) (lv' := [(6, _), (5, _), (0, _), (1, _), (2, _), (3, _), (4, _)]) dL_law_1350 (by decide) rfl ?_
    refine x_aload_n (pc := 1352) dL_law_1352 4 rfl ?_
    refine x_aload_n (pc := 1353) dL_law_1353 2 rfl ?_
    refine x_iload (pc := 1354) dL_law_1354 1 rfl ?_
    refine x_iconst (pc := 1356) dL_law_1356 ?_
    refine x_iadd (pc := 1357) dL_law_1357 ?_
    refine x_sld (pc := 1358) (a := (i + 1).toNat) dL_law_1358 (by omega) (by omega) hL ?_
    refine l_callV (pc := 1359) _ dL_law_1359 (.inl hR) hM lkL_214 rfl rfl rfl rfl (mem_dom0 (by decide) (by decide)) (Nat.le_of_ble_eq_true rfl) (by decide) rfl (by omega) (by omega) ?_
    refine x_istore (pc := 1362) (lv' := [(7, _), (6, _), (5, _), (0, _), (1, _), (2, _), (3, _), (4, _)]) dL_law_1362 (by decide) rfl ?_
    refine x_aload_n (pc := 1364) dL_law_1364 5 rfl ?_
    refine l_callV (pc := 1365) _ dL_law_1365 (.inr rfl) (ct_thrown e7) lkL_158 rfl rfl rfl rfl (mem_dom0 (by decide) (by decide)) (Nat.le_of_ble_eq_true rfl) (by decide) rfl (by omega) (by omega) ?_
    refine x_iload (pc := 1368) dL_law_1368 1 rfl ?_
    refine x_icmp_eq (pc := 1370) 1375 dL_law_1370 (by decide) (in_12 he) (in_12 he) (fun _ => ?_) (fun q => absurd rfl q)
    refine x_iload (pc := 1375) dL_law_1375 1 rfl ?_
    refine x_if_ne (pc := 1377) 1392 dL_law_1377 (by decide) (in_12 he) (fun _ => ?_) (fun q => by exfalso; omega)
    refine x_goto (pc := 1392) 2773 dL_law_1392 (by decide) ?_
    exact x_lv [2, 3, 4, 5, 6, 7] rfl (x_widen (by omega) (by omega) kk)
theorem law_21 {G : GG} {m : Mem} {K : Nat} {c0 s0 : Nat} {i : Int} (h : IV m K) (hK : K ≤ 600) (hi : 0 ≤ i ∧ i + 5 ≤ (gV G 8 : Nat)) (hL : gV G 8 < 2147483648) (hc : c0 ≤ 400000) (hs : s0 ≤ 6000000) : LST G m K c0 s0 i 1395 := by
  rcases pr_forgive (G := G) h hK (inI_of (gSx G (i + 1).toNat)) with ⟨R, r, c1, m2, hR, hr, hC, hM, e49, e7, hI⟩ | ⟨R, e, m2, hR, he, hC, hM, e7, hI⟩
  · refine ⟨m2, hI, fun res h' kk => ?_⟩
    unfold lvL at kk ⊢
    refine x_aload_n (pc := 1395) dL_law_1395 2 rfl ?_
    refine x_aload_n (pc := 1396) dL_law_1396 1 rfl ?_
    refine x_iload (pc := 1397) dL_law_1397 0 rfl ?_
    refine x_iconst (pc := 1399) dL_law_1399 ?_
    refine x_iadd (pc := 1400) dL_law_1400 ?_
    refine x_sld (pc := 1401) (a := (i + 1).toNat) dL_law_1401 (by omega) (by omega) hL ?_
    refine x_aload_n (pc := 1402) dL_law_1402 4 rfl ?_
    refine l_callW (pc := 1403) _ dL_law_1403 hC lsL_215 rfl (Nat.le_of_ble_eq_true rfl) (by decide) rfl (by omega) (by omega) ?_
    refine x_istore (pc := 1406) (lv' := [(6, _), (5, _), (0, _), (1, _), (2, _), (3, _), (4, _)]) dL_law_1406 (by decide) rfl ?_
    refine x_aload_n (pc := 1408) dL_law_1408 4 rfl ?_
    refine x_aload_n (pc := 1409) dL_law_1409 2 rfl ?_
    refine x_iload (pc := 1410) dL_law_1410 1 rfl ?_
    refine x_iconst (pc := 1412) dL_law_1412 ?_
    refine x_iadd (pc := 1413) dL_law_1413 ?_
    refine x_sld (pc := 1414) (a := (i + 1).toNat) dL_law_1414 (by omega) (by omega) hL ?_
    refine l_callV (pc := 1415) _ dL_law_1415 (.inl hR) hM lkL_217 rfl rfl rfl rfl (mem_dom0 (by decide) (by decide)) (Nat.le_of_ble_eq_true rfl) (by decide) rfl (by omega) (by omega) ?_
    refine x_istore (pc := 1418) (lv' := [(7, _), (6, _), (5, _), (0, _), (1, _), (2, _), (3, _), (4, _)]) dL_law_1418 (by decide) rfl ?_
    refine x_aload_n (pc := 1420) dL_law_1420 5 rfl ?_
    refine l_callV (pc := 1421) _ dL_law_1421 (.inr rfl) (ct_thrown e7) lkL_158 rfl rfl rfl rfl (mem_dom0 (by decide) (by decide)) (Nat.le_of_ble_eq_true rfl) (by decide) rfl (by omega) (by omega) ?_
    refine x_iload (pc := 1424) dL_law_1424 1 rfl ?_
    refine x_icmp_eq (pc := 1426) 1431 dL_law_1426 (by decide) in_01 in_01 (fun _ => ?_) (fun q => absurd rfl q)
    refine x_iload (pc := 1431) dL_law_1431 1 rfl ?_
    refine x_if_ne (pc := 1433) 1448 dL_law_1433 (by decide) in_01 (fun q => absurd rfl q) (fun _ => ?_)
    refine x_aload_n (pc := 1436) dL_law_1436 6 rfl ?_
    refine x_iconst (pc := 1437) dL_law_1437 ?_
    refine y_lald (pc := 1438) dL_law_1438 rfl (by decide) ⟨by decide, by decide⟩ ?_
    rw [e49]
    refine x_iload (pc := 1439) dL_law_1439 0 rfl ?_
    refine x_i2l (pc := 1441) dL_law_1441 hr ?_
    refine x_lcmp (pc := 1442) dL_law_1442 (in_IL hr) (in_IL hr) ?_
    refine x_if_eq (pc := 1443) 1448 dL_law_1443 (by decide) in_ae (fun _ => ?_) (fun q => absurd (ae_0 r) q)
    refine x_goto (pc := 1448) 2773 dL_law_1448 (by decide) ?_
    exact x_lv [2, 3, 4, 5, 6, 7] rfl (x_widen (by omega) (by omega) kk)
  · refine ⟨m2, hI, fun res h' kk => ?_⟩
    unfold lvL at kk ⊢
    refine x_aload_n (pc := 1395) dL_law_1395 2 rfl ?_
    refine x_aload_n (pc := 1396) dL_law_1396 1 rfl ?_
    refine x_iload (pc := 1397) dL_law_1397 0 rfl ?_
    refine x_iconst (pc := 1399) dL_law_1399 ?_
    refine x_iadd (pc := 1400) dL_law_1400 ?_
    refine x_sld (pc := 1401) (a := (i + 1).toNat) dL_law_1401 (by omega) (by omega) hL ?_
    refine x_aload_n (pc := 1402) dL_law_1402 4 rfl ?_
    refine l_callE (pc := 1403) _ dL_law_1403 hC lsL_215 rfl (Nat.le_of_ble_eq_true rfl) (by decide) rfl (by omega) (by omega) ?_
    refine x_istore (pc := 1406) (lv' := [(6, _), (5, _), (0, _), (1, _), (2, _), (3, _), (4, _)]) dL_law_1406 (by decide) rfl ?_
    refine x_aload_n (pc := 1408) dL_law_1408 4 rfl ?_
    refine x_aload_n (pc := 1409) dL_law_1409 2 rfl ?_
    refine x_iload (pc := 1410) dL_law_1410 1 rfl ?_
    refine x_iconst (pc := 1412) dL_law_1412 ?_
    refine x_iadd (pc := 1413) dL_law_1413 ?_
    refine x_sld (pc := 1414) (a := (i + 1).toNat) dL_law_1414 (by omega) (by omega) hL ?_
    refine l_callV (pc := 1415) _ dL_law_1415 (.inl hR) hM lkL_217 rfl rfl rfl rfl (mem_dom0 (by decide) (by decide)) (Nat.le_of_ble_eq_true rfl) (by decide) rfl (by omega) (by omega) ?_
    refine x_istore (pc := 1418) (lv' := [(7, _), (6, _), (5, _), (0, _), (1, _), (2, _), (3, _), (4, _)]) dL_law_1418 (by decide) rfl ?_
    refine x_aload_n (pc := 1420) dL_law_1420 5 rfl ?_
    refine l_callV (pc := 1421) _ dL_law_1421 (.inr rfl) (ct_thrown e7) lkL_158 rfl rfl rfl rfl (mem_dom0 (by decide) (by decide)) (Nat.le_of_ble_eq_true rfl) (by decide) rfl (by omega) (by omega) ?_
    refine x_iload (pc := 1424) dL_law_1424 1 rfl ?_
    refine x_icmp_eq (pc := 1426) 1431 dL_law_1426 (by decide) (in_12 he) (in_12 he) (fun _ => ?_) (fun q => absurd rfl q)
    refine x_iload (pc := 1431) dL_law_1431 1 rfl ?_
    refine x_if_ne (pc := 1433) 1448 dL_law_1433 (by decide) (in_12 he) (fun _ => ?_) (fun q => by exfalso; omega)
    refine x_goto (pc := 1448) 2773 dL_law_1448 (by decide) ?_
    exact x_lv [2, 3, 4, 5, 6, 7] rfl (x_widen (by omega) (by omega) kk)
theorem law_22 {G : GG} {m : Mem} {K : Nat} {c0 s0 : Nat} {i : Int} (h : IV m K) (hK : K ≤ 600) (hi : 0 ≤ i ∧ i + 5 ≤ (gV G 8 : Nat)) (hL : gV G 8 < 2147483648) (hc : c0 ≤ 400000) (hs : s0 ≤ 6000000) : LST G m K c0 s0 i 1451 := by
  rcases pr_mend (G := G) h hK (inI_of (gSx G (i + 1).toNat)) with ⟨R, r, c1, m2, hR, hr, hC, hM, e49, e7, hI⟩ | ⟨R, e, m2, hR, he, hC, hM, e7, hI⟩
  · refine ⟨m2, hI, fun res h' kk => ?_⟩
    unfold lvL at kk ⊢
    refine x_aload_n (pc := 1451) dL_law_1451 2 rfl ?_
    refine x_aload_n (pc := 1452) dL_law_1452 1 rfl ?_
    refine x_iload (pc := 1453) dL_law_1453 0 rfl ?_
    refine x_iconst (pc := 1455) dL_law_1455 ?_
    refine x_iadd (pc := 1456) dL_law_1456 ?_
    refine x_sld (pc := 1457) (a := (i + 1).toNat) dL_law_1457 (by omega) (by omega) hL ?_
    refine x_aload_n (pc := 1458) dL_law_1458 4 rfl ?_
    refine l_callW (pc := 1459) _ dL_law_1459 hC lsL_218 rfl (Nat.le_of_ble_eq_true rfl) (by decide) rfl (by omega) (by omega) ?_
    refine x_istore (pc := 1462) (lv' := [(6, _), (5, _), (0, _), (1, _), (2, _), (3, _), (4, _)]) dL_law_1462 (by decide) rfl ?_
    refine x_aload_n (pc := 1464) dL_law_1464 4 rfl ?_
    refine x_aload_n (pc := 1465) dL_law_1465 2 rfl ?_
    refine x_iload (pc := 1466) dL_law_1466 1 rfl ?_
    refine x_iconst (pc := 1468) dL_law_1468 ?_
    refine x_iadd (pc := 1469) dL_law_1469 ?_
    refine x_sld (pc := 1470) (a := (i + 1).toNat) dL_law_1470 (by omega) (by omega) hL ?_
    refine l_callV (pc := 1471) _ dL_law_1471 (.inl hR) hM lkL_220 rfl rfl rfl rfl (mem_dom0 (by decide) (by decide)) (Nat.le_of_ble_eq_true rfl) (by decide) rfl (by omega) (by omega) ?_
    refine x_istore (pc := 1474) (lv' := [(7, _), (6, _), (5, _), (0, _), (1, _), (2, _), (3, _), (4, _)]) dL_law_1474 (by decide) rfl ?_
    refine x_aload_n (pc := 1476) dL_law_1476 5 rfl ?_
    refine l_callV (pc := 1477) _ dL_law_1477 (.inr rfl) (ct_thrown e7) lkL_158 rfl rfl rfl rfl (mem_dom0 (by decide) (by decide)) (Nat.le_of_ble_eq_true rfl) (by decide) rfl (by omega) (by omega) ?_
    refine x_iload (pc := 1480) dL_law_1480 1 rfl ?_
    refine x_icmp_eq (pc := 1482) 1487 dL_law_1482 (by decide) in_01 in_01 (fun _ => ?_) (fun q => absurd rfl q)
    refine x_iload (pc := 1487) dL_law_1487 1 rfl ?_
    refine x_if_ne (pc := 1489) 1504 dL_law_1489 (by decide) in_01 (fun q => absurd rfl q) (fun _ => ?_)
    refine x_aload_n (pc := 1492) dL_law_1492 6 rfl ?_
    refine x_iconst (pc := 1493) dL_law_1493 ?_
    refine y_lald (pc := 1494) dL_law_1494 rfl (by decide) ⟨by decide, by decide⟩ ?_
    rw [e49]
    refine x_iload (pc := 1495) dL_law_1495 0 rfl ?_
    refine x_i2l (pc := 1497) dL_law_1497 hr ?_
    refine x_lcmp (pc := 1498) dL_law_1498 (in_IL hr) (in_IL hr) ?_
    refine x_if_eq (pc := 1499) 1504 dL_law_1499 (by decide) in_ae (fun _ => ?_) (fun q => absurd (ae_0 r) q)
    refine x_goto (pc := 1504) 2773 dL_law_1504 (by decide) ?_
    exact x_lv [2, 3, 4, 5, 6, 7] rfl (x_widen (by omega) (by omega) kk)
  · refine ⟨m2, hI, fun res h' kk => ?_⟩
    unfold lvL at kk ⊢
    refine x_aload_n (pc := 1451) dL_law_1451 2 rfl ?_
    refine x_aload_n (pc := 1452) dL_law_1452 1 rfl ?_
    refine x_iload (pc := 1453) dL_law_1453 0 rfl ?_
    refine x_iconst (pc := 1455) dL_law_1455 ?_
    refine x_iadd (pc := 1456) dL_law_1456 ?_
    refine x_sld (pc := 1457) (a := (i + 1).toNat) dL_law_1457 (by omega) (by omega) hL ?_
    refine x_aload_n (pc := 1458) dL_law_1458 4 rfl ?_
    refine l_callE (pc := 1459) _ dL_law_1459 hC lsL_218 rfl (Nat.le_of_ble_eq_true rfl) (by decide) rfl (by omega) (by omega) ?_
    refine x_istore (pc := 1462) (lv' := [(6, _), (5, _), (0, _), (1, _), (2, _), (3, _), (4, _)]) dL_law_1462 (by decide) rfl ?_
    refine x_aload_n (pc := 1464) dL_law_1464 4 rfl ?_
    refine x_aload_n (pc := 1465) dL_law_1465 2 rfl ?_
    refine x_iload (pc := 1466) dL_law_1466 1 rfl ?_
    refine x_iconst (pc := 1468) dL_law_1468 ?_
    refine x_iadd (pc := 1469) dL_law_1469 ?_
    refine x_sld (pc := 1470) (a := (i + 1).toNat) dL_law_1470 (by omega) (by omega) hL ?_
    refine l_callV (pc := 1471) _ dL_law_1471 (.inl hR) hM lkL_220 rfl rfl rfl rfl (mem_dom0 (by decide) (by decide)) (Nat.le_of_ble_eq_true rfl) (by decide) rfl (by omega) (by omega) ?_
    refine x_istore (pc := 1474) (lv' := [(7, _), (6, _), (5, _), (0, _), (1, _), (2, _), (3, _), (4, _)]) dL_law_1474 (by decide) rfl ?_
    refine x_aload_n (pc := 1476) dL_law_1476 5 rfl ?_
    refine l_callV (pc := 1477) _ dL_law_1477 (.inr rfl) (ct_thrown e7) lkL_158 rfl rfl rfl rfl (mem_dom0 (by decide) (by decide)) (Nat.le_of_ble_eq_true rfl) (by decide) rfl (by omega) (by omega) ?_
    refine x_iload (pc := 1480) dL_law_1480 1 rfl ?_
    refine x_icmp_eq (pc := 1482) 1487 dL_law_1482 (by decide) (in_12 he) (in_12 he) (fun _ => ?_) (fun q => absurd rfl q)
    refine x_iload (pc := 1487) dL_law_1487 1 rfl ?_
    refine x_if_ne (pc := 1489) 1504 dL_law_1489 (by decide) (in_12 he) (fun _ => ?_) (fun q => by exfalso; omega)
    refine x_goto (pc := 1504) 2773 dL_law_1504 (by decide) ?_
    exact x_lv [2, 3, 4, 5, 6, 7] rfl (x_widen (by omega) (by omega) kk)
theorem law_23 {G : GG} {m : Mem} {K : Nat} {c0 s0 : Nat} {i : Int} (h : IV m K) (hK : K ≤ 600) (hi : 0 ≤ i ∧ i + 5 ≤ (gV G 8 : Nat)) (hL : gV G 8 < 2147483648) (hc : c0 ≤ 400000) (hs : s0 ≤ 6000000) : LST G m K c0 s0 i 1507 := by
  rcases pr_charge (G := G) h hK (inI_of (gSx G (i + 1).toNat)) (inI_of (gSx G (i + 2).toNat)) with ⟨R, r, c1, m2, hR, hr, hC, hM, e49, e7, hI⟩ | ⟨R, e, m2, hR, he, hC, hM, e7, hI⟩
  · refine ⟨m2, hI, fun res h' kk => ?_⟩
    unfold lvL at kk ⊢
    refine x_aload_n (pc := 1507) dL_law_1507 2 rfl ?_
    refine x_aload_n (pc := 1508) dL_law_1508 1 rfl ?_
    refine x_iload (pc := 1509) dL_law_1509 0 rfl ?_
    refine x_iconst (pc := 1511) dL_law_1511 ?_
    refine x_iadd (pc := 1512) dL_law_1512 ?_
    refine x_sld (pc := 1513) (a := (i + 1).toNat) dL_law_1513 (by omega) (by omega) hL ?_
    refine x_aload_n (pc := 1514) dL_law_1514 1 rfl ?_
    refine x_iload (pc := 1515) dL_law_1515 0 rfl ?_
    refine x_iconst (pc := 1517) dL_law_1517 ?_
    refine x_iadd (pc := 1518) dL_law_1518 ?_
    refine x_sld (pc := 1519) (a := (i + 2).toNat) dL_law_1519 (by omega) (by omega) hL ?_
    refine x_aload_n (pc := 1520) dL_law_1520 4 rfl ?_
    refine l_callW (pc := 1521) _ dL_law_1521 hC lsL_221 rfl (Nat.le_of_ble_eq_true rfl) (by decide) rfl (by omega) (by omega) ?_
    refine x_istore (pc := 1524) (lv' := [(6, _), (5, _), (0, _), (1, _), (2, _), (3, _), (4, _)]) dL_law_1524 (by decide) rfl ?_
    refine x_aload_n (pc := 1526) dL_law_1526 4 rfl ?_
    refine x_aload_n (pc := 1527) dL_law_1527 2 rfl ?_
    refine x_iload (pc := 1528) dL_law_1528 1 rfl ?_
    refine x_iconst (pc := 1530) dL_law_1530 ?_
    refine x_iadd (pc := 1531) dL_law_1531 ?_
    refine x_sld (pc := 1532) (a := (i + 1).toNat) dL_law_1532 (by omega) (by omega) hL ?_
    refine x_aload_n (pc := 1533) dL_law_1533 2 rfl ?_
    refine x_iload (pc := 1534) dL_law_1534 1 rfl ?_
    refine x_iconst (pc := 1536) dL_law_1536 ?_
    refine x_iadd (pc := 1537) dL_law_1537 ?_
    refine x_sld (pc := 1538) (a := (i + 2).toNat) dL_law_1538 (by omega) (by omega) hL ?_
    refine l_callV (pc := 1539) _ dL_law_1539 (.inl hR) hM lkL_223 rfl rfl rfl rfl (mem_dom0 (by decide) (by decide)) (Nat.le_of_ble_eq_true rfl) (by decide) rfl (by omega) (by omega) ?_
    refine x_istore (pc := 1542) (lv' := [(7, _), (6, _), (5, _), (0, _), (1, _), (2, _), (3, _), (4, _)]) dL_law_1542 (by decide) rfl ?_
    refine x_aload_n (pc := 1544) dL_law_1544 5 rfl ?_
    refine l_callV (pc := 1545) _ dL_law_1545 (.inr rfl) (ct_thrown e7) lkL_158 rfl rfl rfl rfl (mem_dom0 (by decide) (by decide)) (Nat.le_of_ble_eq_true rfl) (by decide) rfl (by omega) (by omega) ?_
    refine x_iload (pc := 1548) dL_law_1548 1 rfl ?_
    refine x_icmp_eq (pc := 1550) 1555 dL_law_1550 (by decide) in_01 in_01 (fun _ => ?_) (fun q => absurd rfl q)
    refine x_iload (pc := 1555) dL_law_1555 1 rfl ?_
    refine x_if_ne (pc := 1557) 1572 dL_law_1557 (by decide) in_01 (fun q => absurd rfl q) (fun _ => ?_)
    refine x_aload_n (pc := 1560) dL_law_1560 6 rfl ?_
    refine x_iconst (pc := 1561) dL_law_1561 ?_
    refine y_lald (pc := 1562) dL_law_1562 rfl (by decide) ⟨by decide, by decide⟩ ?_
    rw [e49]
    refine x_iload (pc := 1563) dL_law_1563 0 rfl ?_
    refine x_i2l (pc := 1565) dL_law_1565 hr ?_
    refine x_lcmp (pc := 1566) dL_law_1566 (in_IL hr) (in_IL hr) ?_
    refine x_if_eq (pc := 1567) 1572 dL_law_1567 (by decide) in_ae (fun _ => ?_) (fun q => absurd (ae_0 r) q)
    refine x_goto (pc := 1572) 2773 dL_law_1572 (by decide) ?_
    exact x_lv [2, 3, 4, 5, 6, 7] rfl (x_widen (by omega) (by omega) kk)
  · refine ⟨m2, hI, fun res h' kk => ?_⟩
    unfold lvL at kk ⊢
    refine x_aload_n (pc := 1507) dL_law_1507 2 rfl ?_
    refine x_aload_n (pc := 1508) dL_law_1508 1 rfl ?_
    refine x_iload (pc := 1509) dL_law_1509 0 rfl ?_
    refine x_iconst (pc := 1511) dL_law_1511 ?_
    refine x_iadd (pc := 1512) dL_law_1512 ?_
    refine x_sld (pc := 1513) (a := (i + 1).toNat) dL_law_1513 (by omega) (by omega) hL ?_
    refine x_aload_n (pc := 1514) dL_law_1514 1 rfl ?_
    refine x_iload (pc := 1515) dL_law_1515 0 rfl ?_
    refine x_iconst (pc := 1517) dL_law_1517 ?_
    refine x_iadd (pc := 1518) dL_law_1518 ?_
    refine x_sld (pc := 1519) (a := (i + 2).toNat) dL_law_1519 (by omega) (by omega) hL ?_
    refine x_aload_n (pc := 1520) dL_law_1520 4 rfl ?_
    refine l_callE (pc := 1521) _ dL_law_1521 hC lsL_221 rfl (Nat.le_of_ble_eq_true rfl) (by decide) rfl (by omega) (by omega) ?_
    refine x_istore (pc := 1524) (lv' := [(6, _), (5, _), (0, _), (1, _), (2, _), (3, _), (4, _)]) dL_law_1524 (by decide) rfl ?_
    refine x_aload_n (pc := 1526) dL_law_1526 4 rfl ?_
    refine x_aload_n (pc := 1527) dL_law_1527 2 rfl ?_
    refine x_iload (pc := 1528) dL_law_1528 1 rfl ?_
    refine x_iconst (pc := 1530) dL_law_1530 ?_
    refine x_iadd (pc := 1531) dL_law_1531 ?_
    refine x_sld (pc := 1532) (a := (i + 1).toNat) dL_law_1532 (by omega) (by omega) hL ?_
    refine x_aload_n (pc := 1533) dL_law_1533 2 rfl ?_
    refine x_iload (pc := 1534) dL_law_1534 1 rfl ?_
    refine x_iconst (pc := 1536) dL_law_1536 ?_
    refine x_iadd (pc := 1537) dL_law_1537 ?_
    refine x_sld (pc := 1538) (a := (i + 2).toNat) dL_law_1538 (by omega) (by omega) hL ?_
    refine l_callV (pc := 1539) _ dL_law_1539 (.inl hR) hM lkL_223 rfl rfl rfl rfl (mem_dom0 (by decide) (by decide)) (Nat.le_of_ble_eq_true rfl) (by decide) rfl (by omega) (by omega) ?_
    refine x_istore (pc := 1542) (lv' := [(7, _), (6, _), (5, _), (0, _), (1, _), (2, _), (3, _), (4, _)]) dL_law_1542 (by decide) rfl ?_
    refine x_aload_n (pc := 1544) dL_law_1544 5 rfl ?_
    refine l_callV (pc := 1545) _ dL_law_1545 (.inr rfl) (ct_thrown e7) lkL_158 rfl rfl rfl rfl (mem_dom0 (by decide) (by decide)) (Nat.le_of_ble_eq_true rfl) (by decide) rfl (by omega) (by omega) ?_
    refine x_iload (pc := 1548) dL_law_1548 1 rfl ?_
    refine x_icmp_eq (pc := 1550) 1555 dL_law_1550 (by decide) (in_12 he) (in_12 he) (fun _ => ?_) (fun q => absurd rfl q)
    refine x_iload (pc := 1555) dL_law_1555 1 rfl ?_
    refine x_if_ne (pc := 1557) 1572 dL_law_1557 (by decide) (in_12 he) (fun _ => ?_) (fun q => by exfalso; omega)
    refine x_goto (pc := 1572) 2773 dL_law_1572 (by decide) ?_
    exact x_lv [2, 3, 4, 5, 6, 7] rfl (x_widen (by omega) (by omega) kk)
theorem law_24 {G : GG} {m : Mem} {K : Nat} {c0 s0 : Nat} {i : Int} (h : IV m K) (hK : K ≤ 600) (hi : 0 ≤ i ∧ i + 5 ≤ (gV G 8 : Nat)) (hL : gV G 8 < 2147483648) (hc : c0 ≤ 400000) (hs : s0 ≤ 6000000) : LST G m K c0 s0 i 1575 := by
  rcases pr_drain (G := G) h hK (inI_of (gSx G (i + 1).toNat)) (inI_of (gSx G (i + 2).toNat)) with ⟨R, r, c1, m2, hR, hr, hC, hM, e49, e7, hI⟩ | ⟨R, e, m2, hR, he, hC, hM, e7, hI⟩
  · refine ⟨m2, hI, fun res h' kk => ?_⟩
    unfold lvL at kk ⊢
    refine x_aload_n (pc := 1575) dL_law_1575 2 rfl ?_
    refine x_aload_n (pc := 1576) dL_law_1576 1 rfl ?_
    refine x_iload (pc := 1577) dL_law_1577 0 rfl ?_
    refine x_iconst (pc := 1579) dL_law_1579 ?_
    refine x_iadd (pc := 1580) dL_law_1580 ?_
    refine x_sld (pc := 1581) (a := (i + 1).toNat) dL_law_1581 (by omega) (by omega) hL ?_
    refine x_aload_n (pc := 1582) dL_law_1582 1 rfl ?_
    refine x_iload (pc := 1583) dL_law_1583 0 rfl ?_
    refine x_iconst (pc := 1585) dL_law_1585 ?_
    refine x_iadd (pc := 1586) dL_law_1586 ?_
    refine x_sld (pc := 1587) (a := (i + 2).toNat) dL_law_1587 (by omega) (by omega) hL ?_
    refine x_aload_n (pc := 1588) dL_law_1588 4 rfl ?_
    refine l_callW (pc := 1589) _ dL_law_1589 hC lsL_224 rfl (Nat.le_of_ble_eq_true rfl) (by decide) rfl (by omega) (by omega) ?_
    refine x_istore (pc := 1592) (lv' := [(6, _), (5, _), (0, _), (1, _), (2, _), (3, _), (4, _)]) dL_law_1592 (by decide) rfl ?_
    refine x_aload_n (pc := 1594) dL_law_1594 4 rfl ?_
    refine x_aload_n (pc := 1595) dL_law_1595 2 rfl ?_
    refine x_iload (pc := 1596) dL_law_1596 1 rfl ?_
    refine x_iconst (pc := 1598) dL_law_1598 ?_
    refine x_iadd (pc := 1599) dL_law_1599 ?_
    refine x_sld (pc := 1600) (a := (i + 1).toNat) dL_law_1600 (by omega) (by omega) hL ?_
    refine x_aload_n (pc := 1601) dL_law_1601 2 rfl ?_
    refine x_iload (pc := 1602) dL_law_1602 1 rfl ?_
    refine x_iconst (pc := 1604) dL_law_1604 ?_
    refine x_iadd (pc := 1605) dL_law_1605 ?_
    refine x_sld (pc := 1606) (a := (i + 2).toNat) dL_law_1606 (by omega) (by omega) hL ?_
    refine l_callV (pc := 1607) _ dL_law_1607 (.inl hR) hM lkL_226 rfl rfl rfl rfl (mem_dom0 (by decide) (by decide)) (Nat.le_of_ble_eq_true rfl) (by decide) rfl (by omega) (by omega) ?_
    refine x_istore (pc := 1610) (lv' := [(7, _), (6, _), (5, _), (0, _), (1, _), (2, _), (3, _), (4, _)]) dL_law_1610 (by decide) rfl ?_
    refine x_aload_n (pc := 1612) dL_law_1612 5 rfl ?_
    refine l_callV (pc := 1613) _ dL_law_1613 (.inr rfl) (ct_thrown e7) lkL_158 rfl rfl rfl rfl (mem_dom0 (by decide) (by decide)) (Nat.le_of_ble_eq_true rfl) (by decide) rfl (by omega) (by omega) ?_
    refine x_iload (pc := 1616) dL_law_1616 1 rfl ?_
    refine x_icmp_eq (pc := 1618) 1623 dL_law_1618 (by decide) in_01 in_01 (fun _ => ?_) (fun q => absurd rfl q)
    refine x_iload (pc := 1623) dL_law_1623 1 rfl ?_
    refine x_if_ne (pc := 1625) 1640 dL_law_1625 (by decide) in_01 (fun q => absurd rfl q) (fun _ => ?_)
    refine x_aload_n (pc := 1628) dL_law_1628 6 rfl ?_
    refine x_iconst (pc := 1629) dL_law_1629 ?_
    refine y_lald (pc := 1630) dL_law_1630 rfl (by decide) ⟨by decide, by decide⟩ ?_
    rw [e49]
    refine x_iload (pc := 1631) dL_law_1631 0 rfl ?_
    refine x_i2l (pc := 1633) dL_law_1633 hr ?_
    refine x_lcmp (pc := 1634) dL_law_1634 (in_IL hr) (in_IL hr) ?_
    refine x_if_eq (pc := 1635) 1640 dL_law_1635 (by decide) in_ae (fun _ => ?_) (fun q => absurd (ae_0 r) q)
    refine x_goto (pc := 1640) 2773 dL_law_1640 (by decide) ?_
    exact x_lv [2, 3, 4, 5, 6, 7] rfl (x_widen (by omega) (by omega) kk)
  · refine ⟨m2, hI, fun res h' kk => ?_⟩
    unfold lvL at kk ⊢
    refine x_aload_n (pc := 1575) dL_law_1575 2 rfl ?_
    refine x_aload_n (pc := 1576) dL_law_1576 1 rfl ?_
    refine x_iload (pc := 1577) dL_law_1577 0 rfl ?_
    refine x_iconst (pc := 1579) dL_law_1579 ?_
    refine x_iadd (pc := 1580) dL_law_1580 ?_
    refine x_sld (pc := 1581) (a := (i + 1).toNat) dL_law_1581 (by omega) (by omega) hL ?_
    refine x_aload_n (pc := 1582) dL_law_1582 1 rfl ?_
    refine x_iload (pc := 1583) dL_law_1583 0 rfl ?_
    refine x_iconst (pc := 1585) dL_law_1585 ?_
    refine x_iadd (pc := 1586) dL_law_1586 ?_
    refine x_sld (pc := 1587) (a := (i + 2).toNat) dL_law_1587 (by omega) (by omega) hL ?_
    refine x_aload_n (pc := 1588) dL_law_1588 4 rfl ?_
    refine l_callE (pc := 1589) _ dL_law_1589 hC lsL_224 rfl (Nat.le_of_ble_eq_true rfl) (by decide) rfl (by omega) (by omega) ?_
    refine x_istore (pc := 1592) (lv' := [(6, _), (5, _), (0, _), (1, _), (2, _), (3, _), (4, _)]) dL_law_1592 (by decide) rfl ?_
    refine x_aload_n (pc := 1594) dL_law_1594 4 rfl ?_
    refine x_aload_n (pc := 1595) dL_law_1595 2 rfl ?_
    refine x_iload (pc := 1596) dL_law_1596 1 rfl ?_
    refine x_iconst (pc := 1598) dL_law_1598 ?_
    refine x_iadd (pc := 1599) dL_law_1599 ?_
    refine x_sld (pc := 1600) (a := (i + 1).toNat) dL_law_1600 (by omega) (by omega) hL ?_
    refine x_aload_n (pc := 1601) dL_law_1601 2 rfl ?_
    refine x_iload (pc := 1602) dL_law_1602 1 rfl ?_
    refine x_iconst (pc := 1604) dL_law_1604 ?_
    refine x_iadd (pc := 1605) dL_law_1605 ?_
    refine x_sld (pc := 1606) (a := (i + 2).toNat) dL_law_1606 (by omega) (by omega) hL ?_
    refine l_callV (pc := 1607) _ dL_law_1607 (.inl hR) hM lkL_226 rfl rfl rfl rfl (mem_dom0 (by decide) (by decide)) (Nat.le_of_ble_eq_true rfl) (by decide) rfl (by omega) (by omega) ?_
    refine x_istore (pc := 1610) (lv' := [(7, _), (6, _), (5, _), (0, _), (1, _), (2, _), (3, _), (4, _)]) dL_law_1610 (by decide) rfl ?_
    refine x_aload_n (pc := 1612) dL_law_1612 5 rfl ?_
    refine l_callV (pc := 1613) _ dL_law_1613 (.inr rfl) (ct_thrown e7) lkL_158 rfl rfl rfl rfl (mem_dom0 (by decide) (by decide)) (Nat.le_of_ble_eq_true rfl) (by decide) rfl (by omega) (by omega) ?_
    refine x_iload (pc := 1616) dL_law_1616 1 rfl ?_
    refine x_icmp_eq (pc := 1618) 1623 dL_law_1618 (by decide) (in_12 he) (in_12 he) (fun _ => ?_) (fun q => absurd rfl q)
    refine x_iload (pc := 1623) dL_law_1623 1 rfl ?_
    refine x_if_ne (pc := 1625) 1640 dL_law_1625 (by decide) (in_12 he) (fun _ => ?_) (fun q => by exfalso; omega)
    refine x_goto (pc := 1640) 2773 dL_law_1640 (by decide) ?_
    exact x_lv [2, 3, 4, 5, 6, 7] rfl (x_widen (by omega) (by omega) kk)
theorem law_25 {G : GG} {m : Mem} {K : Nat} {c0 s0 : Nat} {i : Int} (h : IV m K) (hK : K ≤ 600) (hi : 0 ≤ i ∧ i + 5 ≤ (gV G 8 : Nat)) (hL : gV G 8 < 2147483648) (hc : c0 ≤ 400000) (hs : s0 ≤ 6000000) : LST G m K c0 s0 i 1643 := by
  rcases pr_setReserve (G := G) h hK (inI_of (gSx G (i + 1).toNat)) (inI_of (gSx G (i + 2).toNat)) with ⟨R, r, c1, m2, hR, hr, hC, hM, e49, e7, hI⟩ | ⟨R, e, m2, hR, he, hC, hM, e7, hI⟩
  · refine ⟨m2, hI, fun res h' kk => ?_⟩
    unfold lvL at kk ⊢
    refine x_aload_n (pc := 1643) dL_law_1643 2 rfl ?_
    refine x_aload_n (pc := 1644) dL_law_1644 1 rfl ?_
    refine x_iload (pc := 1645) dL_law_1645 0 rfl ?_
    refine x_iconst (pc := 1647) dL_law_1647 ?_
    refine x_iadd (pc := 1648) dL_law_1648 ?_
    refine x_sld (pc := 1649) (a := (i + 1).toNat) dL_law_1649 (by omega) (by omega) hL ?_
    refine x_aload_n (pc := 1650) dL_law_1650 1 rfl ?_
    refine x_iload (pc := 1651) dL_law_1651 0 rfl ?_
    refine x_iconst (pc := 1653) dL_law_1653 ?_
    refine x_iadd (pc := 1654) dL_law_1654 ?_
    refine x_sld (pc := 1655) (a := (i + 2).toNat) dL_law_1655 (by omega) (by omega) hL ?_
    refine x_aload_n (pc := 1656) dL_law_1656 4 rfl ?_
    refine l_callW (pc := 1657) _ dL_law_1657 hC lsL_227 rfl (Nat.le_of_ble_eq_true rfl) (by decide) rfl (by omega) (by omega) ?_
    refine x_istore (pc := 1660) (lv' := [(6, _), (5, _), (0, _), (1, _), (2, _), (3, _), (4, _)]) dL_law_1660 (by decide) rfl ?_
    refine x_aload_n (pc := 1662) dL_law_1662 4 rfl ?_
    refine x_aload_n (pc := 1663) dL_law_1663 2 rfl ?_
    refine x_iload (pc := 1664) dL_law_1664 1 rfl ?_
    refine x_iconst (pc := 1666) dL_law_1666 ?_
    refine x_iadd (pc := 1667) dL_law_1667 ?_
    refine x_sld (pc := 1668) (a := (i + 1).toNat) dL_law_1668 (by omega) (by omega) hL ?_
    refine x_aload_n (pc := 1669) dL_law_1669 2 rfl ?_
    refine x_iload (pc := 1670) dL_law_1670 1 rfl ?_
    refine x_iconst (pc := 1672) dL_law_1672 ?_
    refine x_iadd (pc := 1673) dL_law_1673 ?_
    refine x_sld (pc := 1674) (a := (i + 2).toNat) dL_law_1674 (by omega) (by omega) hL ?_
    refine l_callV (pc := 1675) _ dL_law_1675 (.inl hR) hM lkL_229 rfl rfl rfl rfl (mem_dom0 (by decide) (by decide)) (Nat.le_of_ble_eq_true rfl) (by decide) rfl (by omega) (by omega) ?_
    refine x_istore (pc := 1678) (lv' := [(7, _), (6, _), (5, _), (0, _), (1, _), (2, _), (3, _), (4, _)]) dL_law_1678 (by decide) rfl ?_
    refine x_aload_n (pc := 1680) dL_law_1680 5 rfl ?_
    refine l_callV (pc := 1681) _ dL_law_1681 (.inr rfl) (ct_thrown e7) lkL_158 rfl rfl rfl rfl (mem_dom0 (by decide) (by decide)) (Nat.le_of_ble_eq_true rfl) (by decide) rfl (by omega) (by omega) ?_
    refine x_iload (pc := 1684) dL_law_1684 1 rfl ?_
    refine x_icmp_eq (pc := 1686) 1691 dL_law_1686 (by decide) in_01 in_01 (fun _ => ?_) (fun q => absurd rfl q)
    refine x_iload (pc := 1691) dL_law_1691 1 rfl ?_
    refine x_if_ne (pc := 1693) 1708 dL_law_1693 (by decide) in_01 (fun q => absurd rfl q) (fun _ => ?_)
    refine x_aload_n (pc := 1696) dL_law_1696 6 rfl ?_
    refine x_iconst (pc := 1697) dL_law_1697 ?_
    refine y_lald (pc := 1698) dL_law_1698 rfl (by decide) ⟨by decide, by decide⟩ ?_
    rw [e49]
    refine x_iload (pc := 1699) dL_law_1699 0 rfl ?_
    refine x_i2l (pc := 1701) dL_law_1701 hr ?_
    refine x_lcmp (pc := 1702) dL_law_1702 (in_IL hr) (in_IL hr) ?_
    refine x_if_eq (pc := 1703) 1708 dL_law_1703 (by decide) in_ae (fun _ => ?_) (fun q => absurd (ae_0 r) q)
    refine x_goto (pc := 1708) 2773 dL_law_1708 (by decide) ?_
    exact x_lv [2, 3, 4, 5, 6, 7] rfl (x_widen (by omega) (by omega) kk)
  · refine ⟨m2, hI, fun res h' kk => ?_⟩
    unfold lvL at kk ⊢
    refine x_aload_n (pc := 1643) dL_law_1643 2 rfl ?_
    refine x_aload_n (pc := 1644) dL_law_1644 1 rfl ?_
    refine x_iload (pc := 1645) dL_law_1645 0 rfl ?_
    refine x_iconst (pc := 1647) dL_law_1647 ?_
    refine x_iadd (pc := 1648) dL_law_1648 ?_
    refine x_sld (pc := 1649) (a := (i + 1).toNat) dL_law_1649 (by omega) (by omega) hL ?_
    refine x_aload_n (pc := 1650) dL_law_1650 1 rfl ?_
    refine x_iload (pc := 1651) dL_law_1651 0 rfl ?_
    refine x_iconst (pc := 1653) dL_law_1653 ?_
    refine x_iadd (pc := 1654) dL_law_1654 ?_
    refine x_sld (pc := 1655) (a := (i + 2).toNat) dL_law_1655 (by omega) (by omega) hL ?_
    refine x_aload_n (pc := 1656) dL_law_1656 4 rfl ?_
    refine l_callE (pc := 1657) _ dL_law_1657 hC lsL_227 rfl (Nat.le_of_ble_eq_true rfl) (by decide) rfl (by omega) (by omega) ?_
    refine x_istore (pc := 1660) (lv' := [(6, _), (5, _), (0, _), (1, _), (2, _), (3, _), (4, _)]) dL_law_1660 (by decide) rfl ?_
    refine x_aload_n (pc := 1662) dL_law_1662 4 rfl ?_
    refine x_aload_n (pc := 1663) dL_law_1663 2 rfl ?_
    refine x_iload (pc := 1664) dL_law_1664 1 rfl ?_
    refine x_iconst (pc := 1666) dL_law_1666 ?_
    refine x_iadd (pc := 1667) dL_law_1667 ?_
    refine x_sld (pc := 1668) (a := (i + 1).toNat) dL_law_1668 (by omega) (by omega) hL ?_
    refine x_aload_n (pc := 1669) dL_law_1669 2 rfl ?_
    refine x_iload (pc := 1670) dL_law_1670 1 rfl ?_
    refine x_iconst (pc := 1672) dL_law_1672 ?_
    refine x_iadd (pc := 1673) dL_law_1673 ?_
    refine x_sld (pc := 1674) (a := (i + 2).toNat) dL_law_1674 (by omega) (by omega) hL ?_
    refine l_callV (pc := 1675) _ dL_law_1675 (.inl hR) hM lkL_229 rfl rfl rfl rfl (mem_dom0 (by decide) (by decide)) (Nat.le_of_ble_eq_true rfl) (by decide) rfl (by omega) (by omega) ?_
    refine x_istore (pc := 1678) (lv' := [(7, _), (6, _), (5, _), (0, _), (1, _), (2, _), (3, _), (4, _)]) dL_law_1678 (by decide) rfl ?_
    refine x_aload_n (pc := 1680) dL_law_1680 5 rfl ?_
    refine l_callV (pc := 1681) _ dL_law_1681 (.inr rfl) (ct_thrown e7) lkL_158 rfl rfl rfl rfl (mem_dom0 (by decide) (by decide)) (Nat.le_of_ble_eq_true rfl) (by decide) rfl (by omega) (by omega) ?_
    refine x_iload (pc := 1684) dL_law_1684 1 rfl ?_
    refine x_icmp_eq (pc := 1686) 1691 dL_law_1686 (by decide) (in_12 he) (in_12 he) (fun _ => ?_) (fun q => absurd rfl q)
    refine x_iload (pc := 1691) dL_law_1691 1 rfl ?_
    refine x_if_ne (pc := 1693) 1708 dL_law_1693 (by decide) (in_12 he) (fun _ => ?_) (fun q => by exfalso; omega)
    refine x_goto (pc := 1708) 2773 dL_law_1708 (by decide) ?_
    exact x_lv [2, 3, 4, 5, 6, 7] rfl (x_widen (by omega) (by omega) kk)
theorem law_26 {G : GG} {m : Mem} {K : Nat} {c0 s0 : Nat} {i : Int} (h : IV m K) (hK : K ≤ 600) (hi : 0 ≤ i ∧ i + 5 ≤ (gV G 8 : Nat)) (hL : gV G 8 < 2147483648) (hc : c0 ≤ 400000) (hs : s0 ≤ 6000000) : LST G m K c0 s0 i 1711 := by
  rcases pr_setCable (G := G) h hK (inI_of (gSx G (i + 1).toNat)) (inI_of (gSx G (i + 2).toNat)) (inI_of (gSx G (i + 3).toNat)) (inI_of (gSx G (i + 4).toNat)) with ⟨R, r, c1, m2, hR, hr, hC, hM, e49, e7, hI⟩ | ⟨R, e, m2, hR, he, hC, hM, e7, hI⟩
  · refine ⟨m2, hI, fun res h' kk => ?_⟩
    unfold lvL at kk ⊢
    refine x_aload_n (pc := 1711) dL_law_1711 2 rfl ?_
    refine x_aload_n (pc := 1712) dL_law_1712 1 rfl ?_
    refine x_iload (pc := 1713) dL_law_1713 0 rfl ?_
    refine x_iconst (pc := 1715) dL_law_1715 ?_
    refine x_iadd (pc := 1716) dL_law_1716 ?_
    refine x_sld (pc := 1717) (a := (i + 1).toNat) dL_law_1717 (by omega) (by omega) hL ?_
    refine x_aload_n (pc := 1718) dL_law_1718 1 rfl ?_
    refine x_iload (pc := 1719) dL_law_1719 0 rfl ?_
    refine x_iconst (pc := 1721) dL_law_1721 ?_
    refine x_iadd (pc := 1722) dL_law_1722 ?_
    refine x_sld (pc := 1723) (a := (i + 2).toNat) dL_law_1723 (by omega) (by omega) hL ?_
    refine x_aload_n (pc := 1724) dL_law_1724 1 rfl ?_
    refine x_iload (pc := 1725) dL_law_1725 0 rfl ?_
    refine x_iconst (pc := 1727) dL_law_1727 ?_
    refine x_iadd (pc := 1728) dL_law_1728 ?_
    refine x_sld (pc := 1729) (a := (i + 3).toNat) dL_law_1729 (by omega) (by omega) hL ?_
    refine x_aload_n (pc := 1730) dL_law_1730 1 rfl ?_
    refine x_iload (pc := 1731) dL_law_1731 0 rfl ?_
    refine x_iconst (pc := 1733) dL_law_1733 ?_
    refine x_iadd (pc := 1734) dL_law_1734 ?_
    refine x_sld (pc := 1735) (a := (i + 4).toNat) dL_law_1735 (by omega) (by omega) hL ?_
    refine x_aload_n (pc := 1736) dL_law_1736 4 rfl ?_
    refine l_callW (pc := 1737) _ dL_law_1737 hC lsL_230 rfl (Nat.le_of_ble_eq_true rfl) (by decide) rfl (by omega) (by omega) ?_
    refine x_istore (pc := 1740) (lv' := [(6, _), (5, _), (0, _), (1, _), (2, _), (3, _), (4, _)]) dL_law_1740 (by decide) rfl ?_
    refine x_aload_n (pc := 1742) dL_law_1742 4 rfl ?_
    refine x_aload_n (pc := 1743) dL_law_1743 2 rfl ?_
    refine x_iload (pc := 1744) dL_law_1744 1 rfl ?_
    refine x_iconst (pc := 1746) dL_law_1746 ?_
    refine x_iadd (pc := 1747) dL_law_1747 ?_
    refine x_sld (pc := 1748) (a := (i + 1).toNat) dL_law_1748 (by omega) (by omega) hL ?_
    refine x_aload_n (pc := 1749) dL_law_1749 2 rfl ?_
    refine x_iload (pc := 1750) dL_law_1750 1 rfl ?_
    refine x_iconst (pc := 1752) dL_law_1752 ?_
    refine x_iadd (pc := 1753) dL_law_1753 ?_
    refine x_sld (pc := 1754) (a := (i + 2).toNat) dL_law_1754 (by omega) (by omega) hL ?_
    refine x_aload_n (pc := 1755) dL_law_1755 2 rfl ?_
    refine x_iload (pc := 1756) dL_law_1756 1 rfl ?_
    refine x_iconst (pc := 1758) dL_law_1758 ?_
    refine x_iadd (pc := 1759) dL_law_1759 ?_
    refine x_sld (pc := 1760) (a := (i + 3).toNat) dL_law_1760 (by omega) (by omega) hL ?_
    refine x_aload_n (pc := 1761) dL_law_1761 2 rfl ?_
    refine x_iload (pc := 1762) dL_law_1762 1 rfl ?_
    refine x_iconst (pc := 1764) dL_law_1764 ?_
    refine x_iadd (pc := 1765) dL_law_1765 ?_
    refine x_sld (pc := 1766) (a := (i + 4).toNat) dL_law_1766 (by omega) (by omega) hL ?_
    refine l_callV (pc := 1767) _ dL_law_1767 (.inl hR) hM lkL_233 rfl rfl rfl rfl (mem_dom0 (by decide) (by decide)) (Nat.le_of_ble_eq_true rfl) (by decide) rfl (by omega) (by omega) ?_
    refine x_istore (pc := 1770) (lv' := [(7, _), (6, _), (5, _), (0, _), (1, _), (2, _), (3, _), (4, _)]) dL_law_1770 (by decide) rfl ?_
    refine x_aload_n (pc := 1772) dL_law_1772 5 rfl ?_
    refine l_callV (pc := 1773) _ dL_law_1773 (.inr rfl) (ct_thrown e7) lkL_158 rfl rfl rfl rfl (mem_dom0 (by decide) (by decide)) (Nat.le_of_ble_eq_true rfl) (by decide) rfl (by omega) (by omega) ?_
    refine x_iload (pc := 1776) dL_law_1776 1 rfl ?_
    refine x_icmp_eq (pc := 1778) 1783 dL_law_1778 (by decide) in_01 in_01 (fun _ => ?_) (fun q => absurd rfl q)
    refine x_iload (pc := 1783) dL_law_1783 1 rfl ?_
    refine x_if_ne (pc := 1785) 1800 dL_law_1785 (by decide) in_01 (fun q => absurd rfl q) (fun _ => ?_)
    refine x_aload_n (pc := 1788) dL_law_1788 6 rfl ?_
    refine x_iconst (pc := 1789) dL_law_1789 ?_
    refine y_lald (pc := 1790) dL_law_1790 rfl (by decide) ⟨by decide, by decide⟩ ?_
    rw [e49]
    refine x_iload (pc := 1791) dL_law_1791 0 rfl ?_
    refine x_i2l (pc := 1793) dL_law_1793 hr ?_
    refine x_lcmp (pc := 1794) dL_law_1794 (in_IL hr) (in_IL hr) ?_
    refine x_if_eq (pc := 1795) 1800 dL_law_1795 (by decide) in_ae (fun _ => ?_) (fun q => absurd (ae_0 r) q)
    refine x_goto (pc := 1800) 2773 dL_law_1800 (by decide) ?_
    exact x_lv [2, 3, 4, 5, 6, 7] rfl (x_widen (by omega) (by omega) kk)
  · refine ⟨m2, hI, fun res h' kk => ?_⟩
    unfold lvL at kk ⊢
    refine x_aload_n (pc := 1711) dL_law_1711 2 rfl ?_
    refine x_aload_n (pc := 1712) dL_law_1712 1 rfl ?_
    refine x_iload (pc := 1713) dL_law_1713 0 rfl ?_
    refine x_iconst (pc := 1715) dL_law_1715 ?_
    refine x_iadd (pc := 1716) dL_law_1716 ?_
    refine x_sld (pc := 1717) (a := (i + 1).toNat) dL_law_1717 (by omega) (by omega) hL ?_
    refine x_aload_n (pc := 1718) dL_law_1718 1 rfl ?_
    refine x_iload (pc := 1719) dL_law_1719 0 rfl ?_
    refine x_iconst (pc := 1721) dL_law_1721 ?_
    refine x_iadd (pc := 1722) dL_law_1722 ?_
    refine x_sld (pc := 1723) (a := (i + 2).toNat) dL_law_1723 (by omega) (by omega) hL ?_
    refine x_aload_n (pc := 1724) dL_law_1724 1 rfl ?_
    refine x_iload (pc := 1725) dL_law_1725 0 rfl ?_
    refine x_iconst (pc := 1727) dL_law_1727 ?_
    refine x_iadd (pc := 1728) dL_law_1728 ?_
    refine x_sld (pc := 1729) (a := (i + 3).toNat) dL_law_1729 (by omega) (by omega) hL ?_
    refine x_aload_n (pc := 1730) dL_law_1730 1 rfl ?_
    refine x_iload (pc := 1731) dL_law_1731 0 rfl ?_
    refine x_iconst (pc := 1733) dL_law_1733 ?_
    refine x_iadd (pc := 1734) dL_law_1734 ?_
    refine x_sld (pc := 1735) (a := (i + 4).toNat) dL_law_1735 (by omega) (by omega) hL ?_
    refine x_aload_n (pc := 1736) dL_law_1736 4 rfl ?_
    refine l_callE (pc := 1737) _ dL_law_1737 hC lsL_230 rfl (Nat.le_of_ble_eq_true rfl) (by decide) rfl (by omega) (by omega) ?_
    refine x_istore (pc := 1740) (lv' := [(6, _), (5, _), (0, _), (1, _), (2, _), (3, _), (4, _)]) dL_law_1740 (by decide) rfl ?_
    refine x_aload_n (pc := 1742) dL_law_1742 4 rfl ?_
    refine x_aload_n (pc := 1743) dL_law_1743 2 rfl ?_
    refine x_iload (pc := 1744) dL_law_1744 1 rfl ?_
    refine x_iconst (pc := 1746) dL_law_1746 ?_
    refine x_iadd (pc := 1747) dL_law_1747 ?_
    refine x_sld (pc := 1748) (a := (i + 1).toNat) dL_law_1748 (by omega) (by omega) hL ?_
    refine x_aload_n (pc := 1749) dL_law_1749 2 rfl ?_
    refine x_iload (pc := 1750) dL_law_1750 1 rfl ?_
    refine x_iconst (pc := 1752) dL_law_1752 ?_
    refine x_iadd (pc := 1753) dL_law_1753 ?_
    refine x_sld (pc := 1754) (a := (i + 2).toNat) dL_law_1754 (by omega) (by omega) hL ?_
    refine x_aload_n (pc := 1755) dL_law_1755 2 rfl ?_
    refine x_iload (pc := 1756) dL_law_1756 1 rfl ?_
    refine x_iconst (pc := 1758) dL_law_1758 ?_
    refine x_iadd (pc := 1759) dL_law_1759 ?_
    refine x_sld (pc := 1760) (a := (i + 3).toNat) dL_law_1760 (by omega) (by omega) hL ?_
    refine x_aload_n (pc := 1761) dL_law_1761 2 rfl ?_
    refine x_iload (pc := 1762) dL_law_1762 1 rfl ?_
    refine x_iconst (pc := 1764) dL_law_1764 ?_
    refine x_iadd (pc := 1765) dL_law_1765 ?_
    refine x_sld (pc := 1766) (a := (i + 4).toNat) dL_law_1766 (by omega) (by omega) hL ?_
    refine l_callV (pc := 1767) _ dL_law_1767 (.inl hR) hM lkL_233 rfl rfl rfl rfl (mem_dom0 (by decide) (by decide)) (Nat.le_of_ble_eq_true rfl) (by decide) rfl (by omega) (by omega) ?_
    refine x_istore (pc := 1770) (lv' := [(7, _), (6, _), (5, _), (0, _), (1, _), (2, _), (3, _), (4, _)]) dL_law_1770 (by decide) rfl ?_
    refine x_aload_n (pc := 1772) dL_law_1772 5 rfl ?_
    refine l_callV (pc := 1773) _ dL_law_1773 (.inr rfl) (ct_thrown e7) lkL_158 rfl rfl rfl rfl (mem_dom0 (by decide) (by decide)) (Nat.le_of_ble_eq_true rfl) (by decide) rfl (by omega) (by omega) ?_
    refine x_iload (pc := 1776) dL_law_1776 1 rfl ?_
    refine x_icmp_eq (pc := 1778) 1783 dL_law_1778 (by decide) (in_12 he) (in_12 he) (fun _ => ?_) (fun q => absurd rfl q)
    refine x_iload (pc := 1783) dL_law_1783 1 rfl ?_
    refine x_if_ne (pc := 1785) 1800 dL_law_1785 (by decide) (in_12 he) (fun _ => ?_) (fun q => by exfalso; omega)
    refine x_goto (pc := 1800) 2773 dL_law_1800 (by decide) ?_
    exact x_lv [2, 3, 4, 5, 6, 7] rfl (x_widen (by omega) (by omega) kk)
theorem law_27 {G : GG} {m : Mem} {K : Nat} {c0 s0 : Nat} {i : Int} (h : IV m K) (hK : K ≤ 600) (hi : 0 ≤ i ∧ i + 5 ≤ (gV G 8 : Nat)) (hL : gV G 8 < 2147483648) (hc : c0 ≤ 400000) (hs : s0 ≤ 6000000) : LST G m K c0 s0 i 1803 := by
  rcases pr_addTrip (G := G) h hK (inI_of (gSx G (i + 1).toNat)) (inI_of (gSx G (i + 2).toNat)) (inI_of (gSx G (i + 3).toNat)) with ⟨R, r, c1, m2, hR, hr, hC, hM, e49, e7, hI⟩ | ⟨R, e, m2, hR, he, hC, hM, e7, hI⟩
  · refine ⟨m2, hI, fun res h' kk => ?_⟩
    unfold lvL at kk ⊢
    refine x_aload_n (pc := 1803) dL_law_1803 2 rfl ?_
    refine x_aload_n (pc := 1804) dL_law_1804 1 rfl ?_
    refine x_iload (pc := 1805) dL_law_1805 0 rfl ?_
    refine x_iconst (pc := 1807) dL_law_1807 ?_
    refine x_iadd (pc := 1808) dL_law_1808 ?_
    refine x_sld (pc := 1809) (a := (i + 1).toNat) dL_law_1809 (by omega) (by omega) hL ?_
    refine x_aload_n (pc := 1810) dL_law_1810 1 rfl ?_
    refine x_iload (pc := 1811) dL_law_1811 0 rfl ?_
    refine x_iconst (pc := 1813) dL_law_1813 ?_
    refine x_iadd (pc := 1814) dL_law_1814 ?_
    refine x_sld (pc := 1815) (a := (i + 2).toNat) dL_law_1815 (by omega) (by omega) hL ?_
    refine x_aload_n (pc := 1816) dL_law_1816 1 rfl ?_
    refine x_iload (pc := 1817) dL_law_1817 0 rfl ?_
    refine x_iconst (pc := 1819) dL_law_1819 ?_
    refine x_iadd (pc := 1820) dL_law_1820 ?_
    refine x_sld (pc := 1821) (a := (i + 3).toNat) dL_law_1821 (by omega) (by omega) hL ?_
    refine x_aload_n (pc := 1822) dL_law_1822 4 rfl ?_
    refine l_callW (pc := 1823) _ dL_law_1823 hC lsL_234 rfl (Nat.le_of_ble_eq_true rfl) (by decide) rfl (by omega) (by omega) ?_
    refine x_istore (pc := 1826) (lv' := [(6, _), (5, _), (0, _), (1, _), (2, _), (3, _), (4, _)]) dL_law_1826 (by decide) rfl ?_
    refine x_aload_n (pc := 1828) dL_law_1828 4 rfl ?_
    refine x_aload_n (pc := 1829) dL_law_1829 2 rfl ?_
    refine x_iload (pc := 1830) dL_law_1830 1 rfl ?_
    refine x_iconst (pc := 1832) dL_law_1832 ?_
    refine x_iadd (pc := 1833) dL_law_1833 ?_
    refine x_sld (pc := 1834) (a := (i + 1).toNat) dL_law_1834 (by omega) (by omega) hL ?_
    refine x_aload_n (pc := 1835) dL_law_1835 2 rfl ?_
    refine x_iload (pc := 1836) dL_law_1836 1 rfl ?_
    refine x_iconst (pc := 1838) dL_law_1838 ?_
    refine x_iadd (pc := 1839) dL_law_1839 ?_
    refine x_sld (pc := 1840) (a := (i + 2).toNat) dL_law_1840 (by omega) (by omega) hL ?_
    refine x_aload_n (pc := 1841) dL_law_1841 2 rfl ?_
    refine x_iload (pc := 1842) dL_law_1842 1 rfl ?_
    refine x_iconst (pc := 1844) dL_law_1844 ?_
    refine x_iadd (pc := 1845) dL_law_1845 ?_
    refine x_sld (pc := 1846) (a := (i + 3).toNat) dL_law_1846 (by omega) (by omega) hL ?_
    refine l_callV (pc := 1847) _ dL_law_1847 (.inl hR) hM lkL_236 rfl rfl rfl rfl (mem_dom0 (by decide) (by decide)) (Nat.le_of_ble_eq_true rfl) (by decide) rfl (by omega) (by omega) ?_
    refine x_istore (pc := 1850) (lv' := [(7, _), (6, _), (5, _), (0, _), (1, _), (2, _), (3, _), (4, _)]) dL_law_1850 (by decide) rfl ?_
    refine x_aload_n (pc := 1852) dL_law_1852 5 rfl ?_
    refine l_callV (pc := 1853) _ dL_law_1853 (.inr rfl) (ct_thrown e7) lkL_158 rfl rfl rfl rfl (mem_dom0 (by decide) (by decide)) (Nat.le_of_ble_eq_true rfl) (by decide) rfl (by omega) (by omega) ?_
    refine x_iload (pc := 1856) dL_law_1856 1 rfl ?_
    refine x_icmp_eq (pc := 1858) 1863 dL_law_1858 (by decide) in_01 in_01 (fun _ => ?_) (fun q => absurd rfl q)
    refine x_iload (pc := 1863) dL_law_1863 1 rfl ?_
    refine x_if_ne (pc := 1865) 1880 dL_law_1865 (by decide) in_01 (fun q => absurd rfl q) (fun _ => ?_)
    refine x_aload_n (pc := 1868) dL_law_1868 6 rfl ?_
    refine x_iconst (pc := 1869) dL_law_1869 ?_
    refine y_lald (pc := 1870) dL_law_1870 rfl (by decide) ⟨by decide, by decide⟩ ?_
    rw [e49]
    refine x_iload (pc := 1871) dL_law_1871 0 rfl ?_
    refine x_i2l (pc := 1873) dL_law_1873 hr ?_
    refine x_lcmp (pc := 1874) dL_law_1874 (in_IL hr) (in_IL hr) ?_
    refine x_if_eq (pc := 1875) 1880 dL_law_1875 (by decide) in_ae (fun _ => ?_) (fun q => absurd (ae_0 r) q)
    refine x_goto (pc := 1880) 2773 dL_law_1880 (by decide) ?_
    exact x_lv [2, 3, 4, 5, 6, 7] rfl (x_widen (by omega) (by omega) kk)
  · refine ⟨m2, hI, fun res h' kk => ?_⟩
    unfold lvL at kk ⊢
    refine x_aload_n (pc := 1803) dL_law_1803 2 rfl ?_
    refine x_aload_n (pc := 1804) dL_law_1804 1 rfl ?_
    refine x_iload (pc := 1805) dL_law_1805 0 rfl ?_
    refine x_iconst (pc := 1807) dL_law_1807 ?_
    refine x_iadd (pc := 1808) dL_law_1808 ?_
    refine x_sld (pc := 1809) (a := (i + 1).toNat) dL_law_1809 (by omega) (by omega) hL ?_
    refine x_aload_n (pc := 1810) dL_law_1810 1 rfl ?_
    refine x_iload (pc := 1811) dL_law_1811 0 rfl ?_
    refine x_iconst (pc := 1813) dL_law_1813 ?_
    refine x_iadd (pc := 1814) dL_law_1814 ?_
    refine x_sld (pc := 1815) (a := (i + 2).toNat) dL_law_1815 (by omega) (by omega) hL ?_
    refine x_aload_n (pc := 1816) dL_law_1816 1 rfl ?_
    refine x_iload (pc := 1817) dL_law_1817 0 rfl ?_
    refine x_iconst (pc := 1819) dL_law_1819 ?_
    refine x_iadd (pc := 1820) dL_law_1820 ?_
    refine x_sld (pc := 1821) (a := (i + 3).toNat) dL_law_1821 (by omega) (by omega) hL ?_
    refine x_aload_n (pc := 1822) dL_law_1822 4 rfl ?_
    refine l_callE (pc := 1823) _ dL_law_1823 hC lsL_234 rfl (Nat.le_of_ble_eq_true rfl) (by decide) rfl (by omega) (by omega) ?_
    refine x_istore (pc := 1826) (lv' := [(6, _), (5, _), (0, _), (1, _), (2, _), (3, _), (4, _)]) dL_law_1826 (by decide) rfl ?_
    refine x_aload_n (pc := 1828) dL_law_1828 4 rfl ?_
    refine x_aload_n (pc := 1829) dL_law_1829 2 rfl ?_
    refine x_iload (pc := 1830) dL_law_1830 1 rfl ?_
    refine x_iconst (pc := 1832) dL_law_1832 ?_
    refine x_iadd (pc := 1833) dL_law_1833 ?_
    refine x_sld (pc := 1834) (a := (i + 1).toNat) dL_law_1834 (by omega) (by omega) hL ?_
    refine x_aload_n (pc := 1835) dL_law_1835 2 rfl ?_
    refine x_iload (pc := 1836) dL_law_1836 1 rfl ?_
    refine x_iconst (pc := 1838) dL_law_1838 ?_
    refine x_iadd (pc := 1839) dL_law_1839 ?_
    refine x_sld (pc := 1840) (a := (i + 2).toNat) dL_law_1840 (by omega) (by omega) hL ?_
    refine x_aload_n (pc := 1841) dL_law_1841 2 rfl ?_
    refine x_iload (pc := 1842) dL_law_1842 1 rfl ?_
    refine x_iconst (pc := 1844) dL_law_1844 ?_
    refine x_iadd (pc := 1845) dL_law_1845 ?_
    refine x_sld (pc := 1846) (a := (i + 3).toNat) dL_law_1846 (by omega) (by omega) hL ?_
    refine l_callV (pc := 1847) _ dL_law_1847 (.inl hR) hM lkL_236 rfl rfl rfl rfl (mem_dom0 (by decide) (by decide)) (Nat.le_of_ble_eq_true rfl) (by decide) rfl (by omega) (by omega) ?_
    refine x_istore (pc := 1850) (lv' := [(7, _), (6, _), (5, _), (0, _), (1, _), (2, _), (3, _), (4, _)]) dL_law_1850 (by decide) rfl ?_
    refine x_aload_n (pc := 1852) dL_law_1852 5 rfl ?_
    refine l_callV (pc := 1853) _ dL_law_1853 (.inr rfl) (ct_thrown e7) lkL_158 rfl rfl rfl rfl (mem_dom0 (by decide) (by decide)) (Nat.le_of_ble_eq_true rfl) (by decide) rfl (by omega) (by omega) ?_
    refine x_iload (pc := 1856) dL_law_1856 1 rfl ?_
    refine x_icmp_eq (pc := 1858) 1863 dL_law_1858 (by decide) (in_12 he) (in_12 he) (fun _ => ?_) (fun q => absurd rfl q)
    refine x_iload (pc := 1863) dL_law_1863 1 rfl ?_
    refine x_if_ne (pc := 1865) 1880 dL_law_1865 (by decide) (in_12 he) (fun _ => ?_) (fun q => by exfalso; omega)
    refine x_goto (pc := 1880) 2773 dL_law_1880 (by decide) ?_
    exact x_lv [2, 3, 4, 5, 6, 7] rfl (x_widen (by omega) (by omega) kk)
theorem law_28 {G : GG} {m : Mem} {K : Nat} {c0 s0 : Nat} {i : Int} (h : IV m K) (hK : K ≤ 600) (hi : 0 ≤ i ∧ i + 5 ≤ (gV G 8 : Nat)) (hL : gV G 8 < 2147483648) (hc : c0 ≤ 400000) (hs : s0 ≤ 6000000) : LST G m K c0 s0 i 1883 := by
  rcases pr_dropTrip (G := G) h hK (inI_of (gSx G (i + 1).toNat)) with ⟨R, r, c1, m2, hR, hr, hC, hM, e49, e7, hI⟩ | ⟨R, e, m2, hR, he, hC, hM, e7, hI⟩
  · refine ⟨m2, hI, fun res h' kk => ?_⟩
    unfold lvL at kk ⊢
    refine x_aload_n (pc := 1883) dL_law_1883 2 rfl ?_
    refine x_aload_n (pc := 1884) dL_law_1884 1 rfl ?_
    refine x_iload (pc := 1885) dL_law_1885 0 rfl ?_
    refine x_iconst (pc := 1887) dL_law_1887 ?_
    refine x_iadd (pc := 1888) dL_law_1888 ?_
    refine x_sld (pc := 1889) (a := (i + 1).toNat) dL_law_1889 (by omega) (by omega) hL ?_
    refine x_aload_n (pc := 1890) dL_law_1890 4 rfl ?_
    refine l_callW (pc := 1891) _ dL_law_1891 hC lsL_237 rfl (Nat.le_of_ble_eq_true rfl) (by decide) rfl (by omega) (by omega) ?_
    refine x_istore (pc := 1894) (lv' := [(6, _), (5, _), (0, _), (1, _), (2, _), (3, _), (4, _)]) dL_law_1894 (by decide) rfl ?_
    refine x_aload_n (pc := 1896) dL_law_1896 4 rfl ?_
    refine x_aload_n (pc := 1897) dL_law_1897 2 rfl ?_
    refine x_iload (pc := 1898) dL_law_1898 1 rfl ?_
    refine x_iconst (pc := 1900) dL_law_1900 ?_
    refine x_iadd (pc := 1901) dL_law_1901 ?_
    refine x_sld (pc := 1902) (a := (i + 1).toNat) dL_law_1902 (by omega) (by omega) hL ?_
    refine l_callV (pc := 1903) _ dL_law_1903 (.inl hR) hM lkL_239 rfl rfl rfl rfl (mem_dom0 (by decide) (by decide)) (Nat.le_of_ble_eq_true rfl) (by decide) rfl (by omega) (by omega) ?_
    refine x_istore (pc := 1906) (lv' := [(7, _), (6, _), (5, _), (0, _), (1, _), (2, _), (3, _), (4, _)]) dL_law_1906 (by decide) rfl ?_
    refine x_aload_n (pc := 1908) dL_law_1908 5 rfl ?_
    refine l_callV (pc := 1909) _ dL_law_1909 (.inr rfl) (ct_thrown e7) lkL_158 rfl rfl rfl rfl (mem_dom0 (by decide) (by decide)) (Nat.le_of_ble_eq_true rfl) (by decide) rfl (by omega) (by omega) ?_
    refine x_iload (pc := 1912) dL_law_1912 1 rfl ?_
    refine x_icmp_eq (pc := 1914) 1919 dL_law_1914 (by decide) in_01 in_01 (fun _ => ?_) (fun q => absurd rfl q)
    refine x_iload (pc := 1919) dL_law_1919 1 rfl ?_
    refine x_if_ne (pc := 1921) 1936 dL_law_1921 (by decide) in_01 (fun q => absurd rfl q) (fun _ => ?_)
    refine x_aload_n (pc := 1924) dL_law_1924 6 rfl ?_
    refine x_iconst (pc := 1925) dL_law_1925 ?_
    refine y_lald (pc := 1926) dL_law_1926 rfl (by decide) ⟨by decide, by decide⟩ ?_
    rw [e49]
    refine x_iload (pc := 1927) dL_law_1927 0 rfl ?_
    refine x_i2l (pc := 1929) dL_law_1929 hr ?_
    refine x_lcmp (pc := 1930) dL_law_1930 (in_IL hr) (in_IL hr) ?_
    refine x_if_eq (pc := 1931) 1936 dL_law_1931 (by decide) in_ae (fun _ => ?_) (fun q => absurd (ae_0 r) q)
    refine x_goto (pc := 1936) 2773 dL_law_1936 (by decide) ?_
    exact x_lv [2, 3, 4, 5, 6, 7] rfl (x_widen (by omega) (by omega) kk)
  · refine ⟨m2, hI, fun res h' kk => ?_⟩
    unfold lvL at kk ⊢
    refine x_aload_n (pc := 1883) dL_law_1883 2 rfl ?_
    refine x_aload_n (pc := 1884) dL_law_1884 1 rfl ?_
    refine x_iload (pc := 1885) dL_law_1885 0 rfl ?_
    refine x_iconst (pc := 1887) dL_law_1887 ?_
    refine x_iadd (pc := 1888) dL_law_1888 ?_
    refine x_sld (pc := 1889) (a := (i + 1).toNat) dL_law_1889 (by omega) (by omega) hL ?_
    refine x_aload_n (pc := 1890) dL_law_1890 4 rfl ?_
    refine l_callE (pc := 1891) _ dL_law_1891 hC lsL_237 rfl (Nat.le_of_ble_eq_true rfl) (by decide) rfl (by omega) (by omega) ?_
    refine x_istore (pc := 1894) (lv' := [(6, _), (5, _), (0, _), (1, _), (2, _), (3, _), (4, _)]) dL_law_1894 (by decide) rfl ?_
    refine x_aload_n (pc := 1896) dL_law_1896 4 rfl ?_
    refine x_aload_n (pc := 1897) dL_law_1897 2 rfl ?_
    refine x_iload (pc := 1898) dL_law_1898 1 rfl ?_
    refine x_iconst (pc := 1900) dL_law_1900 ?_
    refine x_iadd (pc := 1901) dL_law_1901 ?_
    refine x_sld (pc := 1902) (a := (i + 1).toNat) dL_law_1902 (by omega) (by omega) hL ?_
    refine l_callV (pc := 1903) _ dL_law_1903 (.inl hR) hM lkL_239 rfl rfl rfl rfl (mem_dom0 (by decide) (by decide)) (Nat.le_of_ble_eq_true rfl) (by decide) rfl (by omega) (by omega) ?_
    refine x_istore (pc := 1906) (lv' := [(7, _), (6, _), (5, _), (0, _), (1, _), (2, _), (3, _), (4, _)]) dL_law_1906 (by decide) rfl ?_
    refine x_aload_n (pc := 1908) dL_law_1908 5 rfl ?_
    refine l_callV (pc := 1909) _ dL_law_1909 (.inr rfl) (ct_thrown e7) lkL_158 rfl rfl rfl rfl (mem_dom0 (by decide) (by decide)) (Nat.le_of_ble_eq_true rfl) (by decide) rfl (by omega) (by omega) ?_
    refine x_iload (pc := 1912) dL_law_1912 1 rfl ?_
    refine x_icmp_eq (pc := 1914) 1919 dL_law_1914 (by decide) (in_12 he) (in_12 he) (fun _ => ?_) (fun q => absurd rfl q)
    refine x_iload (pc := 1919) dL_law_1919 1 rfl ?_
    refine x_if_ne (pc := 1921) 1936 dL_law_1921 (by decide) (in_12 he) (fun _ => ?_) (fun q => by exfalso; omega)
    refine x_goto (pc := 1936) 2773 dL_law_1936 (by decide) ?_
    exact x_lv [2, 3, 4, 5, 6, 7] rfl (x_widen (by omega) (by omega) kk)
theorem law_29 {G : GG} {m : Mem} {K : Nat} {c0 s0 : Nat} {i : Int} (h : IV m K) (hK : K ≤ 600) (hi : 0 ≤ i ∧ i + 5 ≤ (gV G 8 : Nat)) (hL : gV G 8 < 2147483648) (hc : c0 ≤ 400000) (hs : s0 ≤ 6000000) : LST G m K c0 s0 i 1939 := by
  rcases pr_run (G := G) h hK (inI_of (gSx G (i + 1).toNat)) with ⟨R, r, c1, m2, hR, hr, hC, hM, e49, e7, hI⟩ | ⟨R, e, m2, hR, he, hC, hM, e7, hI⟩
  · refine ⟨m2, hI, fun res h' kk => ?_⟩
    unfold lvL at kk ⊢
    refine x_aload_n (pc := 1939) dL_law_1939 2 rfl ?_
    refine x_aload_n (pc := 1940) dL_law_1940 1 rfl ?_
    refine x_iload (pc := 1941) dL_law_1941 0 rfl ?_
    refine x_iconst (pc := 1943) dL_law_1943 ?_
    refine x_iadd (pc := 1944) dL_law_1944 ?_
    refine x_sld (pc := 1945) (a := (i + 1).toNat) dL_law_1945 (by omega) (by omega) hL ?_
    refine x_aload_n (pc := 1946) dL_law_1946 4 rfl ?_
    refine l_callW (pc := 1947) _ dL_law_1947 hC lsL_240 rfl (Nat.le_of_ble_eq_true rfl) (by decide) rfl (by omega) (by omega) ?_
    refine x_istore (pc := 1950) (lv' := [(6, _), (5, _), (0, _), (1, _), (2, _), (3, _), (4, _)]) dL_law_1950 (by decide) rfl ?_
    refine x_aload_n (pc := 1952) dL_law_1952 4 rfl ?_
    refine x_aload_n (pc := 1953) dL_law_1953 2 rfl ?_
    refine x_iload (pc := 1954) dL_law_1954 1 rfl ?_
    refine x_iconst (pc := 1956) dL_law_1956 ?_
    refine x_iadd (pc := 1957) dL_law_1957 ?_
    refine x_sld (pc := 1958) (a := (i + 1).toNat) dL_law_1958 (by omega) (by omega) hL ?_
    refine l_callV (pc := 1959) _ dL_law_1959 (.inl hR) hM lkL_242 rfl rfl rfl rfl (mem_dom0 (by decide) (by decide)) (Nat.le_of_ble_eq_true rfl) (by decide) rfl (by omega) (by omega) ?_
    refine x_istore (pc := 1962) (lv' := [(7, _), (6, _), (5, _), (0, _), (1, _), (2, _), (3, _), (4, _)]) dL_law_1962 (by decide) rfl ?_
    refine x_aload_n (pc := 1964) dL_law_1964 5 rfl ?_
    refine l_callV (pc := 1965) _ dL_law_1965 (.inr rfl) (ct_thrown e7) lkL_158 rfl rfl rfl rfl (mem_dom0 (by decide) (by decide)) (Nat.le_of_ble_eq_true rfl) (by decide) rfl (by omega) (by omega) ?_
    refine x_iload (pc := 1968) dL_law_1968 1 rfl ?_
    refine x_icmp_eq (pc := 1970) 1975 dL_law_1970 (by decide) in_01 in_01 (fun _ => ?_) (fun q => absurd rfl q)
    refine x_iload (pc := 1975) dL_law_1975 1 rfl ?_
    refine x_if_ne (pc := 1977) 1992 dL_law_1977 (by decide) in_01 (fun q => absurd rfl q) (fun _ => ?_)
    refine x_aload_n (pc := 1980) dL_law_1980 6 rfl ?_
    refine x_iconst (pc := 1981) dL_law_1981 ?_
    refine y_lald (pc := 1982) dL_law_1982 rfl (by decide) ⟨by decide, by decide⟩ ?_
    rw [e49]
    refine x_iload (pc := 1983) dL_law_1983 0 rfl ?_
    refine x_i2l (pc := 1985) dL_law_1985 hr ?_
    refine x_lcmp (pc := 1986) dL_law_1986 (in_IL hr) (in_IL hr) ?_
    refine x_if_eq (pc := 1987) 1992 dL_law_1987 (by decide) in_ae (fun _ => ?_) (fun q => absurd (ae_0 r) q)
    refine x_goto (pc := 1992) 2773 dL_law_1992 (by decide) ?_
    exact x_lv [2, 3, 4, 5, 6, 7] rfl (x_widen (by omega) (by omega) kk)
  · refine ⟨m2, hI, fun res h' kk => ?_⟩
    unfold lvL at kk ⊢
    refine x_aload_n (pc := 1939) dL_law_1939 2 rfl ?_
    refine x_aload_n (pc := 1940) dL_law_1940 1 rfl ?_
    refine x_iload (pc := 1941) dL_law_1941 0 rfl ?_
    refine x_iconst (pc := 1943) dL_law_1943 ?_
    refine x_iadd (pc := 1944) dL_law_1944 ?_
    refine x_sld (pc := 1945) (a := (i + 1).toNat) dL_law_1945 (by omega) (by omega) hL ?_
    refine x_aload_n (pc := 1946) dL_law_1946 4 rfl ?_
    refine l_callE (pc := 1947) _ dL_law_1947 hC lsL_240 rfl (Nat.le_of_ble_eq_true rfl) (by decide) rfl (by omega) (by omega) ?_
    refine x_istore (pc := 1950) (lv' := [(6, _), (5, _), (0, _), (1, _), (2, _), (3, _), (4, _)]) dL_law_1950 (by decide) rfl ?_
    refine x_aload_n (pc := 1952) dL_law_1952 4 rfl ?_
    refine x_aload_n (pc := 1953) dL_law_1953 2 rfl ?_
    refine x_iload (pc := 1954) dL_law_1954 1 rfl ?_
    refine x_iconst (pc := 1956) dL_law_1956 ?_
    refine x_iadd (pc := 1957) dL_law_1957 ?_
    refine x_sld (pc := 1958) (a := (i + 1).toNat) dL_law_1958 (by omega) (by omega) hL ?_
    refine l_callV (pc := 1959) _ dL_law_1959 (.inl hR) hM lkL_242 rfl rfl rfl rfl (mem_dom0 (by decide) (by decide)) (Nat.le_of_ble_eq_true rfl) (by decide) rfl (by omega) (by omega) ?_
    refine x_istore (pc := 1962) (lv' := [(7, _), (6, _), (5, _), (0, _), (1, _), (2, _), (3, _), (4, _)]) dL_law_1962 (by decide) rfl ?_
    refine x_aload_n (pc := 1964) dL_law_1964 5 rfl ?_
    refine l_callV (pc := 1965) _ dL_law_1965 (.inr rfl) (ct_thrown e7) lkL_158 rfl rfl rfl rfl (mem_dom0 (by decide) (by decide)) (Nat.le_of_ble_eq_true rfl) (by decide) rfl (by omega) (by omega) ?_
    refine x_iload (pc := 1968) dL_law_1968 1 rfl ?_
    refine x_icmp_eq (pc := 1970) 1975 dL_law_1970 (by decide) (in_12 he) (in_12 he) (fun _ => ?_) (fun q => absurd rfl q)
    refine x_iload (pc := 1975) dL_law_1975 1 rfl ?_
    refine x_if_ne (pc := 1977) 1992 dL_law_1977 (by decide) (in_12 he) (fun _ => ?_) (fun q => by exfalso; omega)
    refine x_goto (pc := 1992) 2773 dL_law_1992 (by decide) ?_
    exact x_lv [2, 3, 4, 5, 6, 7] rfl (x_widen (by omega) (by omega) kk)
theorem law_30 {G : GG} {m : Mem} {K : Nat} {c0 s0 : Nat} {i : Int} (h : IV m K) (hK : K ≤ 600) (hi : 0 ≤ i ∧ i + 5 ≤ (gV G 8 : Nat)) (hL : gV G 8 < 2147483648) (hc : c0 ≤ 400000) (hs : s0 ≤ 6000000) : LST G m K c0 s0 i 1995 := by
  rcases pr_runToClosed (G := G) h hK (inI_of (gSx G (i + 1).toNat)) (inI_of (gSx G (i + 2).toNat)) with ⟨R, r, c1, m2, hR, hr, hC, hM, e49, e7, hI⟩ | ⟨R, e, m2, hR, he, hC, hM, e7, hI⟩
  · refine ⟨m2, hI, fun res h' kk => ?_⟩
    unfold lvL at kk ⊢
    refine x_aload_n (pc := 1995) dL_law_1995 2 rfl ?_
    refine x_aload_n (pc := 1996) dL_law_1996 1 rfl ?_
    refine x_iload (pc := 1997) dL_law_1997 0 rfl ?_
    refine x_iconst (pc := 1999) dL_law_1999 ?_
    refine x_iadd (pc := 2000) dL_law_2000 ?_
    refine x_sld (pc := 2001) (a := (i + 1).toNat) dL_law_2001 (by omega) (by omega) hL ?_
    refine x_aload_n (pc := 2002) dL_law_2002 1 rfl ?_
    refine x_iload (pc := 2003) dL_law_2003 0 rfl ?_
    refine x_iconst (pc := 2005) dL_law_2005 ?_
    refine x_iadd (pc := 2006) dL_law_2006 ?_
    refine x_sld (pc := 2007) (a := (i + 2).toNat) dL_law_2007 (by omega) (by omega) hL ?_
    refine x_aload_n (pc := 2008) dL_law_2008 4 rfl ?_
    refine l_callW (pc := 2009) _ dL_law_2009 hC lsL_243 rfl (Nat.le_of_ble_eq_true rfl) (by decide) rfl (by omega) (by omega) ?_
    refine x_istore (pc := 2012) (lv' := [(6, _), (5, _), (0, _), (1, _), (2, _), (3, _), (4, _)]) dL_law_2012 (by decide) rfl ?_
    refine x_aload_n (pc := 2014) dL_law_2014 4 rfl ?_
    refine x_aload_n (pc := 2015) dL_law_2015 2 rfl ?_
    refine x_iload (pc := 2016) dL_law_2016 1 rfl ?_
    refine x_iconst (pc := 2018) dL_law_2018 ?_
    refine x_iadd (pc := 2019) dL_law_2019 ?_
    refine x_sld (pc := 2020) (a := (i + 1).toNat) dL_law_2020 (by omega) (by omega) hL ?_
    refine x_aload_n (pc := 2021) dL_law_2021 2 rfl ?_
    refine x_iload (pc := 2022) dL_law_2022 1 rfl ?_
    refine x_iconst (pc := 2024) dL_law_2024 ?_
    refine x_iadd (pc := 2025) dL_law_2025 ?_
    refine x_sld (pc := 2026) (a := (i + 2).toNat) dL_law_2026 (by omega) (by omega) hL ?_
    refine l_callV (pc := 2027) _ dL_law_2027 (.inl hR) hM lkL_245 rfl rfl rfl rfl (mem_dom0 (by decide) (by decide)) (Nat.le_of_ble_eq_true rfl) (by decide) rfl (by omega) (by omega) ?_
    refine x_istore (pc := 2030) (lv' := [(7, _), (6, _), (5, _), (0, _), (1, _), (2, _), (3, _), (4, _)]) dL_law_2030 (by decide) rfl ?_
    refine x_aload_n (pc := 2032) dL_law_2032 5 rfl ?_
    refine l_callV (pc := 2033) _ dL_law_2033 (.inr rfl) (ct_thrown e7) lkL_158 rfl rfl rfl rfl (mem_dom0 (by decide) (by decide)) (Nat.le_of_ble_eq_true rfl) (by decide) rfl (by omega) (by omega) ?_
    refine x_iload (pc := 2036) dL_law_2036 1 rfl ?_
    refine x_icmp_eq (pc := 2038) 2043 dL_law_2038 (by decide) in_01 in_01 (fun _ => ?_) (fun q => absurd rfl q)
    refine x_iload (pc := 2043) dL_law_2043 1 rfl ?_
    refine x_if_ne (pc := 2045) 2060 dL_law_2045 (by decide) in_01 (fun q => absurd rfl q) (fun _ => ?_)
    refine x_aload_n (pc := 2048) dL_law_2048 6 rfl ?_
    refine x_iconst (pc := 2049) dL_law_2049 ?_
    refine y_lald (pc := 2050) dL_law_2050 rfl (by decide) ⟨by decide, by decide⟩ ?_
    rw [e49]
    refine x_iload (pc := 2051) dL_law_2051 0 rfl ?_
    refine x_i2l (pc := 2053) dL_law_2053 hr ?_
    refine x_lcmp (pc := 2054) dL_law_2054 (in_IL hr) (in_IL hr) ?_
    refine x_if_eq (pc := 2055) 2060 dL_law_2055 (by decide) in_ae (fun _ => ?_) (fun q => absurd (ae_0 r) q)
    refine x_goto (pc := 2060) 2773 dL_law_2060 (by decide) ?_
    exact x_lv [2, 3, 4, 5, 6, 7] rfl (x_widen (by omega) (by omega) kk)
  · refine ⟨m2, hI, fun res h' kk => ?_⟩
    unfold lvL at kk ⊢
    refine x_aload_n (pc := 1995) dL_law_1995 2 rfl ?_
    refine x_aload_n (pc := 1996) dL_law_1996 1 rfl ?_
    refine x_iload (pc := 1997) dL_law_1997 0 rfl ?_
    refine x_iconst (pc := 1999) dL_law_1999 ?_
    refine x_iadd (pc := 2000) dL_law_2000 ?_
    refine x_sld (pc := 2001) (a := (i + 1).toNat) dL_law_2001 (by omega) (by omega) hL ?_
    refine x_aload_n (pc := 2002) dL_law_2002 1 rfl ?_
    refine x_iload (pc := 2003) dL_law_2003 0 rfl ?_
    refine x_iconst (pc := 2005) dL_law_2005 ?_
    refine x_iadd (pc := 2006) dL_law_2006 ?_
    refine x_sld (pc := 2007) (a := (i + 2).toNat) dL_law_2007 (by omega) (by omega) hL ?_
    refine x_aload_n (pc := 2008) dL_law_2008 4 rfl ?_
    refine l_callE (pc := 2009) _ dL_law_2009 hC lsL_243 rfl (Nat.le_of_ble_eq_true rfl) (by decide) rfl (by omega) (by omega) ?_
    refine x_istore (pc := 2012) (lv' := [(6, _), (5, _), (0, _), (1, _), (2, _), (3, _), (4, _)]) dL_law_2012 (by decide) rfl ?_
    refine x_aload_n (pc := 2014) dL_law_2014 4 rfl ?_
    refine x_aload_n (pc := 2015) dL_law_2015 2 rfl ?_
    refine x_iload (pc := 2016) dL_law_2016 1 rfl ?_
    refine x_iconst (pc := 2018) dL_law_2018 ?_
    refine x_iadd (pc := 2019) dL_law_2019 ?_
    refine x_sld (pc := 2020) (a := (i + 1).toNat) dL_law_2020 (by omega) (by omega) hL ?_
    refine x_aload_n (pc := 2021) dL_law_2021 2 rfl ?_
    refine x_iload (pc := 2022) dL_law_2022 1 rfl ?_
    refine x_iconst (pc := 2024) dL_law_2024 ?_
    refine x_iadd (pc := 2025) dL_law_2025 ?_
    refine x_sld (pc := 2026) (a := (i + 2).toNat) dL_law_2026 (by omega) (by omega) hL ?_
    refine l_callV (pc := 2027) _ dL_law_2027 (.inl hR) hM lkL_245 rfl rfl rfl rfl (mem_dom0 (by decide) (by decide)) (Nat.le_of_ble_eq_true rfl) (by decide) rfl (by omega) (by omega) ?_
    refine x_istore (pc := 2030) (lv' := [(7, _), (6, _), (5, _), (0, _), (1, _), (2, _), (3, _), (4, _)]) dL_law_2030 (by decide) rfl ?_
    refine x_aload_n (pc := 2032) dL_law_2032 5 rfl ?_
    refine l_callV (pc := 2033) _ dL_law_2033 (.inr rfl) (ct_thrown e7) lkL_158 rfl rfl rfl rfl (mem_dom0 (by decide) (by decide)) (Nat.le_of_ble_eq_true rfl) (by decide) rfl (by omega) (by omega) ?_
    refine x_iload (pc := 2036) dL_law_2036 1 rfl ?_
    refine x_icmp_eq (pc := 2038) 2043 dL_law_2038 (by decide) (in_12 he) (in_12 he) (fun _ => ?_) (fun q => absurd rfl q)
    refine x_iload (pc := 2043) dL_law_2043 1 rfl ?_
    refine x_if_ne (pc := 2045) 2060 dL_law_2045 (by decide) (in_12 he) (fun _ => ?_) (fun q => by exfalso; omega)
    refine x_goto (pc := 2060) 2773 dL_law_2060 (by decide) ?_
    exact x_lv [2, 3, 4, 5, 6, 7] rfl (x_widen (by omega) (by omega) kk)
theorem law_31 {G : GG} {m : Mem} {K : Nat} {c0 s0 : Nat} {i : Int} (h : IV m K) (hK : K ≤ 600) (hi : 0 ≤ i ∧ i + 5 ≤ (gV G 8 : Nat)) (hL : gV G 8 < 2147483648) (hc : c0 ≤ 400000) (hs : s0 ≤ 6000000) : LST G m K c0 s0 i 2063 := by
  rcases pr_chargeIn (G := G) h hK (inI_of (gSx G (i + 1).toNat)) (inI_of (gSx G (i + 2).toNat)) with ⟨R, r, c1, m2, hR, hr, hC, hM, e49, e7, hI⟩ | ⟨R, e, m2, hR, he, hC, hM, e7, hI⟩
  · refine ⟨m2, hI, fun res h' kk => ?_⟩
    unfold lvL at kk ⊢
    refine x_aload_n (pc := 2063) dL_law_2063 2 rfl ?_
    refine x_aload_n (pc := 2064) dL_law_2064 1 rfl ?_
    refine x_iload (pc := 2065) dL_law_2065 0 rfl ?_
    refine x_iconst (pc := 2067) dL_law_2067 ?_
    refine x_iadd (pc := 2068) dL_law_2068 ?_
    refine x_sld (pc := 2069) (a := (i + 1).toNat) dL_law_2069 (by omega) (by omega) hL ?_
    refine x_aload_n (pc := 2070) dL_law_2070 1 rfl ?_
    refine x_iload (pc := 2071) dL_law_2071 0 rfl ?_
    refine x_iconst (pc := 2073) dL_law_2073 ?_
    refine x_iadd (pc := 2074) dL_law_2074 ?_
    refine x_sld (pc := 2075) (a := (i + 2).toNat) dL_law_2075 (by omega) (by omega) hL ?_
    refine x_aload_n (pc := 2076) dL_law_2076 4 rfl ?_
    refine l_callW (pc := 2077) _ dL_law_2077 hC lsL_246 rfl (Nat.le_of_ble_eq_true rfl) (by decide) rfl (by omega) (by omega) ?_
    refine x_istore (pc := 2080) (lv' := [(6, _), (5, _), (0, _), (1, _), (2, _), (3, _), (4, _)]) dL_law_2080 (by decide) rfl ?_
    refine x_aload_n (pc := 2082) dL_law_2082 4 rfl ?_
    refine x_aload_n (pc := 2083) dL_law_2083 2 rfl ?_
    refine x_iload (pc := 2084) dL_law_2084 1 rfl ?_
    refine x_iconst (pc := 2086) dL_law_2086 ?_
    refine x_iadd (pc := 2087) dL_law_2087 ?_
    refine x_sld (pc := 2088) (a := (i + 1).toNat) dL_law_2088 (by omega) (by omega) hL ?_
    refine x_aload_n (pc := 2089) dL_law_2089 2 rfl ?_
    refine x_iload (pc := 2090) dL_law_2090 1 rfl ?_
    refine x_iconst (pc := 2092) dL_law_2092 ?_
    refine x_iadd (pc := 2093) dL_law_2093 ?_
    refine x_sld (pc := 2094) (a := (i + 2).toNat) dL_law_2094 (by omega) (by omega) hL ?_
    refine l_callV (pc := 2095) _ dL_law_2095 (.inl hR) hM lkL_248 rfl rfl rfl rfl (mem_dom0 (by decide) (by decide)) (Nat.le_of_ble_eq_true rfl) (by decide) rfl (by omega) (by omega) ?_
    refine x_istore (pc := 2098) (lv' := [(7, _), (6, _), (5, _), (0, _), (1, _), (2, _), (3, _), (4, _)]) dL_law_2098 (by decide) rfl ?_
    refine x_aload_n (pc := 2100) dL_law_2100 5 rfl ?_
    refine l_callV (pc := 2101) _ dL_law_2101 (.inr rfl) (ct_thrown e7) lkL_158 rfl rfl rfl rfl (mem_dom0 (by decide) (by decide)) (Nat.le_of_ble_eq_true rfl) (by decide) rfl (by omega) (by omega) ?_
    refine x_iload (pc := 2104) dL_law_2104 1 rfl ?_
    refine x_icmp_eq (pc := 2106) 2111 dL_law_2106 (by decide) in_01 in_01 (fun _ => ?_) (fun q => absurd rfl q)
    refine x_iload (pc := 2111) dL_law_2111 1 rfl ?_
    refine x_if_ne (pc := 2113) 2128 dL_law_2113 (by decide) in_01 (fun q => absurd rfl q) (fun _ => ?_)
    refine x_aload_n (pc := 2116) dL_law_2116 6 rfl ?_
    refine x_iconst (pc := 2117) dL_law_2117 ?_
    refine y_lald (pc := 2118) dL_law_2118 rfl (by decide) ⟨by decide, by decide⟩ ?_
    rw [e49]
    refine x_iload (pc := 2119) dL_law_2119 0 rfl ?_
    refine x_i2l (pc := 2121) dL_law_2121 hr ?_
    refine x_lcmp (pc := 2122) dL_law_2122 (in_IL hr) (in_IL hr) ?_
    refine x_if_eq (pc := 2123) 2128 dL_law_2123 (by decide) in_ae (fun _ => ?_) (fun q => absurd (ae_0 r) q)
    refine x_goto (pc := 2128) 2773 dL_law_2128 (by decide) ?_
    exact x_lv [2, 3, 4, 5, 6, 7] rfl (x_widen (by omega) (by omega) kk)
  · refine ⟨m2, hI, fun res h' kk => ?_⟩
    unfold lvL at kk ⊢
    refine x_aload_n (pc := 2063) dL_law_2063 2 rfl ?_
    refine x_aload_n (pc := 2064) dL_law_2064 1 rfl ?_
    refine x_iload (pc := 2065) dL_law_2065 0 rfl ?_
    refine x_iconst (pc := 2067) dL_law_2067 ?_
    refine x_iadd (pc := 2068) dL_law_2068 ?_
    refine x_sld (pc := 2069) (a := (i + 1).toNat) dL_law_2069 (by omega) (by omega) hL ?_
    refine x_aload_n (pc := 2070) dL_law_2070 1 rfl ?_
    refine x_iload (pc := 2071) dL_law_2071 0 rfl ?_
    refine x_iconst (pc := 2073) dL_law_2073 ?_
    refine x_iadd (pc := 2074) dL_law_2074 ?_
    refine x_sld (pc := 2075) (a := (i + 2).toNat) dL_law_2075 (by omega) (by omega) hL ?_
    refine x_aload_n (pc := 2076) dL_law_2076 4 rfl ?_
    refine l_callE (pc := 2077) _ dL_law_2077 hC lsL_246 rfl (Nat.le_of_ble_eq_true rfl) (by decide) rfl (by omega) (by omega) ?_
    refine x_istore (pc := 2080) (lv' := [(6, _), (5, _), (0, _), (1, _), (2, _), (3, _), (4, _)]) dL_law_2080 (by decide) rfl ?_
    refine x_aload_n (pc := 2082) dL_law_2082 4 rfl ?_
    refine x_aload_n (pc := 2083) dL_law_2083 2 rfl ?_
    refine x_iload (pc := 2084) dL_law_2084 1 rfl ?_
    refine x_iconst (pc := 2086) dL_law_2086 ?_
    refine x_iadd (pc := 2087) dL_law_2087 ?_
    refine x_sld (pc := 2088) (a := (i + 1).toNat) dL_law_2088 (by omega) (by omega) hL ?_
    refine x_aload_n (pc := 2089) dL_law_2089 2 rfl ?_
    refine x_iload (pc := 2090) dL_law_2090 1 rfl ?_
    refine x_iconst (pc := 2092) dL_law_2092 ?_
    refine x_iadd (pc := 2093) dL_law_2093 ?_
    refine x_sld (pc := 2094) (a := (i + 2).toNat) dL_law_2094 (by omega) (by omega) hL ?_
    refine l_callV (pc := 2095) _ dL_law_2095 (.inl hR) hM lkL_248 rfl rfl rfl rfl (mem_dom0 (by decide) (by decide)) (Nat.le_of_ble_eq_true rfl) (by decide) rfl (by omega) (by omega) ?_
    refine x_istore (pc := 2098) (lv' := [(7, _), (6, _), (5, _), (0, _), (1, _), (2, _), (3, _), (4, _)]) dL_law_2098 (by decide) rfl ?_
    refine x_aload_n (pc := 2100) dL_law_2100 5 rfl ?_
    refine l_callV (pc := 2101) _ dL_law_2101 (.inr rfl) (ct_thrown e7) lkL_158 rfl rfl rfl rfl (mem_dom0 (by decide) (by decide)) (Nat.le_of_ble_eq_true rfl) (by decide) rfl (by omega) (by omega) ?_
    refine x_iload (pc := 2104) dL_law_2104 1 rfl ?_
    refine x_icmp_eq (pc := 2106) 2111 dL_law_2106 (by decide) (in_12 he) (in_12 he) (fun _ => ?_) (fun q => absurd rfl q)
    refine x_iload (pc := 2111) dL_law_2111 1 rfl ?_
    refine x_if_ne (pc := 2113) 2128 dL_law_2113 (by decide) (in_12 he) (fun _ => ?_) (fun q => by exfalso; omega)
    refine x_goto (pc := 2128) 2773 dL_law_2128 (by decide) ?_
    exact x_lv [2, 3, 4, 5, 6, 7] rfl (x_widen (by omega) (by omega) kk)
theorem law_32 {G : GG} {m : Mem} {K : Nat} {c0 s0 : Nat} {i : Int} (h : IV m K) (hK : K ≤ 600) (hi : 0 ≤ i ∧ i + 5 ≤ (gV G 8 : Nat)) (hL : gV G 8 < 2147483648) (hc : c0 ≤ 400000) (hs : s0 ≤ 6000000) : LST G m K c0 s0 i 2131 := by
  rcases pr_missIn (G := G) h hK (inI_of (gSx G (i + 1).toNat)) with ⟨R, r, c1, m2, hR, hr, hC, hM, e49, e7, hI⟩ | ⟨R, e, m2, hR, he, hC, hM, e7, hI⟩
  · refine ⟨m2, hI, fun res h' kk => ?_⟩
    unfold lvL at kk ⊢
    refine x_aload_n (pc := 2131) dL_law_2131 2 rfl ?_
    refine x_aload_n (pc := 2132) dL_law_2132 1 rfl ?_
    refine x_iload (pc := 2133) dL_law_2133 0 rfl ?_
    refine x_iconst (pc := 2135) dL_law_2135 ?_
    refine x_iadd (pc := 2136) dL_law_2136 ?_
    refine x_sld (pc := 2137) (a := (i + 1).toNat) dL_law_2137 (by omega) (by omega) hL ?_
    refine x_aload_n (pc := 2138) dL_law_2138 4 rfl ?_
    refine l_callW (pc := 2139) _ dL_law_2139 hC lsL_249 rfl (Nat.le_of_ble_eq_true rfl) (by decide) rfl (by omega) (by omega) ?_
    refine x_istore (pc := 2142) (lv' := [(6, _), (5, _), (0, _), (1, _), (2, _), (3, _), (4, _)]) dL_law_2142 (by decide) rfl ?_
    refine x_aload_n (pc := 2144) dL_law_2144 4 rfl ?_
    refine x_aload_n (pc := 2145) dL_law_2145 2 rfl ?_
    refine x_iload (pc := 2146) dL_law_2146 1 rfl ?_
    refine x_iconst (pc := 2148) dL_law_2148 ?_
    refine x_iadd (pc := 2149) dL_law_2149 ?_
    refine x_sld (pc := 2150) (a := (i + 1).toNat) dL_law_2150 (by omega) (by omega) hL ?_
    refine l_callV (pc := 2151) _ dL_law_2151 (.inl hR) hM lkL_251 rfl rfl rfl rfl (mem_dom0 (by decide) (by decide)) (Nat.le_of_ble_eq_true rfl) (by decide) rfl (by omega) (by omega) ?_
    refine x_istore (pc := 2154) (lv' := [(7, _), (6, _), (5, _), (0, _), (1, _), (2, _), (3, _), (4, _)]) dL_law_2154 (by decide) rfl ?_
    refine x_aload_n (pc := 2156) dL_law_2156 5 rfl ?_
    refine l_callV (pc := 2157) _ dL_law_2157 (.inr rfl) (ct_thrown e7) lkL_158 rfl rfl rfl rfl (mem_dom0 (by decide) (by decide)) (Nat.le_of_ble_eq_true rfl) (by decide) rfl (by omega) (by omega) ?_
    refine x_iload (pc := 2160) dL_law_2160 1 rfl ?_
    refine x_icmp_eq (pc := 2162) 2167 dL_law_2162 (by decide) in_01 in_01 (fun _ => ?_) (fun q => absurd rfl q)
    refine x_iload (pc := 2167) dL_law_2167 1 rfl ?_
    refine x_if_ne (pc := 2169) 2184 dL_law_2169 (by decide) in_01 (fun q => absurd rfl q) (fun _ => ?_)
    refine x_aload_n (pc := 2172) dL_law_2172 6 rfl ?_
    refine x_iconst (pc := 2173) dL_law_2173 ?_
    refine y_lald (pc := 2174) dL_law_2174 rfl (by decide) ⟨by decide, by decide⟩ ?_
    rw [e49]
    refine x_iload (pc := 2175) dL_law_2175 0 rfl ?_
    refine x_i2l (pc := 2177) dL_law_2177 hr ?_
    refine x_lcmp (pc := 2178) dL_law_2178 (in_IL hr) (in_IL hr) ?_
    refine x_if_eq (pc := 2179) 2184 dL_law_2179 (by decide) in_ae (fun _ => ?_) (fun q => absurd (ae_0 r) q)
    refine x_goto (pc := 2184) 2773 dL_law_2184 (by decide) ?_
    exact x_lv [2, 3, 4, 5, 6, 7] rfl (x_widen (by omega) (by omega) kk)
  · refine ⟨m2, hI, fun res h' kk => ?_⟩
    unfold lvL at kk ⊢
    refine x_aload_n (pc := 2131) dL_law_2131 2 rfl ?_
    refine x_aload_n (pc := 2132) dL_law_2132 1 rfl ?_
    refine x_iload (pc := 2133) dL_law_2133 0 rfl ?_
    refine x_iconst (pc := 2135) dL_law_2135 ?_
    refine x_iadd (pc := 2136) dL_law_2136 ?_
    refine x_sld (pc := 2137) (a := (i + 1).toNat) dL_law_2137 (by omega) (by omega) hL ?_
    refine x_aload_n (pc := 2138) dL_law_2138 4 rfl ?_
    refine l_callE (pc := 2139) _ dL_law_2139 hC lsL_249 rfl (Nat.le_of_ble_eq_true rfl) (by decide) rfl (by omega) (by omega) ?_
    refine x_istore (pc := 2142) (lv' := [(6, _), (5, _), (0, _), (1, _), (2, _), (3, _), (4, _)]) dL_law_2142 (by decide) rfl ?_
    refine x_aload_n (pc := 2144) dL_law_2144 4 rfl ?_
    refine x_aload_n (pc := 2145) dL_law_2145 2 rfl ?_
    refine x_iload (pc := 2146) dL_law_2146 1 rfl ?_
    refine x_iconst (pc := 2148) dL_law_2148 ?_
    refine x_iadd (pc := 2149) dL_law_2149 ?_
    refine x_sld (pc := 2150) (a := (i + 1).toNat) dL_law_2150 (by omega) (by omega) hL ?_
    refine l_callV (pc := 2151) _ dL_law_2151 (.inl hR) hM lkL_251 rfl rfl rfl rfl (mem_dom0 (by decide) (by decide)) (Nat.le_of_ble_eq_true rfl) (by decide) rfl (by omega) (by omega) ?_
    refine x_istore (pc := 2154) (lv' := [(7, _), (6, _), (5, _), (0, _), (1, _), (2, _), (3, _), (4, _)]) dL_law_2154 (by decide) rfl ?_
    refine x_aload_n (pc := 2156) dL_law_2156 5 rfl ?_
    refine l_callV (pc := 2157) _ dL_law_2157 (.inr rfl) (ct_thrown e7) lkL_158 rfl rfl rfl rfl (mem_dom0 (by decide) (by decide)) (Nat.le_of_ble_eq_true rfl) (by decide) rfl (by omega) (by omega) ?_
    refine x_iload (pc := 2160) dL_law_2160 1 rfl ?_
    refine x_icmp_eq (pc := 2162) 2167 dL_law_2162 (by decide) (in_12 he) (in_12 he) (fun _ => ?_) (fun q => absurd rfl q)
    refine x_iload (pc := 2167) dL_law_2167 1 rfl ?_
    refine x_if_ne (pc := 2169) 2184 dL_law_2169 (by decide) (in_12 he) (fun _ => ?_) (fun q => by exfalso; omega)
    refine x_goto (pc := 2184) 2773 dL_law_2184 (by decide) ?_
    exact x_lv [2, 3, 4, 5, 6, 7] rfl (x_widen (by omega) (by omega) kk)
theorem law_33 {G : GG} {m : Mem} {K : Nat} {c0 s0 : Nat} {i : Int} (h : IV m K) (hK : K ≤ 600) (hi : 0 ≤ i ∧ i + 5 ≤ (gV G 8 : Nat)) (hL : gV G 8 < 2147483648) (hc : c0 ≤ 400000) (hs : s0 ≤ 6000000) : LST G m K c0 s0 i 2187 := by
  rcases pr_endIn (G := G) h hK (inI_of (gSx G (i + 1).toNat)) with ⟨R, r, c1, m2, hR, hr, hC, hM, e49, e7, hI⟩ | ⟨R, e, m2, hR, he, hC, hM, e7, hI⟩
  · refine ⟨m2, hI, fun res h' kk => ?_⟩
    unfold lvL at kk ⊢
    refine x_aload_n (pc := 2187) dL_law_2187 2 rfl ?_
    refine x_aload_n (pc := 2188) dL_law_2188 1 rfl ?_
    refine x_iload (pc := 2189) dL_law_2189 0 rfl ?_
    refine x_iconst (pc := 2191) dL_law_2191 ?_
    refine x_iadd (pc := 2192) dL_law_2192 ?_
    refine x_sld (pc := 2193) (a := (i + 1).toNat) dL_law_2193 (by omega) (by omega) hL ?_
    refine x_aload_n (pc := 2194) dL_law_2194 4 rfl ?_
    refine l_callW (pc := 2195) _ dL_law_2195 hC lsL_252 rfl (Nat.le_of_ble_eq_true rfl) (by decide) rfl (by omega) (by omega) ?_
    refine x_istore (pc := 2198) (lv' := [(6, _), (5, _), (0, _), (1, _), (2, _), (3, _), (4, _)]) dL_law_2198 (by decide) rfl ?_
    refine x_aload_n (pc := 2200) dL_law_2200 4 rfl ?_
    refine x_aload_n (pc := 2201) dL_law_2201 2 rfl ?_
    refine x_iload (pc := 2202) dL_law_2202 1 rfl ?_
    refine x_iconst (pc := 2204) dL_law_2204 ?_
    refine x_iadd (pc := 2205) dL_law_2205 ?_
    refine x_sld (pc := 2206) (a := (i + 1).toNat) dL_law_2206 (by omega) (by omega) hL ?_
    refine l_callV (pc := 2207) _ dL_law_2207 (.inl hR) hM lkL_254 rfl rfl rfl rfl (mem_dom0 (by decide) (by decide)) (Nat.le_of_ble_eq_true rfl) (by decide) rfl (by omega) (by omega) ?_
    refine x_istore (pc := 2210) (lv' := [(7, _), (6, _), (5, _), (0, _), (1, _), (2, _), (3, _), (4, _)]) dL_law_2210 (by decide) rfl ?_
    refine x_aload_n (pc := 2212) dL_law_2212 5 rfl ?_
    refine l_callV (pc := 2213) _ dL_law_2213 (.inr rfl) (ct_thrown e7) lkL_158 rfl rfl rfl rfl (mem_dom0 (by decide) (by decide)) (Nat.le_of_ble_eq_true rfl) (by decide) rfl (by omega) (by omega) ?_
    refine x_iload (pc := 2216) dL_law_2216 1 rfl ?_
    refine x_icmp_eq (pc := 2218) 2223 dL_law_2218 (by decide) in_01 in_01 (fun _ => ?_) (fun q => absurd rfl q)
    refine x_iload (pc := 2223) dL_law_2223 1 rfl ?_
    refine x_if_ne (pc := 2225) 2240 dL_law_2225 (by decide) in_01 (fun q => absurd rfl q) (fun _ => ?_)
    refine x_aload_n (pc := 2228) dL_law_2228 6 rfl ?_
    refine x_iconst (pc := 2229) dL_law_2229 ?_
    refine y_lald (pc := 2230) dL_law_2230 rfl (by decide) ⟨by decide, by decide⟩ ?_
    rw [e49]
    refine x_iload (pc := 2231) dL_law_2231 0 rfl ?_
    refine x_i2l (pc := 2233) dL_law_2233 hr ?_
    refine x_lcmp (pc := 2234) dL_law_2234 (in_IL hr) (in_IL hr) ?_
    refine x_if_eq (pc := 2235) 2240 dL_law_2235 (by decide) in_ae (fun _ => ?_) (fun q => absurd (ae_0 r) q)
    refine x_goto (pc := 2240) 2773 dL_law_2240 (by decide) ?_
    exact x_lv [2, 3, 4, 5, 6, 7] rfl (x_widen (by omega) (by omega) kk)
  · refine ⟨m2, hI, fun res h' kk => ?_⟩
    unfold lvL at kk ⊢
    refine x_aload_n (pc := 2187) dL_law_2187 2 rfl ?_
    refine x_aload_n (pc := 2188) dL_law_2188 1 rfl ?_
    refine x_iload (pc := 2189) dL_law_2189 0 rfl ?_
    refine x_iconst (pc := 2191) dL_law_2191 ?_
    refine x_iadd (pc := 2192) dL_law_2192 ?_
    refine x_sld (pc := 2193) (a := (i + 1).toNat) dL_law_2193 (by omega) (by omega) hL ?_
    refine x_aload_n (pc := 2194) dL_law_2194 4 rfl ?_
    refine l_callE (pc := 2195) _ dL_law_2195 hC lsL_252 rfl (Nat.le_of_ble_eq_true rfl) (by decide) rfl (by omega) (by omega) ?_
    refine x_istore (pc := 2198) (lv' := [(6, _), (5, _), (0, _), (1, _), (2, _), (3, _), (4, _)]) dL_law_2198 (by decide) rfl ?_
    refine x_aload_n (pc := 2200) dL_law_2200 4 rfl ?_
    refine x_aload_n (pc := 2201) dL_law_2201 2 rfl ?_
    refine x_iload (pc := 2202) dL_law_2202 1 rfl ?_
    refine x_iconst (pc := 2204) dL_law_2204 ?_
    refine x_iadd (pc := 2205) dL_law_2205 ?_
    refine x_sld (pc := 2206) (a := (i + 1).toNat) dL_law_2206 (by omega) (by omega) hL ?_
    refine l_callV (pc := 2207) _ dL_law_2207 (.inl hR) hM lkL_254 rfl rfl rfl rfl (mem_dom0 (by decide) (by decide)) (Nat.le_of_ble_eq_true rfl) (by decide) rfl (by omega) (by omega) ?_
    refine x_istore (pc := 2210) (lv' := [(7, _), (6, _), (5, _), (0, _), (1, _), (2, _), (3, _), (4, _)]) dL_law_2210 (by decide) rfl ?_
    refine x_aload_n (pc := 2212) dL_law_2212 5 rfl ?_
    refine l_callV (pc := 2213) _ dL_law_2213 (.inr rfl) (ct_thrown e7) lkL_158 rfl rfl rfl rfl (mem_dom0 (by decide) (by decide)) (Nat.le_of_ble_eq_true rfl) (by decide) rfl (by omega) (by omega) ?_
    refine x_iload (pc := 2216) dL_law_2216 1 rfl ?_
    refine x_icmp_eq (pc := 2218) 2223 dL_law_2218 (by decide) (in_12 he) (in_12 he) (fun _ => ?_) (fun q => absurd rfl q)
    refine x_iload (pc := 2223) dL_law_2223 1 rfl ?_
    refine x_if_ne (pc := 2225) 2240 dL_law_2225 (by decide) (in_12 he) (fun _ => ?_) (fun q => by exfalso; omega)
    refine x_goto (pc := 2240) 2773 dL_law_2240 (by decide) ?_
    exact x_lv [2, 3, 4, 5, 6, 7] rfl (x_widen (by omega) (by omega) kk)
theorem law_34 {G : GG} {m : Mem} {K : Nat} {c0 s0 : Nat} {i : Int} (h : IV m K) (hK : K ≤ 600) (hi : 0 ≤ i ∧ i + 5 ≤ (gV G 8 : Nat)) (hL : gV G 8 < 2147483648) (hc : c0 ≤ 400000) (hs : s0 ≤ 6000000) : LST G m K c0 s0 i 2243 := by
  rcases pr_endAs (G := G) h hK (inI_of (gSx G (i + 1).toNat)) with ⟨R, r, c1, m2, hR, hr, hC, hM, e49, e7, hI⟩ | ⟨R, e, m2, hR, he, hC, hM, e7, hI⟩
  · refine ⟨m2, hI, fun res h' kk => ?_⟩
    unfold lvL at kk ⊢
    refine x_aload_n (pc := 2243) dL_law_2243 2 rfl ?_
    refine x_aload_n (pc := 2244) dL_law_2244 1 rfl ?_
    refine x_iload (pc := 2245) dL_law_2245 0 rfl ?_
    refine x_iconst (pc := 2247) dL_law_2247 ?_
    refine x_iadd (pc := 2248) dL_law_2248 ?_
    refine x_sld (pc := 2249) (a := (i + 1).toNat) dL_law_2249 (by omega) (by omega) hL ?_
    refine x_aload_n (pc := 2250) dL_law_2250 4 rfl ?_
    refine l_callW (pc := 2251) _ dL_law_2251 hC lsL_255 rfl (Nat.le_of_ble_eq_true rfl) (by decide) rfl (by omega) (by omega) ?_
    refine x_istore (pc := 2254) (lv' := [(6, _), (5, _), (0, _), (1, _), (2, _), (3, _), (4, _)]) dL_law_2254 (by decide) rfl ?_
    refine x_aload_n (pc := 2256) dL_law_2256 4 rfl ?_
    refine x_aload_n (pc := 2257) dL_law_2257 2 rfl ?_
    refine x_iload (pc := 2258) dL_law_2258 1 rfl ?_
    refine x_iconst (pc := 2260) dL_law_2260 ?_
    refine x_iadd (pc := 2261) dL_law_2261 ?_
    refine x_sld (pc := 2262) (a := (i + 1).toNat) dL_law_2262 (by omega) (by omega) hL ?_
    refine l_callV (pc := 2263) _ dL_law_2263 (.inl hR) hM lkL_257 rfl rfl rfl rfl (mem_dom0 (by decide) (by decide)) (Nat.le_of_ble_eq_true rfl) (by decide) rfl (by omega) (by omega) ?_
    refine x_istore (pc := 2266) (lv' := [(7, _), (6, _), (5, _), (0, _), (1, _), (2, _), (3, _), (4, _)]) dL_law_2266 (by decide) rfl ?_
    refine x_aload_n (pc := 2268) dL_law_2268 5 rfl ?_
    refine l_callV (pc := 2269) _ dL_law_2269 (.inr rfl) (ct_thrown e7) lkL_158 rfl rfl rfl rfl (mem_dom0 (by decide) (by decide)) (Nat.le_of_ble_eq_true rfl) (by decide) rfl (by omega) (by omega) ?_
    refine x_iload (pc := 2272) dL_law_2272 1 rfl ?_
    refine x_icmp_eq (pc := 2274) 2279 dL_law_2274 (by decide) in_01 in_01 (fun _ => ?_) (fun q => absurd rfl q)
    refine x_iload (pc := 2279) dL_law_2279 1 rfl ?_
    refine x_if_ne (pc := 2281) 2296 dL_law_2281 (by decide) in_01 (fun q => absurd rfl q) (fun _ => ?_)
    refine x_aload_n (pc := 2284) dL_law_2284 6 rfl ?_
    refine x_iconst (pc := 2285) dL_law_2285 ?_
    refine y_lald (pc := 2286) dL_law_2286 rfl (by decide) ⟨by decide, by decide⟩ ?_
    rw [e49]
    refine x_iload (pc := 2287) dL_law_2287 0 rfl ?_
    refine x_i2l (pc := 2289) dL_law_2289 hr ?_
    refine x_lcmp (pc := 2290) dL_law_2290 (in_IL hr) (in_IL hr) ?_
    refine x_if_eq (pc := 2291) 2296 dL_law_2291 (by decide) in_ae (fun _ => ?_) (fun q => absurd (ae_0 r) q)
    refine x_goto (pc := 2296) 2773 dL_law_2296 (by decide) ?_
    exact x_lv [2, 3, 4, 5, 6, 7] rfl (x_widen (by omega) (by omega) kk)
  · refine ⟨m2, hI, fun res h' kk => ?_⟩
    unfold lvL at kk ⊢
    refine x_aload_n (pc := 2243) dL_law_2243 2 rfl ?_
    refine x_aload_n (pc := 2244) dL_law_2244 1 rfl ?_
    refine x_iload (pc := 2245) dL_law_2245 0 rfl ?_
    refine x_iconst (pc := 2247) dL_law_2247 ?_
    refine x_iadd (pc := 2248) dL_law_2248 ?_
    refine x_sld (pc := 2249) (a := (i + 1).toNat) dL_law_2249 (by omega) (by omega) hL ?_
    refine x_aload_n (pc := 2250) dL_law_2250 4 rfl ?_
    refine l_callE (pc := 2251) _ dL_law_2251 hC lsL_255 rfl (Nat.le_of_ble_eq_true rfl) (by decide) rfl (by omega) (by omega) ?_
    refine x_istore (pc := 2254) (lv' := [(6, _), (5, _), (0, _), (1, _), (2, _), (3, _), (4, _)]) dL_law_2254 (by decide) rfl ?_
    refine x_aload_n (pc := 2256) dL_law_2256 4 rfl ?_
    refine x_aload_n (pc := 2257) dL_law_2257 2 rfl ?_
    refine x_iload (pc := 2258) dL_law_2258 1 rfl ?_
    refine x_iconst (pc := 2260) dL_law_2260 ?_
    refine x_iadd (pc := 2261) dL_law_2261 ?_
    refine x_sld (pc := 2262) (a := (i + 1).toNat) dL_law_2262 (by omega) (by omega) hL ?_
    refine l_callV (pc := 2263) _ dL_law_2263 (.inl hR) hM lkL_257 rfl rfl rfl rfl (mem_dom0 (by decide) (by decide)) (Nat.le_of_ble_eq_true rfl) (by decide) rfl (by omega) (by omega) ?_
    refine x_istore (pc := 2266) (lv' := [(7, _), (6, _), (5, _), (0, _), (1, _), (2, _), (3, _), (4, _)]) dL_law_2266 (by decide) rfl ?_
    refine x_aload_n (pc := 2268) dL_law_2268 5 rfl ?_
    refine l_callV (pc := 2269) _ dL_law_2269 (.inr rfl) (ct_thrown e7) lkL_158 rfl rfl rfl rfl (mem_dom0 (by decide) (by decide)) (Nat.le_of_ble_eq_true rfl) (by decide) rfl (by omega) (by omega) ?_
    refine x_iload (pc := 2272) dL_law_2272 1 rfl ?_
    refine x_icmp_eq (pc := 2274) 2279 dL_law_2274 (by decide) (in_12 he) (in_12 he) (fun _ => ?_) (fun q => absurd rfl q)
    refine x_iload (pc := 2279) dL_law_2279 1 rfl ?_
    refine x_if_ne (pc := 2281) 2296 dL_law_2281 (by decide) (in_12 he) (fun _ => ?_) (fun q => by exfalso; omega)
    refine x_goto (pc := 2296) 2773 dL_law_2296 (by decide) ?_
    exact x_lv [2, 3, 4, 5, 6, 7] rfl (x_widen (by omega) (by omega) kk)
theorem law_35 {G : GG} {m : Mem} {K : Nat} {c0 s0 : Nat} {i : Int} (h : IV m K) (hK : K ≤ 600) (hi : 0 ≤ i ∧ i + 5 ≤ (gV G 8 : Nat)) (hL : gV G 8 < 2147483648) (hc : c0 ≤ 400000) (hs : s0 ≤ 6000000) : LST G m K c0 s0 i 2299 := by
  rcases pr_lacks (G := G) h hK (inI_of (gSx G (i + 1).toNat)) with ⟨R, r, c1, m2, hR, hr, hC, hM, e49, e7, hI⟩ | ⟨R, e, m2, hR, he, hC, hM, e7, hI⟩
  · refine ⟨m2, hI, fun res h' kk => ?_⟩
    unfold lvL at kk ⊢
    refine x_aload_n (pc := 2299) dL_law_2299 2 rfl ?_
    refine x_aload_n (pc := 2300) dL_law_2300 1 rfl ?_
    refine x_iload (pc := 2301) dL_law_2301 0 rfl ?_
    refine x_iconst (pc := 2303) dL_law_2303 ?_
    refine x_iadd (pc := 2304) dL_law_2304 ?_
    refine x_sld (pc := 2305) (a := (i + 1).toNat) dL_law_2305 (by omega) (by omega) hL ?_
    refine x_aload_n (pc := 2306) dL_law_2306 4 rfl ?_
    refine l_callW (pc := 2307) _ dL_law_2307 hC lsL_258 rfl (Nat.le_of_ble_eq_true rfl) (by decide) rfl (by omega) (by omega) ?_
    refine x_istore (pc := 2310) (lv' := [(6, _), (5, _), (0, _), (1, _), (2, _), (3, _), (4, _)]) dL_law_2310 (by decide) rfl ?_
    refine x_aload_n (pc := 2312) dL_law_2312 4 rfl ?_
    refine x_aload_n (pc := 2313) dL_law_2313 2 rfl ?_
    refine x_iload (pc := 2314) dL_law_2314 1 rfl ?_
    refine x_iconst (pc := 2316) dL_law_2316 ?_
    refine x_iadd (pc := 2317) dL_law_2317 ?_
    refine x_sld (pc := 2318) (a := (i + 1).toNat) dL_law_2318 (by omega) (by omega) hL ?_
    refine l_callV (pc := 2319) _ dL_law_2319 (.inl hR) hM lkL_260 rfl rfl rfl rfl (mem_dom0 (by decide) (by decide)) (Nat.le_of_ble_eq_true rfl) (by decide) rfl (by omega) (by omega) ?_
    refine x_istore (pc := 2322) (lv' := [(7, _), (6, _), (5, _), (0, _), (1, _), (2, _), (3, _), (4, _)]) dL_law_2322 (by decide) rfl ?_
    refine x_aload_n (pc := 2324) dL_law_2324 5 rfl ?_
    refine l_callV (pc := 2325) _ dL_law_2325 (.inr rfl) (ct_thrown e7) lkL_158 rfl rfl rfl rfl (mem_dom0 (by decide) (by decide)) (Nat.le_of_ble_eq_true rfl) (by decide) rfl (by omega) (by omega) ?_
    refine x_iload (pc := 2328) dL_law_2328 1 rfl ?_
    refine x_icmp_eq (pc := 2330) 2335 dL_law_2330 (by decide) in_01 in_01 (fun _ => ?_) (fun q => absurd rfl q)
    refine x_iload (pc := 2335) dL_law_2335 1 rfl ?_
    refine x_if_ne (pc := 2337) 2352 dL_law_2337 (by decide) in_01 (fun q => absurd rfl q) (fun _ => ?_)
    refine x_aload_n (pc := 2340) dL_law_2340 6 rfl ?_
    refine x_iconst (pc := 2341) dL_law_2341 ?_
    refine y_lald (pc := 2342) dL_law_2342 rfl (by decide) ⟨by decide, by decide⟩ ?_
    rw [e49]
    refine x_iload (pc := 2343) dL_law_2343 0 rfl ?_
    refine x_i2l (pc := 2345) dL_law_2345 hr ?_
    refine x_lcmp (pc := 2346) dL_law_2346 (in_IL hr) (in_IL hr) ?_
    refine x_if_eq (pc := 2347) 2352 dL_law_2347 (by decide) in_ae (fun _ => ?_) (fun q => absurd (ae_0 r) q)
    refine x_goto (pc := 2352) 2773 dL_law_2352 (by decide) ?_
    exact x_lv [2, 3, 4, 5, 6, 7] rfl (x_widen (by omega) (by omega) kk)
  · refine ⟨m2, hI, fun res h' kk => ?_⟩
    unfold lvL at kk ⊢
    refine x_aload_n (pc := 2299) dL_law_2299 2 rfl ?_
    refine x_aload_n (pc := 2300) dL_law_2300 1 rfl ?_
    refine x_iload (pc := 2301) dL_law_2301 0 rfl ?_
    refine x_iconst (pc := 2303) dL_law_2303 ?_
    refine x_iadd (pc := 2304) dL_law_2304 ?_
    refine x_sld (pc := 2305) (a := (i + 1).toNat) dL_law_2305 (by omega) (by omega) hL ?_
    refine x_aload_n (pc := 2306) dL_law_2306 4 rfl ?_
    refine l_callE (pc := 2307) _ dL_law_2307 hC lsL_258 rfl (Nat.le_of_ble_eq_true rfl) (by decide) rfl (by omega) (by omega) ?_
    refine x_istore (pc := 2310) (lv' := [(6, _), (5, _), (0, _), (1, _), (2, _), (3, _), (4, _)]) dL_law_2310 (by decide) rfl ?_
    refine x_aload_n (pc := 2312) dL_law_2312 4 rfl ?_
    refine x_aload_n (pc := 2313) dL_law_2313 2 rfl ?_
    refine x_iload (pc := 2314) dL_law_2314 1 rfl ?_
    refine x_iconst (pc := 2316) dL_law_2316 ?_
    refine x_iadd (pc := 2317) dL_law_2317 ?_
    refine x_sld (pc := 2318) (a := (i + 1).toNat) dL_law_2318 (by omega) (by omega) hL ?_
    refine l_callV (pc := 2319) _ dL_law_2319 (.inl hR) hM lkL_260 rfl rfl rfl rfl (mem_dom0 (by decide) (by decide)) (Nat.le_of_ble_eq_true rfl) (by decide) rfl (by omega) (by omega) ?_
    refine x_istore (pc := 2322) (lv' := [(7, _), (6, _), (5, _), (0, _), (1, _), (2, _), (3, _), (4, _)]) dL_law_2322 (by decide) rfl ?_
    refine x_aload_n (pc := 2324) dL_law_2324 5 rfl ?_
    refine l_callV (pc := 2325) _ dL_law_2325 (.inr rfl) (ct_thrown e7) lkL_158 rfl rfl rfl rfl (mem_dom0 (by decide) (by decide)) (Nat.le_of_ble_eq_true rfl) (by decide) rfl (by omega) (by omega) ?_
    refine x_iload (pc := 2328) dL_law_2328 1 rfl ?_
    refine x_icmp_eq (pc := 2330) 2335 dL_law_2330 (by decide) (in_12 he) (in_12 he) (fun _ => ?_) (fun q => absurd rfl q)
    refine x_iload (pc := 2335) dL_law_2335 1 rfl ?_
    refine x_if_ne (pc := 2337) 2352 dL_law_2337 (by decide) (in_12 he) (fun _ => ?_) (fun q => by exfalso; omega)
    refine x_goto (pc := 2352) 2773 dL_law_2352 (by decide) ?_
    exact x_lv [2, 3, 4, 5, 6, 7] rfl (x_widen (by omega) (by omega) kk)
theorem law_36 {G : GG} {m : Mem} {K : Nat} {c0 s0 : Nat} {i : Int} (h : IV m K) (hK : K ≤ 600) (hi : 0 ≤ i ∧ i + 5 ≤ (gV G 8 : Nat)) (hL : gV G 8 < 2147483648) (hc : c0 ≤ 400000) (hs : s0 ≤ 6000000) : LST G m K c0 s0 i 2355 := by
  rcases pr_isSafe (G := G) h hK (inI_of (gSx G (i + 1).toNat)) (inI_of (gSx G (i + 2).toNat)) (inI_of (gSx G (i + 3).toNat)) with ⟨R, r, c1, m2, hR, hr, hC, hM, e49, e7, hI⟩ | ⟨R, e, m2, hR, he, hC, hM, e7, hI⟩
  · refine ⟨m2, hI, fun res h' kk => ?_⟩
    unfold lvL at kk ⊢
    refine x_aload_n (pc := 2355) dL_law_2355 2 rfl ?_
    refine x_aload_n (pc := 2356) dL_law_2356 1 rfl ?_
    refine x_iload (pc := 2357) dL_law_2357 0 rfl ?_
    refine x_iconst (pc := 2359) dL_law_2359 ?_
    refine x_iadd (pc := 2360) dL_law_2360 ?_
    refine x_sld (pc := 2361) (a := (i + 1).toNat) dL_law_2361 (by omega) (by omega) hL ?_
    refine x_aload_n (pc := 2362) dL_law_2362 1 rfl ?_
    refine x_iload (pc := 2363) dL_law_2363 0 rfl ?_
    refine x_iconst (pc := 2365) dL_law_2365 ?_
    refine x_iadd (pc := 2366) dL_law_2366 ?_
    refine x_sld (pc := 2367) (a := (i + 2).toNat) dL_law_2367 (by omega) (by omega) hL ?_
    refine x_aload_n (pc := 2368) dL_law_2368 1 rfl ?_
    refine x_iload (pc := 2369) dL_law_2369 0 rfl ?_
    refine x_iconst (pc := 2371) dL_law_2371 ?_
    refine x_iadd (pc := 2372) dL_law_2372 ?_
    refine x_sld (pc := 2373) (a := (i + 3).toNat) dL_law_2373 (by omega) (by omega) hL ?_
    refine x_aload_n (pc := 2374) dL_law_2374 4 rfl ?_
    refine l_callW (pc := 2375) _ dL_law_2375 hC lsL_261 rfl (Nat.le_of_ble_eq_true rfl) (by decide) rfl (by omega) (by omega) ?_
    refine x_istore (pc := 2378) (lv' := [(6, _), (5, _), (0, _), (1, _), (2, _), (3, _), (4, _)]) dL_law_2378 (by decide) rfl ?_
    refine x_aload_n (pc := 2380) dL_law_2380 4 rfl ?_
    refine x_aload_n (pc := 2381) dL_law_2381 2 rfl ?_
    refine x_iload (pc := 2382) dL_law_2382 1 rfl ?_
    refine x_iconst (pc := 2384) dL_law_2384 ?_
    refine x_iadd (pc := 2385) dL_law_2385 ?_
    refine x_sld (pc := 2386) (a := (i + 1).toNat) dL_law_2386 (by omega) (by omega) hL ?_
    refine x_aload_n (pc := 2387) dL_law_2387 2 rfl ?_
    refine x_iload (pc := 2388) dL_law_2388 1 rfl ?_
    refine x_iconst (pc := 2390) dL_law_2390 ?_
    refine x_iadd (pc := 2391) dL_law_2391 ?_
    refine x_sld (pc := 2392) (a := (i + 2).toNat) dL_law_2392 (by omega) (by omega) hL ?_
    refine x_aload_n (pc := 2393) dL_law_2393 2 rfl ?_
    refine x_iload (pc := 2394) dL_law_2394 1 rfl ?_
    refine x_iconst (pc := 2396) dL_law_2396 ?_
    refine x_iadd (pc := 2397) dL_law_2397 ?_
    refine x_sld (pc := 2398) (a := (i + 3).toNat) dL_law_2398 (by omega) (by omega) hL ?_
    refine l_callV (pc := 2399) _ dL_law_2399 (.inl hR) hM lkL_263 rfl rfl rfl rfl (mem_dom0 (by decide) (by decide)) (Nat.le_of_ble_eq_true rfl) (by decide) rfl (by omega) (by omega) ?_
    refine x_istore (pc := 2402) (lv' := [(7, _), (6, _), (5, _), (0, _), (1, _), (2, _), (3, _), (4, _)]) dL_law_2402 (by decide) rfl ?_
    refine x_aload_n (pc := 2404) dL_law_2404 5 rfl ?_
    refine l_callV (pc := 2405) _ dL_law_2405 (.inr rfl) (ct_thrown e7) lkL_158 rfl rfl rfl rfl (mem_dom0 (by decide) (by decide)) (Nat.le_of_ble_eq_true rfl) (by decide) rfl (by omega) (by omega) ?_
    refine x_iload (pc := 2408) dL_law_2408 1 rfl ?_
    refine x_icmp_eq (pc := 2410) 2415 dL_law_2410 (by decide) in_01 in_01 (fun _ => ?_) (fun q => absurd rfl q)
    refine x_iload (pc := 2415) dL_law_2415 1 rfl ?_
    refine x_if_ne (pc := 2417) 2439 dL_law_2417 (by decide) in_01 (fun q => absurd rfl q) (fun _ => ?_)
    refine x_aload_n (pc := 2420) dL_law_2420 6 rfl ?_
    refine x_iconst (pc := 2421) dL_law_2421 ?_
    refine y_lald (pc := 2422) dL_law_2422 rfl (by decide) ⟨by decide, by decide⟩ ?_
    rw [e49]
    refine x_iload (pc := 2423) dL_law_2423 0 rfl ?_
    have hr1 : inI r := by unfold inI; omega
    refine x_if_eq (pc := 2425) 2432 dL_law_2425 (by decide) hr1 (fun q => ?_) (fun q => ?_)
    · subst q
      refine x_lconst (pc := 2432) (z := 0) dL_law_2432 (by decide +kernel) ?_
      refine x_lcmp (pc := 2433) dL_law_2433 (by unfold inL; decide) (by unfold inL; decide) ?_
      refine x_if_eq (pc := 2434) 2439 dL_law_2434 (by decide) in_ae (fun _ => ?_) (fun q => absurd (by decide) q)
      refine x_goto (pc := 2439) 2773 dL_law_2439 (by decide) ?_
      exact x_lv [2, 3, 4, 5, 6, 7] rfl (x_widen (by omega) (by omega) kk)
    · have q1 : r = 1 := by omega
      subst q1
      refine x_lconst (pc := 2428) (z := 1) dL_law_2428 (by decide +kernel) ?_
      refine x_goto (pc := 2429) 2433 dL_law_2429 (by decide) ?_
      refine x_lcmp (pc := 2433) dL_law_2433 (by unfold inL; decide) (by unfold inL; decide) ?_
      refine x_if_eq (pc := 2434) 2439 dL_law_2434 (by decide) in_ae (fun _ => ?_) (fun q => absurd (by decide) q)
      refine x_goto (pc := 2439) 2773 dL_law_2439 (by decide) ?_
      exact x_lv [2, 3, 4, 5, 6, 7] rfl (x_widen (by omega) (by omega) kk)
  · refine ⟨m2, hI, fun res h' kk => ?_⟩
    unfold lvL at kk ⊢
    refine x_aload_n (pc := 2355) dL_law_2355 2 rfl ?_
    refine x_aload_n (pc := 2356) dL_law_2356 1 rfl ?_
    refine x_iload (pc := 2357) dL_law_2357 0 rfl ?_
    refine x_iconst (pc := 2359) dL_law_2359 ?_
    refine x_iadd (pc := 2360) dL_law_2360 ?_
    refine x_sld (pc := 2361) (a := (i + 1).toNat) dL_law_2361 (by omega) (by omega) hL ?_
    refine x_aload_n (pc := 2362) dL_law_2362 1 rfl ?_
    refine x_iload (pc := 2363) dL_law_2363 0 rfl ?_
    refine x_iconst (pc := 2365) dL_law_2365 ?_
    refine x_iadd (pc := 2366) dL_law_2366 ?_
    refine x_sld (pc := 2367) (a := (i + 2).toNat) dL_law_2367 (by omega) (by omega) hL ?_
    refine x_aload_n (pc := 2368) dL_law_2368 1 rfl ?_
    refine x_iload (pc := 2369) dL_law_2369 0 rfl ?_
    refine x_iconst (pc := 2371) dL_law_2371 ?_
    refine x_iadd (pc := 2372) dL_law_2372 ?_
    refine x_sld (pc := 2373) (a := (i + 3).toNat) dL_law_2373 (by omega) (by omega) hL ?_
    refine x_aload_n (pc := 2374) dL_law_2374 4 rfl ?_
    refine l_callE (pc := 2375) _ dL_law_2375 hC lsL_261 rfl (Nat.le_of_ble_eq_true rfl) (by decide) rfl (by omega) (by omega) ?_
    refine x_istore (pc := 2378) (lv' := [(6, _), (5, _), (0, _), (1, _), (2, _), (3, _), (4, _)]) dL_law_2378 (by decide) rfl ?_
    refine x_aload_n (pc := 2380) dL_law_2380 4 rfl ?_
    refine x_aload_n (pc := 2381) dL_law_2381 2 rfl ?_
    refine x_iload (pc := 2382) dL_law_2382 1 rfl ?_
    refine x_iconst (pc := 2384) dL_law_2384 ?_
    refine x_iadd (pc := 2385) dL_law_2385 ?_
    refine x_sld (pc := 2386) (a := (i + 1).toNat) dL_law_2386 (by omega) (by omega) hL ?_
    refine x_aload_n (pc := 2387) dL_law_2387 2 rfl ?_
    refine x_iload (pc := 2388) dL_law_2388 1 rfl ?_
    refine x_iconst (pc := 2390) dL_law_2390 ?_
    refine x_iadd (pc := 2391) dL_law_2391 ?_
    refine x_sld (pc := 2392) (a := (i + 2).toNat) dL_law_2392 (by omega) (by omega) hL ?_
    refine x_aload_n (pc := 2393) dL_law_2393 2 rfl ?_
    refine x_iload (pc := 2394) dL_law_2394 1 rfl ?_
    refine x_iconst (pc := 2396) dL_law_2396 ?_
    refine x_iadd (pc := 2397) dL_law_2397 ?_
    refine x_sld (pc := 2398) (a := (i + 3).toNat) dL_law_2398 (by omega) (by omega) hL ?_
    refine l_callV (pc := 2399) _ dL_law_2399 (.inl hR) hM lkL_263 rfl rfl rfl rfl (mem_dom0 (by decide) (by decide)) (Nat.le_of_ble_eq_true rfl) (by decide) rfl (by omega) (by omega) ?_
    refine x_istore (pc := 2402) (lv' := [(7, _), (6, _), (5, _), (0, _), (1, _), (2, _), (3, _), (4, _)]) dL_law_2402 (by decide) rfl ?_
    refine x_aload_n (pc := 2404) dL_law_2404 5 rfl ?_
    refine l_callV (pc := 2405) _ dL_law_2405 (.inr rfl) (ct_thrown e7) lkL_158 rfl rfl rfl rfl (mem_dom0 (by decide) (by decide)) (Nat.le_of_ble_eq_true rfl) (by decide) rfl (by omega) (by omega) ?_
    refine x_iload (pc := 2408) dL_law_2408 1 rfl ?_
    refine x_icmp_eq (pc := 2410) 2415 dL_law_2410 (by decide) (in_12 he) (in_12 he) (fun _ => ?_) (fun q => absurd rfl q)
    refine x_iload (pc := 2415) dL_law_2415 1 rfl ?_
    refine x_if_ne (pc := 2417) 2439 dL_law_2417 (by decide) (in_12 he) (fun _ => ?_) (fun q => by exfalso; omega)
    refine x_goto (pc := 2439) 2773 dL_law_2439 (by decide) ?_
    exact x_lv [2, 3, 4, 5, 6, 7] rfl (x_widen (by omega) (by omega) kk)
theorem law_37 {G : GG} {m : Mem} {K : Nat} {c0 s0 : Nat} {i : Int} (h : IV m K) (hK : K ≤ 600) (hi : 0 ≤ i ∧ i + 5 ≤ (gV G 8 : Nat)) (hL : gV G 8 < 2147483648) (hc : c0 ≤ 400000) (hs : s0 ≤ 6000000) : LST G m K c0 s0 i 2442 := by
  rcases pr_wearIn (G := G) h hK (inI_of (gSx G (i + 1).toNat)) (inI_of (gSx G (i + 2).toNat)) with ⟨R, r, c1, m2, hR, hr, hC, hM, e49, e7, hI⟩ | ⟨R, e, m2, hR, he, hC, hM, e7, hI⟩
  · refine ⟨m2, hI, fun res h' kk => ?_⟩
    unfold lvL at kk ⊢
    refine x_aload_n (pc := 2442) dL_law_2442 2 rfl ?_
    refine x_aload_n (pc := 2443) dL_law_2443 1 rfl ?_
    refine x_iload (pc := 2444) dL_law_2444 0 rfl ?_
    refine x_iconst (pc := 2446) dL_law_2446 ?_
    refine x_iadd (pc := 2447) dL_law_2447 ?_
    refine x_sld (pc := 2448) (a := (i + 1).toNat) dL_law_2448 (by omega) (by omega) hL ?_
    refine x_aload_n (pc := 2449) dL_law_2449 1 rfl ?_
    refine x_iload (pc := 2450) dL_law_2450 0 rfl ?_
    refine x_iconst (pc := 2452) dL_law_2452 ?_
    refine x_iadd (pc := 2453) dL_law_2453 ?_
    refine x_sld (pc := 2454) (a := (i + 2).toNat) dL_law_2454 (by omega) (by omega) hL ?_
    refine x_aload_n (pc := 2455) dL_law_2455 4 rfl ?_
    refine l_callW (pc := 2456) _ dL_law_2456 hC lsL_264 rfl (Nat.le_of_ble_eq_true rfl) (by decide) rfl (by omega) (by omega) ?_
    refine x_istore (pc := 2459) (lv' := [(6, _), (5, _), (0, _), (1, _), (2, _), (3, _), (4, _)]) dL_law_2459 (by decide) rfl ?_
    refine x_aload_n (pc := 2461) dL_law_2461 4 rfl ?_
    refine x_aload_n (pc := 2462) dL_law_2462 2 rfl ?_
    refine x_iload (pc := 2463) dL_law_2463 1 rfl ?_
    refine x_iconst (pc := 2465) dL_law_2465 ?_
    refine x_iadd (pc := 2466) dL_law_2466 ?_
    refine x_sld (pc := 2467) (a := (i + 1).toNat) dL_law_2467 (by omega) (by omega) hL ?_
    refine x_aload_n (pc := 2468) dL_law_2468 2 rfl ?_
    refine x_iload (pc := 2469) dL_law_2469 1 rfl ?_
    refine x_iconst (pc := 2471) dL_law_2471 ?_
    refine x_iadd (pc := 2472) dL_law_2472 ?_
    refine x_sld (pc := 2473) (a := (i + 2).toNat) dL_law_2473 (by omega) (by omega) hL ?_
    refine l_callV (pc := 2474) _ dL_law_2474 (.inl hR) hM lkL_266 rfl rfl rfl rfl (mem_dom0 (by decide) (by decide)) (Nat.le_of_ble_eq_true rfl) (by decide) rfl (by omega) (by omega) ?_
    refine x_istore (pc := 2477) (lv' := [(7, _), (6, _), (5, _), (0, _), (1, _), (2, _), (3, _), (4, _)]) dL_law_2477 (by decide) rfl ?_
    refine x_aload_n (pc := 2479) dL_law_2479 5 rfl ?_
    refine l_callV (pc := 2480) _ dL_law_2480 (.inr rfl) (ct_thrown e7) lkL_158 rfl rfl rfl rfl (mem_dom0 (by decide) (by decide)) (Nat.le_of_ble_eq_true rfl) (by decide) rfl (by omega) (by omega) ?_
    refine x_iload (pc := 2483) dL_law_2483 1 rfl ?_
    refine x_icmp_eq (pc := 2485) 2490 dL_law_2485 (by decide) in_01 in_01 (fun _ => ?_) (fun q => absurd rfl q)
    refine x_iload (pc := 2490) dL_law_2490 1 rfl ?_
    refine x_if_ne (pc := 2492) 2507 dL_law_2492 (by decide) in_01 (fun q => absurd rfl q) (fun _ => ?_)
    refine x_aload_n (pc := 2495) dL_law_2495 6 rfl ?_
    refine x_iconst (pc := 2496) dL_law_2496 ?_
    refine y_lald (pc := 2497) dL_law_2497 rfl (by decide) ⟨by decide, by decide⟩ ?_
    rw [e49]
    refine x_iload (pc := 2498) dL_law_2498 0 rfl ?_
    refine x_i2l (pc := 2500) dL_law_2500 hr ?_
    refine x_lcmp (pc := 2501) dL_law_2501 (in_IL hr) (in_IL hr) ?_
    refine x_if_eq (pc := 2502) 2507 dL_law_2502 (by decide) in_ae (fun _ => ?_) (fun q => absurd (ae_0 r) q)
    refine x_goto (pc := 2507) 2773 dL_law_2507 (by decide) ?_
    exact x_lv [2, 3, 4, 5, 6, 7] rfl (x_widen (by omega) (by omega) kk)
  · refine ⟨m2, hI, fun res h' kk => ?_⟩
    unfold lvL at kk ⊢
    refine x_aload_n (pc := 2442) dL_law_2442 2 rfl ?_
    refine x_aload_n (pc := 2443) dL_law_2443 1 rfl ?_
    refine x_iload (pc := 2444) dL_law_2444 0 rfl ?_
    refine x_iconst (pc := 2446) dL_law_2446 ?_
    refine x_iadd (pc := 2447) dL_law_2447 ?_
    refine x_sld (pc := 2448) (a := (i + 1).toNat) dL_law_2448 (by omega) (by omega) hL ?_
    refine x_aload_n (pc := 2449) dL_law_2449 1 rfl ?_
    refine x_iload (pc := 2450) dL_law_2450 0 rfl ?_
    refine x_iconst (pc := 2452) dL_law_2452 ?_
    refine x_iadd (pc := 2453) dL_law_2453 ?_
    refine x_sld (pc := 2454) (a := (i + 2).toNat) dL_law_2454 (by omega) (by omega) hL ?_
    refine x_aload_n (pc := 2455) dL_law_2455 4 rfl ?_
    refine l_callE (pc := 2456) _ dL_law_2456 hC lsL_264 rfl (Nat.le_of_ble_eq_true rfl) (by decide) rfl (by omega) (by omega) ?_
    refine x_istore (pc := 2459) (lv' := [(6, _), (5, _), (0, _), (1, _), (2, _), (3, _), (4, _)]) dL_law_2459 (by decide) rfl ?_
    refine x_aload_n (pc := 2461) dL_law_2461 4 rfl ?_
    refine x_aload_n (pc := 2462) dL_law_2462 2 rfl ?_
    refine x_iload (pc := 2463) dL_law_2463 1 rfl ?_
    refine x_iconst (pc := 2465) dL_law_2465 ?_
    refine x_iadd (pc := 2466) dL_law_2466 ?_
    refine x_sld (pc := 2467) (a := (i + 1).toNat) dL_law_2467 (by omega) (by omega) hL ?_
    refine x_aload_n (pc := 2468) dL_law_2468 2 rfl ?_
    refine x_iload (pc := 2469) dL_law_2469 1 rfl ?_
    refine x_iconst (pc := 2471) dL_law_2471 ?_
    refine x_iadd (pc := 2472) dL_law_2472 ?_
    refine x_sld (pc := 2473) (a := (i + 2).toNat) dL_law_2473 (by omega) (by omega) hL ?_
    refine l_callV (pc := 2474) _ dL_law_2474 (.inl hR) hM lkL_266 rfl rfl rfl rfl (mem_dom0 (by decide) (by decide)) (Nat.le_of_ble_eq_true rfl) (by decide) rfl (by omega) (by omega) ?_
    refine x_istore (pc := 2477) (lv' := [(7, _), (6, _), (5, _), (0, _), (1, _), (2, _), (3, _), (4, _)]) dL_law_2477 (by decide) rfl ?_
    refine x_aload_n (pc := 2479) dL_law_2479 5 rfl ?_
    refine l_callV (pc := 2480) _ dL_law_2480 (.inr rfl) (ct_thrown e7) lkL_158 rfl rfl rfl rfl (mem_dom0 (by decide) (by decide)) (Nat.le_of_ble_eq_true rfl) (by decide) rfl (by omega) (by omega) ?_
    refine x_iload (pc := 2483) dL_law_2483 1 rfl ?_
    refine x_icmp_eq (pc := 2485) 2490 dL_law_2485 (by decide) (in_12 he) (in_12 he) (fun _ => ?_) (fun q => absurd rfl q)
    refine x_iload (pc := 2490) dL_law_2490 1 rfl ?_
    refine x_if_ne (pc := 2492) 2507 dL_law_2492 (by decide) (in_12 he) (fun _ => ?_) (fun q => by exfalso; omega)
    refine x_goto (pc := 2507) 2773 dL_law_2507 (by decide) ?_
    exact x_lv [2, 3, 4, 5, 6, 7] rfl (x_widen (by omega) (by omega) kk)
theorem law_40 {G : GG} {m : Mem} {K : Nat} {c0 s0 : Nat} {i : Int} (h : IV m K) (hK : K ≤ 600) (hi : 0 ≤ i ∧ i + 5 ≤ (gV G 8 : Nat)) (hL : gV G 8 < 2147483648) (hc : c0 ≤ 400000) (hs : s0 ≤ 6000000) : LST G m K c0 s0 i 2536 := by
  rcases pr_owes (G := G) h hK (inI_of (gSx G (i + 1).toNat)) with ⟨R, r, c1, m2, hR, hr, hC, hM, e49, e7, hI⟩ | ⟨R, e, m2, hR, he, hC, hM, e7, hI⟩
  · refine ⟨m2, hI, fun res h' kk => ?_⟩
    unfold lvL at kk ⊢
    refine x_aload_n (pc := 2536) dL_law_2536 2 rfl ?_
    refine x_aload_n (pc := 2537) dL_law_2537 1 rfl ?_
    refine x_iload (pc := 2538) dL_law_2538 0 rfl ?_
    refine x_iconst (pc := 2540) dL_law_2540 ?_
    refine x_iadd (pc := 2541) dL_law_2541 ?_
    refine x_sld (pc := 2542) (a := (i + 1).toNat) dL_law_2542 (by omega) (by omega) hL ?_
    refine x_aload_n (pc := 2543) dL_law_2543 4 rfl ?_
    refine l_callW (pc := 2544) _ dL_law_2544 hC lsL_275 rfl (Nat.le_of_ble_eq_true rfl) (by decide) rfl (by omega) (by omega) ?_
    refine x_istore (pc := 2547) (lv' := [(6, _), (5, _), (0, _), (1, _), (2, _), (3, _), (4, _)]) dL_law_2547 (by decide) rfl ?_
    refine x_aload_n (pc := 2549) dL_law_2549 4 rfl ?_
    refine x_aload_n (pc := 2550) dL_law_2550 2 rfl ?_
    refine x_iload (pc := 2551) dL_law_2551 1 rfl ?_
    refine x_iconst (pc := 2553) dL_law_2553 ?_
    refine x_iadd (pc := 2554) dL_law_2554 ?_
    refine x_sld (pc := 2555) (a := (i + 1).toNat) dL_law_2555 (by omega) (by omega) hL ?_
    refine l_callV (pc := 2556) _ dL_law_2556 (.inl hR) hM lkL_277 rfl rfl rfl rfl (mem_dom0 (by decide) (by decide)) (Nat.le_of_ble_eq_true rfl) (by decide) rfl (by omega) (by omega) ?_
    refine x_istore (pc := 2559) (lv' := [(7, _), (6, _), (5, _), (0, _), (1, _), (2, _), (3, _), (4, _)]) dL_law_2559 (by decide) rfl ?_
    refine x_aload_n (pc := 2561) dL_law_2561 5 rfl ?_
    refine l_callV (pc := 2562) _ dL_law_2562 (.inr rfl) (ct_thrown e7) lkL_158 rfl rfl rfl rfl (mem_dom0 (by decide) (by decide)) (Nat.le_of_ble_eq_true rfl) (by decide) rfl (by omega) (by omega) ?_
    refine x_iload (pc := 2565) dL_law_2565 1 rfl ?_
    refine x_icmp_eq (pc := 2567) 2572 dL_law_2567 (by decide) in_01 in_01 (fun _ => ?_) (fun q => absurd rfl q)
    refine x_iload (pc := 2572) dL_law_2572 1 rfl ?_
    refine x_if_ne (pc := 2574) 2589 dL_law_2574 (by decide) in_01 (fun q => absurd rfl q) (fun _ => ?_)
    refine x_aload_n (pc := 2577) dL_law_2577 6 rfl ?_
    refine x_iconst (pc := 2578) dL_law_2578 ?_
    refine y_lald (pc := 2579) dL_law_2579 rfl (by decide) ⟨by decide, by decide⟩ ?_
    rw [e49]
    refine x_iload (pc := 2580) dL_law_2580 0 rfl ?_
    refine x_i2l (pc := 2582) dL_law_2582 hr ?_
    refine x_lcmp (pc := 2583) dL_law_2583 (in_IL hr) (in_IL hr) ?_
    refine x_if_eq (pc := 2584) 2589 dL_law_2584 (by decide) in_ae (fun _ => ?_) (fun q => absurd (ae_0 r) q)
    refine x_goto (pc := 2589) 2773 dL_law_2589 (by decide) ?_
    exact x_lv [2, 3, 4, 5, 6, 7] rfl (x_widen (by omega) (by omega) kk)
  · refine ⟨m2, hI, fun res h' kk => ?_⟩
    unfold lvL at kk ⊢
    refine x_aload_n (pc := 2536) dL_law_2536 2 rfl ?_
    refine x_aload_n (pc := 2537) dL_law_2537 1 rfl ?_
    refine x_iload (pc := 2538) dL_law_2538 0 rfl ?_
    refine x_iconst (pc := 2540) dL_law_2540 ?_
    refine x_iadd (pc := 2541) dL_law_2541 ?_
    refine x_sld (pc := 2542) (a := (i + 1).toNat) dL_law_2542 (by omega) (by omega) hL ?_
    refine x_aload_n (pc := 2543) dL_law_2543 4 rfl ?_
    refine l_callE (pc := 2544) _ dL_law_2544 hC lsL_275 rfl (Nat.le_of_ble_eq_true rfl) (by decide) rfl (by omega) (by omega) ?_
    refine x_istore (pc := 2547) (lv' := [(6, _), (5, _), (0, _), (1, _), (2, _), (3, _), (4, _)]) dL_law_2547 (by decide) rfl ?_
    refine x_aload_n (pc := 2549) dL_law_2549 4 rfl ?_
    refine x_aload_n (pc := 2550) dL_law_2550 2 rfl ?_
    refine x_iload (pc := 2551) dL_law_2551 1 rfl ?_
    refine x_iconst (pc := 2553) dL_law_2553 ?_
    refine x_iadd (pc := 2554) dL_law_2554 ?_
    refine x_sld (pc := 2555) (a := (i + 1).toNat) dL_law_2555 (by omega) (by omega) hL ?_
    refine l_callV (pc := 2556) _ dL_law_2556 (.inl hR) hM lkL_277 rfl rfl rfl rfl (mem_dom0 (by decide) (by decide)) (Nat.le_of_ble_eq_true rfl) (by decide) rfl (by omega) (by omega) ?_
    refine x_istore (pc := 2559) (lv' := [(7, _), (6, _), (5, _), (0, _), (1, _), (2, _), (3, _), (4, _)]) dL_law_2559 (by decide) rfl ?_
    refine x_aload_n (pc := 2561) dL_law_2561 5 rfl ?_
    refine l_callV (pc := 2562) _ dL_law_2562 (.inr rfl) (ct_thrown e7) lkL_158 rfl rfl rfl rfl (mem_dom0 (by decide) (by decide)) (Nat.le_of_ble_eq_true rfl) (by decide) rfl (by omega) (by omega) ?_
    refine x_iload (pc := 2565) dL_law_2565 1 rfl ?_
    refine x_icmp_eq (pc := 2567) 2572 dL_law_2567 (by decide) (in_12 he) (in_12 he) (fun _ => ?_) (fun q => absurd rfl q)
    refine x_iload (pc := 2572) dL_law_2572 1 rfl ?_
    refine x_if_ne (pc := 2574) 2589 dL_law_2574 (by decide) (in_12 he) (fun _ => ?_) (fun q => by exfalso; omega)
    refine x_goto (pc := 2589) 2773 dL_law_2589 (by decide) ?_
    exact x_lv [2, 3, 4, 5, 6, 7] rfl (x_widen (by omega) (by omega) kk)
theorem law_41 {G : GG} {m : Mem} {K : Nat} {c0 s0 : Nat} {i : Int} (h : IV m K) (hK : K ≤ 600) (hi : 0 ≤ i ∧ i + 5 ≤ (gV G 8 : Nat)) (hL : gV G 8 < 2147483648) (hc : c0 ≤ 400000) (hs : s0 ≤ 6000000) : LST G m K c0 s0 i 2592 := by
  rcases pr_isOwed (G := G) h hK (inI_of (gSx G (i + 1).toNat)) with ⟨R, r, c1, m2, hR, hr, hC, hM, e49, e7, hI⟩ | ⟨R, e, m2, hR, he, hC, hM, e7, hI⟩
  · refine ⟨m2, hI, fun res h' kk => ?_⟩
    unfold lvL at kk ⊢
    refine x_aload_n (pc := 2592) dL_law_2592 2 rfl ?_
    refine x_aload_n (pc := 2593) dL_law_2593 1 rfl ?_
    refine x_iload (pc := 2594) dL_law_2594 0 rfl ?_
    refine x_iconst (pc := 2596) dL_law_2596 ?_
    refine x_iadd (pc := 2597) dL_law_2597 ?_
    refine x_sld (pc := 2598) (a := (i + 1).toNat) dL_law_2598 (by omega) (by omega) hL ?_
    refine x_aload_n (pc := 2599) dL_law_2599 4 rfl ?_
    refine l_callW (pc := 2600) _ dL_law_2600 hC lsL_278 rfl (Nat.le_of_ble_eq_true rfl) (by decide) rfl (by omega) (by omega) ?_
    refine x_istore (pc := 2603) (lv' := [(6, _), (5, _), (0, _), (1, _), (2, _), (3, _), (4, _)]) dL_law_2603 (by decide) rfl ?_
    refine x_aload_n (pc := 2605) dL_law_2605 4 rfl ?_
    refine x_aload_n (pc := 2606) dL_law_2606 2 rfl ?_
    refine x_iload (pc := 2607) dL_law_2607 1 rfl ?_
    refine x_iconst (pc := 2609) dL_law_2609 ?_
    refine x_iadd (pc := 2610) dL_law_2610 ?_
    refine x_sld (pc := 2611) (a := (i + 1).toNat) dL_law_2611 (by omega) (by omega) hL ?_
    refine l_callV (pc := 2612) _ dL_law_2612 (.inl hR) hM lkL_280 rfl rfl rfl rfl (mem_dom0 (by decide) (by decide)) (Nat.le_of_ble_eq_true rfl) (by decide) rfl (by omega) (by omega) ?_
    refine x_istore (pc := 2615) (lv' := [(7, _), (6, _), (5, _), (0, _), (1, _), (2, _), (3, _), (4, _)]) dL_law_2615 (by decide) rfl ?_
    refine x_aload_n (pc := 2617) dL_law_2617 5 rfl ?_
    refine l_callV (pc := 2618) _ dL_law_2618 (.inr rfl) (ct_thrown e7) lkL_158 rfl rfl rfl rfl (mem_dom0 (by decide) (by decide)) (Nat.le_of_ble_eq_true rfl) (by decide) rfl (by omega) (by omega) ?_
    refine x_iload (pc := 2621) dL_law_2621 1 rfl ?_
    refine x_icmp_eq (pc := 2623) 2628 dL_law_2623 (by decide) in_01 in_01 (fun _ => ?_) (fun q => absurd rfl q)
    refine x_iload (pc := 2628) dL_law_2628 1 rfl ?_
    refine x_if_ne (pc := 2630) 2645 dL_law_2630 (by decide) in_01 (fun q => absurd rfl q) (fun _ => ?_)
    refine x_aload_n (pc := 2633) dL_law_2633 6 rfl ?_
    refine x_iconst (pc := 2634) dL_law_2634 ?_
    refine y_lald (pc := 2635) dL_law_2635 rfl (by decide) ⟨by decide, by decide⟩ ?_
    rw [e49]
    refine x_iload (pc := 2636) dL_law_2636 0 rfl ?_
    refine x_i2l (pc := 2638) dL_law_2638 hr ?_
    refine x_lcmp (pc := 2639) dL_law_2639 (in_IL hr) (in_IL hr) ?_
    refine x_if_eq (pc := 2640) 2645 dL_law_2640 (by decide) in_ae (fun _ => ?_) (fun q => absurd (ae_0 r) q)
    refine x_goto (pc := 2645) 2773 dL_law_2645 (by decide) ?_
    exact x_lv [2, 3, 4, 5, 6, 7] rfl (x_widen (by omega) (by omega) kk)
  · refine ⟨m2, hI, fun res h' kk => ?_⟩
    unfold lvL at kk ⊢
    refine x_aload_n (pc := 2592) dL_law_2592 2 rfl ?_
    refine x_aload_n (pc := 2593) dL_law_2593 1 rfl ?_
    refine x_iload (pc := 2594) dL_law_2594 0 rfl ?_
    refine x_iconst (pc := 2596) dL_law_2596 ?_
    refine x_iadd (pc := 2597) dL_law_2597 ?_
    refine x_sld (pc := 2598) (a := (i + 1).toNat) dL_law_2598 (by omega) (by omega) hL ?_
    refine x_aload_n (pc := 2599) dL_law_2599 4 rfl ?_
    refine l_callE (pc := 2600) _ dL_law_2600 hC lsL_278 rfl (Nat.le_of_ble_eq_true rfl) (by decide) rfl (by omega) (by omega) ?_
    refine x_istore (pc := 2603) (lv' := [(6, _), (5, _), (0, _), (1, _), (2, _), (3, _), (4, _)]) dL_law_2603 (by decide) rfl ?_
    refine x_aload_n (pc := 2605) dL_law_2605 4 rfl ?_
    refine x_aload_n (pc := 2606) dL_law_2606 2 rfl ?_
    refine x_iload (pc := 2607) dL_law_2607 1 rfl ?_
    refine x_iconst (pc := 2609) dL_law_2609 ?_
    refine x_iadd (pc := 2610) dL_law_2610 ?_
    refine x_sld (pc := 2611) (a := (i + 1).toNat) dL_law_2611 (by omega) (by omega) hL ?_
    refine l_callV (pc := 2612) _ dL_law_2612 (.inl hR) hM lkL_280 rfl rfl rfl rfl (mem_dom0 (by decide) (by decide)) (Nat.le_of_ble_eq_true rfl) (by decide) rfl (by omega) (by omega) ?_
    refine x_istore (pc := 2615) (lv' := [(7, _), (6, _), (5, _), (0, _), (1, _), (2, _), (3, _), (4, _)]) dL_law_2615 (by decide) rfl ?_
    refine x_aload_n (pc := 2617) dL_law_2617 5 rfl ?_
    refine l_callV (pc := 2618) _ dL_law_2618 (.inr rfl) (ct_thrown e7) lkL_158 rfl rfl rfl rfl (mem_dom0 (by decide) (by decide)) (Nat.le_of_ble_eq_true rfl) (by decide) rfl (by omega) (by omega) ?_
    refine x_iload (pc := 2621) dL_law_2621 1 rfl ?_
    refine x_icmp_eq (pc := 2623) 2628 dL_law_2623 (by decide) (in_12 he) (in_12 he) (fun _ => ?_) (fun q => absurd rfl q)
    refine x_iload (pc := 2628) dL_law_2628 1 rfl ?_
    refine x_if_ne (pc := 2630) 2645 dL_law_2630 (by decide) (in_12 he) (fun _ => ?_) (fun q => by exfalso; omega)
    refine x_goto (pc := 2645) 2773 dL_law_2645 (by decide) ?_
    exact x_lv [2, 3, 4, 5, 6, 7] rfl (x_widen (by omega) (by omega) kk)
theorem law_43 {G : GG} {m : Mem} {K : Nat} {c0 s0 : Nat} {i : Int} (h : IV m K) (hK : K ≤ 600) (hi : 0 ≤ i ∧ i + 5 ≤ (gV G 8 : Nat)) (hL : gV G 8 < 2147483648) (hc : c0 ≤ 400000) (hs : s0 ≤ 6000000) : LST G m K c0 s0 i 2661 := by
  rcases pr_saveSnapshot (G := G) h hK (inI_of (gSx G (i + 1).toNat)) with ⟨R, r, c1, m2, hR, hr, hC, hM, e49, e7, hI⟩ | ⟨R, e, m2, hR, he, hC, hM, e7, hI⟩
  · refine ⟨m2, hI, fun res h' kk => ?_⟩
    unfold lvL at kk ⊢
    refine x_aload_n (pc := 2661) dL_law_2661 2 rfl ?_
    refine x_aload_n (pc := 2662) dL_law_2662 1 rfl ?_
    refine x_iload (pc := 2663) dL_law_2663 0 rfl ?_
    refine x_iconst (pc := 2665) dL_law_2665 ?_
    refine x_iadd (pc := 2666) dL_law_2666 ?_
    refine x_sld (pc := 2667) (a := (i + 1).toNat) dL_law_2667 (by omega) (by omega) hL ?_
    refine x_aload_n (pc := 2668) dL_law_2668 4 rfl ?_
    refine l_callW (pc := 2669) _ dL_law_2669 hC lsL_285 rfl (Nat.le_of_ble_eq_true rfl) (by decide) rfl (by omega) (by omega) ?_
    refine x_istore (pc := 2672) (lv' := [(6, _), (5, _), (0, _), (1, _), (2, _), (3, _), (4, _)]) dL_law_2672 (by decide) rfl ?_
    refine x_aload_n (pc := 2674) dL_law_2674 4 rfl ?_
    refine x_aload_n (pc := 2675) dL_law_2675 2 rfl ?_
    refine x_iload (pc := 2676) dL_law_2676 1 rfl ?_
    refine x_iconst (pc := 2678) dL_law_2678 ?_
    refine x_iadd (pc := 2679) dL_law_2679 ?_
    refine x_sld (pc := 2680) (a := (i + 1).toNat) dL_law_2680 (by omega) (by omega) hL ?_
    refine l_callV (pc := 2681) _ dL_law_2681 (.inl hR) hM lkL_287 rfl rfl rfl rfl (mem_dom0 (by decide) (by decide)) (Nat.le_of_ble_eq_true rfl) (by decide) rfl (by omega) (by omega) ?_
    refine x_istore (pc := 2684) (lv' := [(7, _), (6, _), (5, _), (0, _), (1, _), (2, _), (3, _), (4, _)]) dL_law_2684 (by decide) rfl ?_
    refine x_aload_n (pc := 2686) dL_law_2686 5 rfl ?_
    refine l_callV (pc := 2687) _ dL_law_2687 (.inr rfl) (ct_thrown e7) lkL_158 rfl rfl rfl rfl (mem_dom0 (by decide) (by decide)) (Nat.le_of_ble_eq_true rfl) (by decide) rfl (by omega) (by omega) ?_
    refine x_iload (pc := 2690) dL_law_2690 1 rfl ?_
    refine x_icmp_eq (pc := 2692) 2697 dL_law_2692 (by decide) in_01 in_01 (fun _ => ?_) (fun q => absurd rfl q)
    refine x_iload (pc := 2697) dL_law_2697 1 rfl ?_
    refine x_if_ne (pc := 2699) 2714 dL_law_2699 (by decide) in_01 (fun q => absurd rfl q) (fun _ => ?_)
    refine x_aload_n (pc := 2702) dL_law_2702 6 rfl ?_
    refine x_iconst (pc := 2703) dL_law_2703 ?_
    refine y_lald (pc := 2704) dL_law_2704 rfl (by decide) ⟨by decide, by decide⟩ ?_
    rw [e49]
    refine x_iload (pc := 2705) dL_law_2705 0 rfl ?_
    refine x_i2l (pc := 2707) dL_law_2707 hr ?_
    refine x_lcmp (pc := 2708) dL_law_2708 (in_IL hr) (in_IL hr) ?_
    refine x_if_eq (pc := 2709) 2714 dL_law_2709 (by decide) in_ae (fun _ => ?_) (fun q => absurd (ae_0 r) q)
    refine x_goto (pc := 2714) 2773 dL_law_2714 (by decide) ?_
    exact x_lv [2, 3, 4, 5, 6, 7] rfl (x_widen (by omega) (by omega) kk)
  · refine ⟨m2, hI, fun res h' kk => ?_⟩
    unfold lvL at kk ⊢
    refine x_aload_n (pc := 2661) dL_law_2661 2 rfl ?_
    refine x_aload_n (pc := 2662) dL_law_2662 1 rfl ?_
    refine x_iload (pc := 2663) dL_law_2663 0 rfl ?_
    refine x_iconst (pc := 2665) dL_law_2665 ?_
    refine x_iadd (pc := 2666) dL_law_2666 ?_
    refine x_sld (pc := 2667) (a := (i + 1).toNat) dL_law_2667 (by omega) (by omega) hL ?_
    refine x_aload_n (pc := 2668) dL_law_2668 4 rfl ?_
    refine l_callE (pc := 2669) _ dL_law_2669 hC lsL_285 rfl (Nat.le_of_ble_eq_true rfl) (by decide) rfl (by omega) (by omega) ?_
    refine x_istore (pc := 2672) (lv' := [(6, _), (5, _), (0, _), (1, _), (2, _), (3, _), (4, _)]) dL_law_2672 (by decide) rfl ?_
    refine x_aload_n (pc := 2674) dL_law_2674 4 rfl ?_
    refine x_aload_n (pc := 2675) dL_law_2675 2 rfl ?_
    refine x_iload (pc := 2676) dL_law_2676 1 rfl ?_
    refine x_iconst (pc := 2678) dL_law_2678 ?_
    refine x_iadd (pc := 2679) dL_law_2679 ?_
    refine x_sld (pc := 2680) (a := (i + 1).toNat) dL_law_2680 (by omega) (by omega) hL ?_
    refine l_callV (pc := 2681) _ dL_law_2681 (.inl hR) hM lkL_287 rfl rfl rfl rfl (mem_dom0 (by decide) (by decide)) (Nat.le_of_ble_eq_true rfl) (by decide) rfl (by omega) (by omega) ?_
    refine x_istore (pc := 2684) (lv' := [(7, _), (6, _), (5, _), (0, _), (1, _), (2, _), (3, _), (4, _)]) dL_law_2684 (by decide) rfl ?_
    refine x_aload_n (pc := 2686) dL_law_2686 5 rfl ?_
    refine l_callV (pc := 2687) _ dL_law_2687 (.inr rfl) (ct_thrown e7) lkL_158 rfl rfl rfl rfl (mem_dom0 (by decide) (by decide)) (Nat.le_of_ble_eq_true rfl) (by decide) rfl (by omega) (by omega) ?_
    refine x_iload (pc := 2690) dL_law_2690 1 rfl ?_
    refine x_icmp_eq (pc := 2692) 2697 dL_law_2692 (by decide) (in_12 he) (in_12 he) (fun _ => ?_) (fun q => absurd rfl q)
    refine x_iload (pc := 2697) dL_law_2697 1 rfl ?_
    refine x_if_ne (pc := 2699) 2714 dL_law_2699 (by decide) (in_12 he) (fun _ => ?_) (fun q => by exfalso; omega)
    refine x_goto (pc := 2714) 2773 dL_law_2714 (by decide) ?_
    exact x_lv [2, 3, 4, 5, 6, 7] rfl (x_widen (by omega) (by omega) kk)
theorem law_44 {G : GG} {m : Mem} {K : Nat} {c0 s0 : Nat} {i : Int} (h : IV m K) (hK : K ≤ 600) (hi : 0 ≤ i ∧ i + 5 ≤ (gV G 8 : Nat)) (hL : gV G 8 < 2147483648) (hc : c0 ≤ 400000) (hs : s0 ≤ 6000000) : LST G m K c0 s0 i 2717 := by
  rcases pr_restoreSnapshot (G := G) h hK (inI_of (gSx G (i + 1).toNat)) with ⟨R, r, c1, m2, hR, hr, hC, hM, e49, e7, hI⟩ | ⟨R, e, m2, hR, he, hC, hM, e7, hI⟩
  · refine ⟨m2, hI, fun res h' kk => ?_⟩
    unfold lvL at kk ⊢
    refine x_aload_n (pc := 2717) dL_law_2717 2 rfl ?_
    refine x_aload_n (pc := 2718) dL_law_2718 1 rfl ?_
    refine x_iload (pc := 2719) dL_law_2719 0 rfl ?_
    refine x_iconst (pc := 2721) dL_law_2721 ?_
    refine x_iadd (pc := 2722) dL_law_2722 ?_
    refine x_sld (pc := 2723) (a := (i + 1).toNat) dL_law_2723 (by omega) (by omega) hL ?_
    refine x_aload_n (pc := 2724) dL_law_2724 4 rfl ?_
    refine l_callW (pc := 2725) _ dL_law_2725 hC lsL_288 rfl (Nat.le_of_ble_eq_true rfl) (by decide) rfl (by omega) (by omega) ?_
    refine x_istore (pc := 2728) (lv' := [(6, _), (5, _), (0, _), (1, _), (2, _), (3, _), (4, _)]) dL_law_2728 (by decide) rfl ?_
    refine x_aload_n (pc := 2730) dL_law_2730 4 rfl ?_
    refine x_aload_n (pc := 2731) dL_law_2731 2 rfl ?_
    refine x_iload (pc := 2732) dL_law_2732 1 rfl ?_
    refine x_iconst (pc := 2734) dL_law_2734 ?_
    refine x_iadd (pc := 2735) dL_law_2735 ?_
    refine x_sld (pc := 2736) (a := (i + 1).toNat) dL_law_2736 (by omega) (by omega) hL ?_
    refine l_callV (pc := 2737) _ dL_law_2737 (.inl hR) hM lkL_290 rfl rfl rfl rfl (mem_dom0 (by decide) (by decide)) (Nat.le_of_ble_eq_true rfl) (by decide) rfl (by omega) (by omega) ?_
    refine x_istore (pc := 2740) (lv' := [(7, _), (6, _), (5, _), (0, _), (1, _), (2, _), (3, _), (4, _)]) dL_law_2740 (by decide) rfl ?_
    refine x_aload_n (pc := 2742) dL_law_2742 5 rfl ?_
    refine l_callV (pc := 2743) _ dL_law_2743 (.inr rfl) (ct_thrown e7) lkL_158 rfl rfl rfl rfl (mem_dom0 (by decide) (by decide)) (Nat.le_of_ble_eq_true rfl) (by decide) rfl (by omega) (by omega) ?_
    refine x_iload (pc := 2746) dL_law_2746 1 rfl ?_
    refine x_icmp_eq (pc := 2748) 2753 dL_law_2748 (by decide) in_01 in_01 (fun _ => ?_) (fun q => absurd rfl q)
    refine x_iload (pc := 2753) dL_law_2753 1 rfl ?_
    refine x_if_ne (pc := 2755) 2770 dL_law_2755 (by decide) in_01 (fun q => absurd rfl q) (fun _ => ?_)
    refine x_aload_n (pc := 2758) dL_law_2758 6 rfl ?_
    refine x_iconst (pc := 2759) dL_law_2759 ?_
    refine y_lald (pc := 2760) dL_law_2760 rfl (by decide) ⟨by decide, by decide⟩ ?_
    rw [e49]
    refine x_iload (pc := 2761) dL_law_2761 0 rfl ?_
    refine x_i2l (pc := 2763) dL_law_2763 hr ?_
    refine x_lcmp (pc := 2764) dL_law_2764 (in_IL hr) (in_IL hr) ?_
    refine x_if_eq (pc := 2765) 2770 dL_law_2765 (by decide) in_ae (fun _ => ?_) (fun q => absurd (ae_0 r) q)
    refine x_goto (pc := 2770) 2773 dL_law_2770 (by decide) ?_
    exact x_lv [2, 3, 4, 5, 6, 7] rfl (x_widen (by omega) (by omega) kk)
  · refine ⟨m2, hI, fun res h' kk => ?_⟩
    unfold lvL at kk ⊢
    refine x_aload_n (pc := 2717) dL_law_2717 2 rfl ?_
    refine x_aload_n (pc := 2718) dL_law_2718 1 rfl ?_
    refine x_iload (pc := 2719) dL_law_2719 0 rfl ?_
    refine x_iconst (pc := 2721) dL_law_2721 ?_
    refine x_iadd (pc := 2722) dL_law_2722 ?_
    refine x_sld (pc := 2723) (a := (i + 1).toNat) dL_law_2723 (by omega) (by omega) hL ?_
    refine x_aload_n (pc := 2724) dL_law_2724 4 rfl ?_
    refine l_callE (pc := 2725) _ dL_law_2725 hC lsL_288 rfl (Nat.le_of_ble_eq_true rfl) (by decide) rfl (by omega) (by omega) ?_
    refine x_istore (pc := 2728) (lv' := [(6, _), (5, _), (0, _), (1, _), (2, _), (3, _), (4, _)]) dL_law_2728 (by decide) rfl ?_
    refine x_aload_n (pc := 2730) dL_law_2730 4 rfl ?_
    refine x_aload_n (pc := 2731) dL_law_2731 2 rfl ?_
    refine x_iload (pc := 2732) dL_law_2732 1 rfl ?_
    refine x_iconst (pc := 2734) dL_law_2734 ?_
    refine x_iadd (pc := 2735) dL_law_2735 ?_
    refine x_sld (pc := 2736) (a := (i + 1).toNat) dL_law_2736 (by omega) (by omega) hL ?_
    refine l_callV (pc := 2737) _ dL_law_2737 (.inl hR) hM lkL_290 rfl rfl rfl rfl (mem_dom0 (by decide) (by decide)) (Nat.le_of_ble_eq_true rfl) (by decide) rfl (by omega) (by omega) ?_
    refine x_istore (pc := 2740) (lv' := [(7, _), (6, _), (5, _), (0, _), (1, _), (2, _), (3, _), (4, _)]) dL_law_2740 (by decide) rfl ?_
    refine x_aload_n (pc := 2742) dL_law_2742 5 rfl ?_
    refine l_callV (pc := 2743) _ dL_law_2743 (.inr rfl) (ct_thrown e7) lkL_158 rfl rfl rfl rfl (mem_dom0 (by decide) (by decide)) (Nat.le_of_ble_eq_true rfl) (by decide) rfl (by omega) (by omega) ?_
    refine x_iload (pc := 2746) dL_law_2746 1 rfl ?_
    refine x_icmp_eq (pc := 2748) 2753 dL_law_2748 (by decide) (in_12 he) (in_12 he) (fun _ => ?_) (fun q => absurd rfl q)
    refine x_iload (pc := 2753) dL_law_2753 1 rfl ?_
    refine x_if_ne (pc := 2755) 2770 dL_law_2755 (by decide) (in_12 he) (fun _ => ?_) (fun q => by exfalso; omega)
    refine x_goto (pc := 2770) 2773 dL_law_2770 (by decide) ?_
    exact x_lv [2, 3, 4, 5, 6, 7] rfl (x_widen (by omega) (by omega) kk)
