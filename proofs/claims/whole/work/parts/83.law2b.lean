/-! the law: a call of the class, then of the reference -/
theorem qL_law_420 : Dq cL_law 420 (.aload_n 1) 1 421 := ⟨by decide +kernel, rfl⟩
theorem qL_law_421 : Dq cL_law 421 (.aload_n 0) 1 422 := ⟨by decide +kernel, rfl⟩
theorem qL_law_422 : Dq cL_law 422 (.iload_n 3) 1 423 := ⟨by decide +kernel, rfl⟩
theorem qL_law_423 : Dq cL_law 423 (.iconst 1) 1 424 := ⟨by decide +kernel, rfl⟩
theorem qL_law_424 : Dq cL_law 424 (.iadd) 1 425 := ⟨by decide +kernel, rfl⟩
theorem qL_law_425 : Dq cL_law 425 (.iaload) 1 426 := ⟨by decide +kernel, rfl⟩
theorem qL_law_426 : Dq cL_law 426 (.invokevirtual 49) 3 429 := ⟨by decide +kernel, rfl⟩
theorem qL_law_429 : Dq cL_law 429 (.aload_n 2) 1 430 := ⟨by decide +kernel, rfl⟩
theorem qL_law_430 : Dq cL_law 430 (.aload_n 0) 1 431 := ⟨by decide +kernel, rfl⟩
theorem qL_law_431 : Dq cL_law 431 (.iload_n 3) 1 432 := ⟨by decide +kernel, rfl⟩
theorem qL_law_432 : Dq cL_law 432 (.iconst 1) 1 433 := ⟨by decide +kernel, rfl⟩
theorem qL_law_433 : Dq cL_law 433 (.iadd) 1 434 := ⟨by decide +kernel, rfl⟩
theorem qL_law_434 : Dq cL_law 434 (.iaload) 1 435 := ⟨by decide +kernel, rfl⟩
theorem qL_law_435 : Dq cL_law 435 (.invokevirtual 52) 3 438 := ⟨by decide +kernel, rfl⟩
theorem qL_law_438 : Dq cL_law 438 (.if_icmp .eq 697) 3 441 := ⟨by decide +kernel, rfl⟩
set_option maxRecDepth 100000 in
set_option maxHeartbeats 4000000 in
theorem law_08 {X : Cx} {G : Glb} {L : Nat} {xsc : Nat → Int32} {Q : State → Prop} (hl : LwX X G L xsc) {h : AHp} {E : Sst} {i c : Nat} (hi : i + 6 ≤ L) (hc64 : c < 64) (hI : LwI h E c) (kk : ∀ h' E', LwI h' E' (c + 1) → V X G 4 (58 + 6 * (c + 1)) (4289 + 6 * (c + 1)) Q 1135 [some (.ref 1000000), some (.ref 0), some (.ref 38), some (.int (nI i))] [] h') : V X G 4 (58 + 6 * c) (4289 + 6 * c) Q 420 [some (.ref 1000000), some (.ref 0), some (.ref 38), some (.int (nI i))] [] h := by
  obtain ⟨hc, hm, hN⟩ := hI
  obtain ⟨hX, hR, -⟩ := id hl
  refine v_aload_n hX rfl qL_law_420 ?_
  refine v_aload_n hX rfl qL_law_421 ?_
  refine v_iload_n hX rfl qL_law_422 ?_
  refine v_iconst hX li_1 qL_law_423 ?_
  refine v_iadd hX qL_law_424 ?_
  refine hl.sld (j := i + 1) (nI_add i 1) (by omega) qL_law_425 ?_
  refine v_callVL hX hR k_L_49 (hc.1.kd 0 rfl) (c_next (by exact hc) _) rfl (Nat.le_of_ble_eq_true rfl) rfl (Nat.le_of_ble_eq_true rfl) ⟨by omega, by omega⟩ qL_law_426 ?_
  rintro _ _ ⟨rfl, σ, rfl, hc1, k1⟩
  have hm1 := hm.k38 k1
  have hN1 : hpN (σ, h.2) ≤ 58 + 6 * c := hN
  refine v_aload_n hX rfl qL_law_429 ?_
  refine v_aload_n hX rfl qL_law_430 ?_
  refine v_iload_n hX rfl qL_law_431 ?_
  refine v_iconst hX li_1 qL_law_432 ?_
  refine v_iadd hX qL_law_433 ?_
  refine hl.sld (j := i + 1) (nI_add i 1) (by omega) qL_law_434 ?_
  refine v_callVL hX hR k_L_52 (hm1.1.kd 38 rfl) (m_next (by exact hm1) _) rfl (Nat.le_of_ble_eq_true rfl) rfl (Nat.le_of_ble_eq_true rfl) ⟨by omega, by omega⟩ qL_law_435 ?_
  rintro _ _ ⟨rfl, σ2, J2, rfl, hm2, k2⟩
  have hc2 := hc1.k58 (J := J2) hm1.1 k2
  have hN2 := hN1
  refine v_icmp_eq hX 1135 qL_law_438 rfl (fun q438 => ?_) (fun q438 => ?_)
  · skip
    refine v_widen (rt := none) (k' := 58 + 6 * (c + 1)) (n' := 4289 + 6 * (c + 1)) (by omega) (by omega) ?_
    exact kk _ _ (LwI.nx hc2 hm2 (Nat.le_trans hN2 (by omega)))
  · exact absurd rfl q438
theorem qL_law_443 : Dq cL_law 443 (.aload_n 1) 1 444 := ⟨by decide +kernel, rfl⟩
theorem qL_law_444 : Dq cL_law 444 (.aload_n 0) 1 445 := ⟨by decide +kernel, rfl⟩
theorem qL_law_445 : Dq cL_law 445 (.iload_n 3) 1 446 := ⟨by decide +kernel, rfl⟩
theorem qL_law_446 : Dq cL_law 446 (.iconst 1) 1 447 := ⟨by decide +kernel, rfl⟩
theorem qL_law_447 : Dq cL_law 447 (.iadd) 1 448 := ⟨by decide +kernel, rfl⟩
theorem qL_law_448 : Dq cL_law 448 (.iaload) 1 449 := ⟨by decide +kernel, rfl⟩
theorem qL_law_449 : Dq cL_law 449 (.aload_n 0) 1 450 := ⟨by decide +kernel, rfl⟩
theorem qL_law_450 : Dq cL_law 450 (.iload_n 3) 1 451 := ⟨by decide +kernel, rfl⟩
theorem qL_law_451 : Dq cL_law 451 (.iconst 2) 1 452 := ⟨by decide +kernel, rfl⟩
theorem qL_law_452 : Dq cL_law 452 (.iadd) 1 453 := ⟨by decide +kernel, rfl⟩
theorem qL_law_453 : Dq cL_law 453 (.iaload) 1 454 := ⟨by decide +kernel, rfl⟩
theorem qL_law_454 : Dq cL_law 454 (.invokevirtual 53) 3 457 := ⟨by decide +kernel, rfl⟩
theorem qL_law_457 : Dq cL_law 457 (.aload_n 2) 1 458 := ⟨by decide +kernel, rfl⟩
theorem qL_law_458 : Dq cL_law 458 (.aload_n 0) 1 459 := ⟨by decide +kernel, rfl⟩
theorem qL_law_459 : Dq cL_law 459 (.iload_n 3) 1 460 := ⟨by decide +kernel, rfl⟩
theorem qL_law_460 : Dq cL_law 460 (.iconst 1) 1 461 := ⟨by decide +kernel, rfl⟩
theorem qL_law_461 : Dq cL_law 461 (.iadd) 1 462 := ⟨by decide +kernel, rfl⟩
theorem qL_law_462 : Dq cL_law 462 (.iaload) 1 463 := ⟨by decide +kernel, rfl⟩
theorem qL_law_463 : Dq cL_law 463 (.aload_n 0) 1 464 := ⟨by decide +kernel, rfl⟩
theorem qL_law_464 : Dq cL_law 464 (.iload_n 3) 1 465 := ⟨by decide +kernel, rfl⟩
theorem qL_law_465 : Dq cL_law 465 (.iconst 2) 1 466 := ⟨by decide +kernel, rfl⟩
theorem qL_law_466 : Dq cL_law 466 (.iadd) 1 467 := ⟨by decide +kernel, rfl⟩
theorem qL_law_467 : Dq cL_law 467 (.iaload) 1 468 := ⟨by decide +kernel, rfl⟩
theorem qL_law_468 : Dq cL_law 468 (.invokevirtual 56) 3 471 := ⟨by decide +kernel, rfl⟩
theorem qL_law_471 : Dq cL_law 471 (.if_icmp .eq 664) 3 474 := ⟨by decide +kernel, rfl⟩
set_option maxRecDepth 100000 in
set_option maxHeartbeats 4000000 in
theorem law_09 {X : Cx} {G : Glb} {L : Nat} {xsc : Nat → Int32} {Q : State → Prop} (hl : LwX X G L xsc) {h : AHp} {E : Sst} {i c : Nat} (hi : i + 6 ≤ L) (hc64 : c < 64) (hI : LwI h E c) (kk : ∀ h' E', LwI h' E' (c + 1) → V X G 4 (58 + 6 * (c + 1)) (4289 + 6 * (c + 1)) Q 1135 [some (.ref 1000000), some (.ref 0), some (.ref 38), some (.int (nI i))] [] h') : V X G 4 (58 + 6 * c) (4289 + 6 * c) Q 443 [some (.ref 1000000), some (.ref 0), some (.ref 38), some (.int (nI i))] [] h := by
  obtain ⟨hc, hm, hN⟩ := hI
  obtain ⟨hX, hR, -⟩ := id hl
  refine v_aload_n hX rfl qL_law_443 ?_
  refine v_aload_n hX rfl qL_law_444 ?_
  refine v_iload_n hX rfl qL_law_445 ?_
  refine v_iconst hX li_1 qL_law_446 ?_
  refine v_iadd hX qL_law_447 ?_
  refine hl.sld (j := i + 1) (nI_add i 1) (by omega) qL_law_448 ?_
  refine v_aload_n hX rfl qL_law_449 ?_
  refine v_iload_n hX rfl qL_law_450 ?_
  refine v_iconst hX li_2 qL_law_451 ?_
  refine v_iadd hX qL_law_452 ?_
  refine hl.sld (j := i + 2) (nI_add i 2) (by omega) qL_law_453 ?_
  refine v_callVL hX hR k_L_53 (hc.1.kd 0 rfl) (c_plan (by exact hc) _ _) rfl (Nat.le_of_ble_eq_true rfl) rfl (Nat.le_of_ble_eq_true rfl) ⟨by omega, by omega⟩ qL_law_454 ?_
  rintro _ _ ⟨rfl, σ, rfl, hc1, k1⟩
  have hm1 := hm.k38 k1
  have hN1 : hpN (σ, h.2) ≤ 58 + 6 * c := hN
  refine v_aload_n hX rfl qL_law_457 ?_
  refine v_aload_n hX rfl qL_law_458 ?_
  refine v_iload_n hX rfl qL_law_459 ?_
  refine v_iconst hX li_1 qL_law_460 ?_
  refine v_iadd hX qL_law_461 ?_
  refine hl.sld (j := i + 1) (nI_add i 1) (by omega) qL_law_462 ?_
  refine v_aload_n hX rfl qL_law_463 ?_
  refine v_iload_n hX rfl qL_law_464 ?_
  refine v_iconst hX li_2 qL_law_465 ?_
  refine v_iadd hX qL_law_466 ?_
  refine hl.sld (j := i + 2) (nI_add i 2) (by omega) qL_law_467 ?_
  refine v_callVL hX hR k_L_56 (hm1.1.kd 38 rfl) (m_plan (by exact hm1) _ _) rfl (Nat.le_of_ble_eq_true rfl) rfl (Nat.le_of_ble_eq_true rfl) ⟨by omega, by omega⟩ qL_law_468 ?_
  rintro _ _ ⟨rfl, σ2, J2, rfl, hm2, k2⟩
  have hc2 := hc1.k58 (J := J2) hm1.1 k2
  have hN2 := hN1
  refine v_icmp_eq hX 1135 qL_law_471 rfl (fun q471 => ?_) (fun q471 => ?_)
  · skip
    refine v_widen (rt := none) (k' := 58 + 6 * (c + 1)) (n' := 4289 + 6 * (c + 1)) (by omega) (by omega) ?_
    exact kk _ _ (LwI.nx hc2 hm2 (Nat.le_trans hN2 (by omega)))
  · exact absurd rfl q471
theorem qL_law_476 : Dq cL_law 476 (.aload_n 1) 1 477 := ⟨by decide +kernel, rfl⟩
theorem qL_law_477 : Dq cL_law 477 (.aload_n 0) 1 478 := ⟨by decide +kernel, rfl⟩
theorem qL_law_478 : Dq cL_law 478 (.iload_n 3) 1 479 := ⟨by decide +kernel, rfl⟩
theorem qL_law_479 : Dq cL_law 479 (.iconst 1) 1 480 := ⟨by decide +kernel, rfl⟩
theorem qL_law_480 : Dq cL_law 480 (.iadd) 1 481 := ⟨by decide +kernel, rfl⟩
theorem qL_law_481 : Dq cL_law 481 (.iaload) 1 482 := ⟨by decide +kernel, rfl⟩
theorem qL_law_482 : Dq cL_law 482 (.invokevirtual 57) 3 485 := ⟨by decide +kernel, rfl⟩
theorem qL_law_485 : Dq cL_law 485 (.aload_n 2) 1 486 := ⟨by decide +kernel, rfl⟩
theorem qL_law_486 : Dq cL_law 486 (.aload_n 0) 1 487 := ⟨by decide +kernel, rfl⟩
theorem qL_law_487 : Dq cL_law 487 (.iload_n 3) 1 488 := ⟨by decide +kernel, rfl⟩
theorem qL_law_488 : Dq cL_law 488 (.iconst 1) 1 489 := ⟨by decide +kernel, rfl⟩
theorem qL_law_489 : Dq cL_law 489 (.iadd) 1 490 := ⟨by decide +kernel, rfl⟩
theorem qL_law_490 : Dq cL_law 490 (.iaload) 1 491 := ⟨by decide +kernel, rfl⟩
theorem qL_law_491 : Dq cL_law 491 (.invokevirtual 60) 3 494 := ⟨by decide +kernel, rfl⟩
theorem qL_law_494 : Dq cL_law 494 (.if_icmp .eq 641) 3 497 := ⟨by decide +kernel, rfl⟩
set_option maxRecDepth 100000 in
set_option maxHeartbeats 4000000 in
theorem law_10 {X : Cx} {G : Glb} {L : Nat} {xsc : Nat → Int32} {Q : State → Prop} (hl : LwX X G L xsc) {h : AHp} {E : Sst} {i c : Nat} (hi : i + 6 ≤ L) (hc64 : c < 64) (hI : LwI h E c) (kk : ∀ h' E', LwI h' E' (c + 1) → V X G 4 (58 + 6 * (c + 1)) (4289 + 6 * (c + 1)) Q 1135 [some (.ref 1000000), some (.ref 0), some (.ref 38), some (.int (nI i))] [] h') : V X G 4 (58 + 6 * c) (4289 + 6 * c) Q 476 [some (.ref 1000000), some (.ref 0), some (.ref 38), some (.int (nI i))] [] h := by
  obtain ⟨hc, hm, hN⟩ := hI
  obtain ⟨hX, hR, -⟩ := id hl
  refine v_aload_n hX rfl qL_law_476 ?_
  refine v_aload_n hX rfl qL_law_477 ?_
  refine v_iload_n hX rfl qL_law_478 ?_
  refine v_iconst hX li_1 qL_law_479 ?_
  refine v_iadd hX qL_law_480 ?_
  refine hl.sld (j := i + 1) (nI_add i 1) (by omega) qL_law_481 ?_
  refine v_callVL hX hR k_L_57 (hc.1.kd 0 rfl) (c_planned (by exact hc) _) rfl (Nat.le_of_ble_eq_true rfl) rfl (Nat.le_of_ble_eq_true rfl) ⟨by omega, by omega⟩ qL_law_482 ?_
  rintro _ _ ⟨rfl, σ, rfl, hc1, k1⟩
  have hm1 := hm.k38 k1
  have hN1 : hpN (σ, h.2) ≤ 58 + 6 * c := hN
  refine v_aload_n hX rfl qL_law_485 ?_
  refine v_aload_n hX rfl qL_law_486 ?_
  refine v_iload_n hX rfl qL_law_487 ?_
  refine v_iconst hX li_1 qL_law_488 ?_
  refine v_iadd hX qL_law_489 ?_
  refine hl.sld (j := i + 1) (nI_add i 1) (by omega) qL_law_490 ?_
  refine v_callVL hX hR k_L_60 (hm1.1.kd 38 rfl) (m_planned (by exact hm1) _) rfl (Nat.le_of_ble_eq_true rfl) rfl (Nat.le_of_ble_eq_true rfl) ⟨by omega, by omega⟩ qL_law_491 ?_
  rintro _ _ ⟨rfl, σ2, J2, rfl, hm2, k2⟩
  have hc2 := hc1.k58 (J := J2) hm1.1 k2
  have hN2 := hN1
  refine v_icmp_eq hX 1135 qL_law_494 rfl (fun q494 => ?_) (fun q494 => ?_)
  · skip
    refine v_widen (rt := none) (k' := 58 + 6 * (c + 1)) (n' := 4289 + 6 * (c + 1)) (by omega) (by omega) ?_
    exact kk _ _ (LwI.nx hc2 hm2 (Nat.le_trans hN2 (by omega)))
  · exact absurd rfl q494
theorem qL_law_499 : Dq cL_law 499 (.aload_n 1) 1 500 := ⟨by decide +kernel, rfl⟩
theorem qL_law_500 : Dq cL_law 500 (.invokevirtual 61) 3 503 := ⟨by decide +kernel, rfl⟩
theorem qL_law_503 : Dq cL_law 503 (.aload_n 2) 1 504 := ⟨by decide +kernel, rfl⟩
theorem qL_law_504 : Dq cL_law 504 (.invokevirtual 64) 3 507 := ⟨by decide +kernel, rfl⟩
theorem qL_law_507 : Dq cL_law 507 (.if_icmp .eq 628) 3 510 := ⟨by decide +kernel, rfl⟩
set_option maxRecDepth 100000 in
set_option maxHeartbeats 4000000 in
theorem law_11 {X : Cx} {G : Glb} {L : Nat} {xsc : Nat → Int32} {Q : State → Prop} (hl : LwX X G L xsc) {h : AHp} {E : Sst} {i c : Nat} (hi : i + 6 ≤ L) (hc64 : c < 64) (hI : LwI h E c) (kk : ∀ h' E', LwI h' E' (c + 1) → V X G 4 (58 + 6 * (c + 1)) (4289 + 6 * (c + 1)) Q 1135 [some (.ref 1000000), some (.ref 0), some (.ref 38), some (.int (nI i))] [] h') : V X G 4 (58 + 6 * c) (4289 + 6 * c) Q 499 [some (.ref 1000000), some (.ref 0), some (.ref 38), some (.int (nI i))] [] h := by
  obtain ⟨hc, hm, hN⟩ := hI
  obtain ⟨hX, hR, -⟩ := id hl
  refine v_aload_n hX rfl qL_law_499 ?_
  refine v_callVL hX hR k_L_61 (hc.1.kd 0 rfl) (c_search (by exact hc)) rfl (Nat.le_of_ble_eq_true rfl) rfl (Nat.le_of_ble_eq_true rfl) ⟨by omega, by omega⟩ qL_law_500 ?_
  rintro _ _ ⟨rfl, σ, rfl, hc1, k1⟩
  have hm1 := hm.k38 k1
  have hN1 : hpN (σ, h.2) ≤ 58 + 6 * c := hN
  refine v_aload_n hX rfl qL_law_503 ?_
  refine v_callVL hX hR k_L_64 (hm1.1.kd 38 rfl) (m_search (by exact hm1)) rfl (Nat.le_of_ble_eq_true rfl) rfl (Nat.le_of_ble_eq_true rfl) ⟨by omega, by omega⟩ qL_law_504 ?_
  rintro _ _ ⟨rfl, σ2, J2, rfl, hm2, k2⟩
  have hc2 := hc1.k58 (J := J2) hm1.1 k2
  have hN2 := hN1
  refine v_icmp_eq hX 1135 qL_law_507 rfl (fun q507 => ?_) (fun q507 => ?_)
  · skip
    refine v_widen (rt := none) (k' := 58 + 6 * (c + 1)) (n' := 4289 + 6 * (c + 1)) (by omega) (by omega) ?_
    exact kk _ _ (LwI.nx hc2 hm2 (Nat.le_trans hN2 (by omega)))
  · exact absurd rfl q507
theorem qL_law_512 : Dq cL_law 512 (.aload_n 1) 1 513 := ⟨by decide +kernel, rfl⟩
theorem qL_law_513 : Dq cL_law 513 (.aload_n 0) 1 514 := ⟨by decide +kernel, rfl⟩
theorem qL_law_514 : Dq cL_law 514 (.iload_n 3) 1 515 := ⟨by decide +kernel, rfl⟩
theorem qL_law_515 : Dq cL_law 515 (.iconst 1) 1 516 := ⟨by decide +kernel, rfl⟩
theorem qL_law_516 : Dq cL_law 516 (.iadd) 1 517 := ⟨by decide +kernel, rfl⟩
theorem qL_law_517 : Dq cL_law 517 (.iaload) 1 518 := ⟨by decide +kernel, rfl⟩
theorem qL_law_518 : Dq cL_law 518 (.invokevirtual 65) 3 521 := ⟨by decide +kernel, rfl⟩
theorem qL_law_521 : Dq cL_law 521 (.aload_n 2) 1 522 := ⟨by decide +kernel, rfl⟩
theorem qL_law_522 : Dq cL_law 522 (.aload_n 0) 1 523 := ⟨by decide +kernel, rfl⟩
theorem qL_law_523 : Dq cL_law 523 (.iload_n 3) 1 524 := ⟨by decide +kernel, rfl⟩
theorem qL_law_524 : Dq cL_law 524 (.iconst 1) 1 525 := ⟨by decide +kernel, rfl⟩
theorem qL_law_525 : Dq cL_law 525 (.iadd) 1 526 := ⟨by decide +kernel, rfl⟩
theorem qL_law_526 : Dq cL_law 526 (.iaload) 1 527 := ⟨by decide +kernel, rfl⟩
theorem qL_law_527 : Dq cL_law 527 (.invokevirtual 68) 3 530 := ⟨by decide +kernel, rfl⟩
theorem qL_law_530 : Dq cL_law 530 (.if_icmp .eq 605) 3 533 := ⟨by decide +kernel, rfl⟩
set_option maxRecDepth 100000 in
set_option maxHeartbeats 4000000 in
theorem law_12 {X : Cx} {G : Glb} {L : Nat} {xsc : Nat → Int32} {Q : State → Prop} (hl : LwX X G L xsc) {h : AHp} {E : Sst} {i c : Nat} (hi : i + 6 ≤ L) (hc64 : c < 64) (hI : LwI h E c) (kk : ∀ h' E', LwI h' E' (c + 1) → V X G 4 (58 + 6 * (c + 1)) (4289 + 6 * (c + 1)) Q 1135 [some (.ref 1000000), some (.ref 0), some (.ref 38), some (.int (nI i))] [] h') : V X G 4 (58 + 6 * c) (4289 + 6 * c) Q 512 [some (.ref 1000000), some (.ref 0), some (.ref 38), some (.int (nI i))] [] h := by
  obtain ⟨hc, hm, hN⟩ := hI
  obtain ⟨hX, hR, -⟩ := id hl
  refine v_aload_n hX rfl qL_law_512 ?_
  refine v_aload_n hX rfl qL_law_513 ?_
  refine v_iload_n hX rfl qL_law_514 ?_
  refine v_iconst hX li_1 qL_law_515 ?_
  refine v_iadd hX qL_law_516 ?_
  refine hl.sld (j := i + 1) (nI_add i 1) (by omega) qL_law_517 ?_
  refine v_callVL hX hR k_L_65 (hc.1.kd 0 rfl) (c_giveUp (by exact hc) _) rfl (Nat.le_of_ble_eq_true rfl) rfl (Nat.le_of_ble_eq_true rfl) ⟨by omega, by omega⟩ qL_law_518 ?_
  rintro _ _ ⟨rfl, σ, rfl, hc1, k1⟩
  have hm1 := hm.k38 k1
  have hN1 : hpN (σ, h.2) ≤ 58 + 6 * c := hN
  refine v_aload_n hX rfl qL_law_521 ?_
  refine v_aload_n hX rfl qL_law_522 ?_
  refine v_iload_n hX rfl qL_law_523 ?_
  refine v_iconst hX li_1 qL_law_524 ?_
  refine v_iadd hX qL_law_525 ?_
  refine hl.sld (j := i + 1) (nI_add i 1) (by omega) qL_law_526 ?_
  refine v_callVL hX hR k_L_68 (hm1.1.kd 38 rfl) (m_giveUp (by exact hm1) _) rfl (Nat.le_of_ble_eq_true rfl) rfl (Nat.le_of_ble_eq_true rfl) ⟨by omega, by omega⟩ qL_law_527 ?_
  rintro _ _ ⟨rfl, σ2, J2, rfl, hm2, k2⟩
  have hc2 := hc1.k58 (J := J2) hm1.1 k2
  have hN2 := hN1
  refine v_icmp_eq hX 1135 qL_law_530 rfl (fun q530 => ?_) (fun q530 => ?_)
  · skip
    refine v_widen (rt := none) (k' := 58 + 6 * (c + 1)) (n' := 4289 + 6 * (c + 1)) (by omega) (by omega) ?_
    exact kk _ _ (LwI.nx hc2 hm2 (Nat.le_trans hN2 (by omega)))
  · exact absurd rfl q530
theorem qL_law_535 : Dq cL_law 535 (.aload_n 1) 1 536 := ⟨by decide +kernel, rfl⟩
theorem qL_law_536 : Dq cL_law 536 (.aload_n 0) 1 537 := ⟨by decide +kernel, rfl⟩
theorem qL_law_537 : Dq cL_law 537 (.iload_n 3) 1 538 := ⟨by decide +kernel, rfl⟩
theorem qL_law_538 : Dq cL_law 538 (.iconst 1) 1 539 := ⟨by decide +kernel, rfl⟩
theorem qL_law_539 : Dq cL_law 539 (.iadd) 1 540 := ⟨by decide +kernel, rfl⟩
theorem qL_law_540 : Dq cL_law 540 (.iaload) 1 541 := ⟨by decide +kernel, rfl⟩
theorem qL_law_541 : Dq cL_law 541 (.aload_n 0) 1 542 := ⟨by decide +kernel, rfl⟩
theorem qL_law_542 : Dq cL_law 542 (.iload_n 3) 1 543 := ⟨by decide +kernel, rfl⟩
theorem qL_law_543 : Dq cL_law 543 (.iconst 2) 1 544 := ⟨by decide +kernel, rfl⟩
theorem qL_law_544 : Dq cL_law 544 (.iadd) 1 545 := ⟨by decide +kernel, rfl⟩
theorem qL_law_545 : Dq cL_law 545 (.iaload) 1 546 := ⟨by decide +kernel, rfl⟩
theorem qL_law_546 : Dq cL_law 546 (.invokevirtual 69) 3 549 := ⟨by decide +kernel, rfl⟩
theorem qL_law_549 : Dq cL_law 549 (.aload_n 2) 1 550 := ⟨by decide +kernel, rfl⟩
theorem qL_law_550 : Dq cL_law 550 (.aload_n 0) 1 551 := ⟨by decide +kernel, rfl⟩
theorem qL_law_551 : Dq cL_law 551 (.iload_n 3) 1 552 := ⟨by decide +kernel, rfl⟩
theorem qL_law_552 : Dq cL_law 552 (.iconst 1) 1 553 := ⟨by decide +kernel, rfl⟩
theorem qL_law_553 : Dq cL_law 553 (.iadd) 1 554 := ⟨by decide +kernel, rfl⟩
theorem qL_law_554 : Dq cL_law 554 (.iaload) 1 555 := ⟨by decide +kernel, rfl⟩
theorem qL_law_555 : Dq cL_law 555 (.aload_n 0) 1 556 := ⟨by decide +kernel, rfl⟩
theorem qL_law_556 : Dq cL_law 556 (.iload_n 3) 1 557 := ⟨by decide +kernel, rfl⟩
theorem qL_law_557 : Dq cL_law 557 (.iconst 2) 1 558 := ⟨by decide +kernel, rfl⟩
theorem qL_law_558 : Dq cL_law 558 (.iadd) 1 559 := ⟨by decide +kernel, rfl⟩
theorem qL_law_559 : Dq cL_law 559 (.iaload) 1 560 := ⟨by decide +kernel, rfl⟩
theorem qL_law_560 : Dq cL_law 560 (.invokevirtual 73) 3 563 := ⟨by decide +kernel, rfl⟩
theorem qL_law_563 : Dq cL_law 563 (.lcmp) 1 564 := ⟨by decide +kernel, rfl⟩
theorem qL_law_564 : Dq cL_law 564 (.ifCond .eq 571) 3 567 := ⟨by decide +kernel, rfl⟩
set_option maxRecDepth 100000 in
set_option maxHeartbeats 4000000 in
theorem law_13 {X : Cx} {G : Glb} {L : Nat} {xsc : Nat → Int32} {Q : State → Prop} (hl : LwX X G L xsc) {h : AHp} {E : Sst} {i c : Nat} (hi : i + 6 ≤ L) (hc64 : c < 64) (hI : LwI h E c) (kk : ∀ h' E', LwI h' E' (c + 1) → V X G 4 (58 + 6 * (c + 1)) (4289 + 6 * (c + 1)) Q 1135 [some (.ref 1000000), some (.ref 0), some (.ref 38), some (.int (nI i))] [] h') : V X G 4 (58 + 6 * c) (4289 + 6 * c) Q 535 [some (.ref 1000000), some (.ref 0), some (.ref 38), some (.int (nI i))] [] h := by
  obtain ⟨hc, hm, hN⟩ := hI
  obtain ⟨hX, hR, -⟩ := id hl
  refine v_aload_n hX rfl qL_law_535 ?_
  refine v_aload_n hX rfl qL_law_536 ?_
  refine v_iload_n hX rfl qL_law_537 ?_
  refine v_iconst hX li_1 qL_law_538 ?_
  refine v_iadd hX qL_law_539 ?_
  refine hl.sld (j := i + 1) (nI_add i 1) (by omega) qL_law_540 ?_
  refine v_aload_n hX rfl qL_law_541 ?_
  refine v_iload_n hX rfl qL_law_542 ?_
  refine v_iconst hX li_2 qL_law_543 ?_
  refine v_iadd hX qL_law_544 ?_
  refine hl.sld (j := i + 2) (nI_add i 2) (by omega) qL_law_545 ?_
  refine v_callVL hX hR k_L_69 (hc.1.kd 0 rfl) (c_likely (by exact hc) _ _) rfl (Nat.le_of_ble_eq_true rfl) rfl (Nat.le_of_ble_eq_true rfl) ⟨by omega, by omega⟩ qL_law_546 ?_
  rintro _ _ ⟨rfl, rfl⟩
  have hc1 := hc
  have hm1 := hm
  have hN1 := hN
  refine v_aload_n hX rfl qL_law_549 ?_
  refine v_aload_n hX rfl qL_law_550 ?_
  refine v_iload_n hX rfl qL_law_551 ?_
  refine v_iconst hX li_1 qL_law_552 ?_
  refine v_iadd hX qL_law_553 ?_
  refine hl.sld (j := i + 1) (nI_add i 1) (by omega) qL_law_554 ?_
  refine v_aload_n hX rfl qL_law_555 ?_
  refine v_iload_n hX rfl qL_law_556 ?_
  refine v_iconst hX li_2 qL_law_557 ?_
  refine v_iadd hX qL_law_558 ?_
  refine hl.sld (j := i + 2) (nI_add i 2) (by omega) qL_law_559 ?_
  refine v_callVL hX hR k_L_73 (hm1.1.kd 38 rfl) (m_likely (by exact hm1) _ _) rfl (Nat.le_of_ble_eq_true rfl) rfl (Nat.le_of_ble_eq_true rfl) ⟨by omega, by omega⟩ qL_law_560 ?_
  rintro _ _ ⟨rfl, rfl⟩
  have hc2 := hc1
  have hm2 := hm1
  have hN2 := hN1
  refine v_lcmp hX qL_law_563 ?_
  refine v_if_eq hX 1135 qL_law_564 rfl (fun q564 => ?_) (fun q564 => ?_)
  · skip
    refine v_widen (rt := none) (k' := 58 + 6 * (c + 1)) (n' := 4289 + 6 * (c + 1)) (by omega) (by omega) ?_
    exact kk _ _ (LwI.nx hc2 hm2 (Nat.le_trans hN2 (by omega)))
  · exact absurd (lcmp_rf _) q564
theorem qL_law_569 : Dq cL_law 569 (.aload_n 1) 1 570 := ⟨by decide +kernel, rfl⟩
theorem qL_law_570 : Dq cL_law 570 (.aload_n 0) 1 571 := ⟨by decide +kernel, rfl⟩
theorem qL_law_571 : Dq cL_law 571 (.iload_n 3) 1 572 := ⟨by decide +kernel, rfl⟩
theorem qL_law_572 : Dq cL_law 572 (.iconst 1) 1 573 := ⟨by decide +kernel, rfl⟩
theorem qL_law_573 : Dq cL_law 573 (.iadd) 1 574 := ⟨by decide +kernel, rfl⟩
theorem qL_law_574 : Dq cL_law 574 (.iaload) 1 575 := ⟨by decide +kernel, rfl⟩
theorem qL_law_575 : Dq cL_law 575 (.invokevirtual 74) 3 578 := ⟨by decide +kernel, rfl⟩
theorem qL_law_578 : Dq cL_law 578 (.aload_n 2) 1 579 := ⟨by decide +kernel, rfl⟩
theorem qL_law_579 : Dq cL_law 579 (.aload_n 0) 1 580 := ⟨by decide +kernel, rfl⟩
theorem qL_law_580 : Dq cL_law 580 (.iload_n 3) 1 581 := ⟨by decide +kernel, rfl⟩
theorem qL_law_581 : Dq cL_law 581 (.iconst 1) 1 582 := ⟨by decide +kernel, rfl⟩
theorem qL_law_582 : Dq cL_law 582 (.iadd) 1 583 := ⟨by decide +kernel, rfl⟩
theorem qL_law_583 : Dq cL_law 583 (.iaload) 1 584 := ⟨by decide +kernel, rfl⟩
theorem qL_law_584 : Dq cL_law 584 (.invokevirtual 78) 3 587 := ⟨by decide +kernel, rfl⟩
theorem qL_law_587 : Dq cL_law 587 (.lcmp) 1 588 := ⟨by decide +kernel, rfl⟩
theorem qL_law_588 : Dq cL_law 588 (.ifCond .eq 547) 3 591 := ⟨by decide +kernel, rfl⟩
set_option maxRecDepth 100000 in
set_option maxHeartbeats 4000000 in
theorem law_14 {X : Cx} {G : Glb} {L : Nat} {xsc : Nat → Int32} {Q : State → Prop} (hl : LwX X G L xsc) {h : AHp} {E : Sst} {i c : Nat} (hi : i + 6 ≤ L) (hc64 : c < 64) (hI : LwI h E c) (kk : ∀ h' E', LwI h' E' (c + 1) → V X G 4 (58 + 6 * (c + 1)) (4289 + 6 * (c + 1)) Q 1135 [some (.ref 1000000), some (.ref 0), some (.ref 38), some (.int (nI i))] [] h') : V X G 4 (58 + 6 * c) (4289 + 6 * c) Q 569 [some (.ref 1000000), some (.ref 0), some (.ref 38), some (.int (nI i))] [] h := by
  obtain ⟨hc, hm, hN⟩ := hI
  obtain ⟨hX, hR, -⟩ := id hl
  refine v_aload_n hX rfl qL_law_569 ?_
  refine v_aload_n hX rfl qL_law_570 ?_
  refine v_iload_n hX rfl qL_law_571 ?_
  refine v_iconst hX li_1 qL_law_572 ?_
  refine v_iadd hX qL_law_573 ?_
  refine hl.sld (j := i + 1) (nI_add i 1) (by omega) qL_law_574 ?_
  refine v_callVL hX hR k_L_74 (hc.1.kd 0 rfl) (c_here (by exact hc) _) rfl (Nat.le_of_ble_eq_true rfl) rfl (Nat.le_of_ble_eq_true rfl) ⟨by omega, by omega⟩ qL_law_575 ?_
  rintro _ _ ⟨rfl, rfl⟩
  have hc1 := hc
  have hm1 := hm
  have hN1 := hN
  refine v_aload_n hX rfl qL_law_578 ?_
  refine v_aload_n hX rfl qL_law_579 ?_
  refine v_iload_n hX rfl qL_law_580 ?_
  refine v_iconst hX li_1 qL_law_581 ?_
  refine v_iadd hX qL_law_582 ?_
  refine hl.sld (j := i + 1) (nI_add i 1) (by omega) qL_law_583 ?_
  refine v_callVL hX hR k_L_78 (hm1.1.kd 38 rfl) (m_here (by exact hm1) _) rfl (Nat.le_of_ble_eq_true rfl) rfl (Nat.le_of_ble_eq_true rfl) ⟨by omega, by omega⟩ qL_law_584 ?_
  rintro _ _ ⟨rfl, rfl⟩
  have hc2 := hc1
  have hm2 := hm1
  have hN2 := hN1
  refine v_lcmp hX qL_law_587 ?_
  refine v_if_eq hX 1135 qL_law_588 rfl (fun q588 => ?_) (fun q588 => ?_)
  · skip
    refine v_widen (rt := none) (k' := 58 + 6 * (c + 1)) (n' := 4289 + 6 * (c + 1)) (by omega) (by omega) ?_
    exact kk _ _ (LwI.nx hc2 hm2 (Nat.le_trans hN2 (by omega)))
  · exact absurd (lcmp_rf _) q588
theorem qL_law_593 : Dq cL_law 593 (.aload_n 1) 1 594 := ⟨by decide +kernel, rfl⟩
theorem qL_law_594 : Dq cL_law 594 (.aload_n 0) 1 595 := ⟨by decide +kernel, rfl⟩
theorem qL_law_595 : Dq cL_law 595 (.iload_n 3) 1 596 := ⟨by decide +kernel, rfl⟩
theorem qL_law_596 : Dq cL_law 596 (.iconst 1) 1 597 := ⟨by decide +kernel, rfl⟩
theorem qL_law_597 : Dq cL_law 597 (.iadd) 1 598 := ⟨by decide +kernel, rfl⟩
theorem qL_law_598 : Dq cL_law 598 (.iaload) 1 599 := ⟨by decide +kernel, rfl⟩
theorem qL_law_599 : Dq cL_law 599 (.invokevirtual 79) 3 602 := ⟨by decide +kernel, rfl⟩
theorem qL_law_602 : Dq cL_law 602 (.aload_n 2) 1 603 := ⟨by decide +kernel, rfl⟩
theorem qL_law_603 : Dq cL_law 603 (.aload_n 0) 1 604 := ⟨by decide +kernel, rfl⟩
theorem qL_law_604 : Dq cL_law 604 (.iload_n 3) 1 605 := ⟨by decide +kernel, rfl⟩
theorem qL_law_605 : Dq cL_law 605 (.iconst 1) 1 606 := ⟨by decide +kernel, rfl⟩
theorem qL_law_606 : Dq cL_law 606 (.iadd) 1 607 := ⟨by decide +kernel, rfl⟩
theorem qL_law_607 : Dq cL_law 607 (.iaload) 1 608 := ⟨by decide +kernel, rfl⟩
theorem qL_law_608 : Dq cL_law 608 (.invokevirtual 82) 3 611 := ⟨by decide +kernel, rfl⟩
theorem qL_law_611 : Dq cL_law 611 (.if_icmp .eq 524) 3 614 := ⟨by decide +kernel, rfl⟩
set_option maxRecDepth 100000 in
set_option maxHeartbeats 4000000 in
theorem law_15 {X : Cx} {G : Glb} {L : Nat} {xsc : Nat → Int32} {Q : State → Prop} (hl : LwX X G L xsc) {h : AHp} {E : Sst} {i c : Nat} (hi : i + 6 ≤ L) (hc64 : c < 64) (hI : LwI h E c) (kk : ∀ h' E', LwI h' E' (c + 1) → V X G 4 (58 + 6 * (c + 1)) (4289 + 6 * (c + 1)) Q 1135 [some (.ref 1000000), some (.ref 0), some (.ref 38), some (.int (nI i))] [] h') : V X G 4 (58 + 6 * c) (4289 + 6 * c) Q 593 [some (.ref 1000000), some (.ref 0), some (.ref 38), some (.int (nI i))] [] h := by
  obtain ⟨hc, hm, hN⟩ := hI
  obtain ⟨hX, hR, -⟩ := id hl
  refine v_aload_n hX rfl qL_law_593 ?_
  refine v_aload_n hX rfl qL_law_594 ?_
  refine v_iload_n hX rfl qL_law_595 ?_
  refine v_iconst hX li_1 qL_law_596 ?_
  refine v_iadd hX qL_law_597 ?_
  refine hl.sld (j := i + 1) (nI_add i 1) (by omega) qL_law_598 ?_
  refine v_callVL hX hR k_L_79 (hc.1.kd 0 rfl) (c_most (by exact hc) _) rfl (Nat.le_of_ble_eq_true rfl) rfl (Nat.le_of_ble_eq_true rfl) ⟨by omega, by omega⟩ qL_law_599 ?_
  rintro _ _ ⟨rfl, rfl⟩
  have hc1 := hc
  have hm1 := hm
  have hN1 := hN
  refine v_aload_n hX rfl qL_law_602 ?_
  refine v_aload_n hX rfl qL_law_603 ?_
  refine v_iload_n hX rfl qL_law_604 ?_
  refine v_iconst hX li_1 qL_law_605 ?_
  refine v_iadd hX qL_law_606 ?_
  refine hl.sld (j := i + 1) (nI_add i 1) (by omega) qL_law_607 ?_
  refine v_callVL hX hR k_L_82 (hm1.1.kd 38 rfl) (m_most (by exact hm1) _) rfl (Nat.le_of_ble_eq_true rfl) rfl (Nat.le_of_ble_eq_true rfl) ⟨by omega, by omega⟩ qL_law_608 ?_
  rintro _ _ ⟨rfl, rfl⟩
  have hc2 := hc1
  have hm2 := hm1
  have hN2 := hN1
  refine v_icmp_eq hX 1135 qL_law_611 rfl (fun q611 => ?_) (fun q611 => ?_)
  · skip
    refine v_widen (rt := none) (k' := 58 + 6 * (c + 1)) (n' := 4289 + 6 * (c + 1)) (by omega) (by omega) ?_
    exact kk _ _ (LwI.nx hc2 hm2 (Nat.le_trans hN2 (by omega)))
  · exact absurd rfl q611
