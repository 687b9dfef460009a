/-! the law's calls, case by case -/
set_option maxHeartbeats 4000000 in
set_option maxRecDepth 100000 in
theorem lw_k7 {p : Program} {l : Launch} {e : Env} {s : State} {m : MethodId} {b : Nat} {below : List Frame} {meth : Method} {c0 : Code} {H : Heap} {locs : List Loc} {L : Nat} {xs : Nat → Int32} {D : va_G} {c : CT} {q z : Nat → Nat} {xc : CS} {g : GS} {ls : Array Slot} {i : Nat} (hL : L ≤ 3072) (C0 : lw_At p s m meth c0 b L xs) (hK : KK D c s) (hi : i + 6 ≤ L) (hR : Rel xc g) (hh : LwH s D c q z xc g H locs) (hl : lv_has ls 4 (LwL b i q z))
    (kk : ∀ (xd : CS) (g1 : GS) (H1 : Heap) (locs1 : List Loc), Rel xd g1 → LwH s D c q z xd g1 H1 locs1 → LW p l e s m b below meth c0 H1 locs1 (F0 m 942 ls [])) : LW p l e s m b below meth c0 H locs (F0 m 421 ls []) := by
  obtain ⟨ms, ts, hs, ps, ss⟩ := xc
  obtain ⟨hx, hb, hr, hml, hown, hts, hX, hbl, hlk, hgv⟩ := id C0
  have hown : s.vm.findClass RL = some m.cls := hown
  refine lv_aload_n hx hb dL_law_421 rfl (lv_at hl 1 rfl) ?_
  refine lw_arg C0 hL 1 (by decide) (by omega) hh hl dL_law_422 dL_law_423 dL_law_424 dL_law_425 dL_law_426 ?_
  refine lw_arg C0 hL 2 (by decide) (by omega) hh hl dL_law_427 dL_law_428 dL_law_429 dL_law_430 dL_law_431 ?_
  refine lwXr (As := [.int (xs (i + 1)), .int (xs (i + 2))]) (rest := []) C0 hK hh (c_X4_told l D q c ms ts hs ps ss (xs (i + 1)) (xs (i + 2)) (rl_T hR) (rl_B hR)) (cwV 2 hts gL_X4_told rfl rfl rfl (by decide +kernel) ⟨Nat.le_of_ble_eq_true rfl, Nat.le_of_ble_eq_true rfl⟩) rfl hl.1 rfl (Nat.le_of_ble_eq_true rfl) dL_law_432 ?_
  refine lv_aload_n hx hb dL_law_435 rfl (lv_at hl 2 rfl) ?_
  refine lw_arg C0 hL 1 (by decide) (by omega) hh hl dL_law_436 dL_law_437 dL_law_438 dL_law_439 dL_law_440 ?_
  refine lw_arg C0 hL 2 (by decide) (by omega) hh hl dL_law_441 dL_law_442 dL_law_443 dL_law_444 dL_law_445 ?_
  refine lwGr (As := [.int (xs (i + 1)), .int (xs (i + 2))]) C0 hK hh (c_X5_told l D z c g (xs (i + 1)) (xs (i + 2)) hR.T20 hR.B60 (rl_W hR)) (cwV 2 hts gL_X5_told rfl rfl rfl (by decide +kernel) ⟨Nat.le_of_ble_eq_true rfl, Nat.le_of_ble_eq_true rfl⟩) rfl hl.1 rfl (Nat.le_of_ble_eq_true rfl) dL_law_446 ?_
  exact lv_icmp_eq (tgt := 942) hx hb dL_law_449 (by decide) (fun _ => kk _ _ _ _ hR hh) (fun h9 => absurd (st_told hR (xs (i + 1)) (xs (i + 2))) h9)
set_option maxHeartbeats 4000000 in
set_option maxRecDepth 100000 in
theorem lw_k8 {p : Program} {l : Launch} {e : Env} {s : State} {m : MethodId} {b : Nat} {below : List Frame} {meth : Method} {c0 : Code} {H : Heap} {locs : List Loc} {L : Nat} {xs : Nat → Int32} {D : va_G} {c : CT} {q z : Nat → Nat} {xc : CS} {g : GS} {ls : Array Slot} {i : Nat} (hL : L ≤ 3072) (C0 : lw_At p s m meth c0 b L xs) (hK : KK D c s) (hi : i + 6 ≤ L) (hR : Rel xc g) (hh : LwH s D c q z xc g H locs) (hl : lv_has ls 4 (LwL b i q z))
    (kk : ∀ (xd : CS) (g1 : GS) (H1 : Heap) (locs1 : List Loc), Rel xd g1 → LwH s D c q z xd g1 H1 locs1 → LW p l e s m b below meth c0 H1 locs1 (F0 m 942 ls [])) : LW p l e s m b below meth c0 H locs (F0 m 454 ls []) := by
  obtain ⟨ms, ts, hs, ps, ss⟩ := xc
  obtain ⟨hx, hb, hr, hml, hown, hts, hX, hbl, hlk, hgv⟩ := id C0
  have hown : s.vm.findClass RL = some m.cls := hown
  refine lv_aload_n hx hb dL_law_454 rfl (lv_at hl 1 rfl) ?_
  refine lw_arg C0 hL 1 (by decide) (by omega) hh hl dL_law_455 dL_law_456 dL_law_457 dL_law_458 dL_law_459 ?_
  refine lw_arg C0 hL 2 (by decide) (by omega) hh hl dL_law_460 dL_law_461 dL_law_462 dL_law_463 dL_law_464 ?_
  refine lwXi (As := [.int (xs (i + 1)), .int (xs (i + 2))]) (rest := []) C0 hK hh (c_X4_time l D q c ms ts hs ps ss (xs (i + 1)) (xs (i + 2)) (rl_T hR)) (cwV 2 hts gL_X4_time rfl rfl rfl (by decide +kernel) ⟨Nat.le_of_ble_eq_true rfl, Nat.le_of_ble_eq_true rfl⟩) rfl hl.1 rfl (Nat.le_of_ble_eq_true rfl) dL_law_465 (fun H locs hh => ?_)
  refine lv_aload_n hx hb dL_law_468 rfl (lv_at hl 2 rfl) ?_
  refine lw_arg C0 hL 1 (by decide) (by omega) hh hl dL_law_469 dL_law_470 dL_law_471 dL_law_472 dL_law_473 ?_
  refine lw_arg C0 hL 2 (by decide) (by omega) hh hl dL_law_474 dL_law_475 dL_law_476 dL_law_477 dL_law_478 ?_
  refine lwGi (As := [.int (xs (i + 1)), .int (xs (i + 2))]) C0 hK hh (c_X5_time l D z c g (xs (i + 1)) (xs (i + 2)) hR.T20) (cwV 2 hts gL_X5_time rfl rfl rfl (by decide +kernel) ⟨Nat.le_of_ble_eq_true rfl, Nat.le_of_ble_eq_true rfl⟩) rfl hl.1 rfl (Nat.le_of_ble_eq_true rfl) dL_law_479 (fun H locs hh => ?_)
  exact lv_icmp_eq (tgt := 942) hx hb dL_law_482 (by decide) (fun _ => kk _ _ _ _ (st_time hR (xs (i + 1)) (xs (i + 2))).2 hh) (fun h9 => absurd (st_time hR (xs (i + 1)) (xs (i + 2))).1 h9)
set_option maxHeartbeats 4000000 in
set_option maxRecDepth 100000 in
theorem lw_k9 {p : Program} {l : Launch} {e : Env} {s : State} {m : MethodId} {b : Nat} {below : List Frame} {meth : Method} {c0 : Code} {H : Heap} {locs : List Loc} {L : Nat} {xs : Nat → Int32} {D : va_G} {c : CT} {q z : Nat → Nat} {xc : CS} {g : GS} {ls : Array Slot} {i : Nat} (hL : L ≤ 3072) (C0 : lw_At p s m meth c0 b L xs) (hK : KK D c s) (hi : i + 6 ≤ L) (hR : Rel xc g) (hh : LwH s D c q z xc g H locs) (hl : lv_has ls 4 (LwL b i q z))
    (kk : ∀ (xd : CS) (g1 : GS) (H1 : Heap) (locs1 : List Loc), Rel xd g1 → LwH s D c q z xd g1 H1 locs1 → LW p l e s m b below meth c0 H1 locs1 (F0 m 942 ls [])) : LW p l e s m b below meth c0 H locs (F0 m 487 ls []) := by
  obtain ⟨ms, ts, hs, ps, ss⟩ := xc
  obtain ⟨hx, hb, hr, hml, hown, hts, hX, hbl, hlk, hgv⟩ := id C0
  have hown : s.vm.findClass RL = some m.cls := hown
  refine lv_aload_n hx hb dL_law_487 rfl (lv_at hl 1 rfl) ?_
  refine lw_arg C0 hL 1 (by decide) (by omega) hh hl dL_law_488 dL_law_489 dL_law_490 dL_law_491 dL_law_492 ?_
  refine lv_i2l hx hb dL_law_493 rfl ?_
  refine lv_bipush (v := 32) hx hb dL_law_494 (by decide) ?_
  refine lv_lshl hx hb dL_law_496 rfl ?_
  refine lw_arg C0 hL 2 (by decide) (by omega) hh hl dL_law_497 dL_law_498 dL_law_499 dL_law_500 dL_law_501 ?_
  refine lv_i2l hx hb dL_law_502 rfl ?_
  refine lv_ldc2 (own := RL) (v := (4294967295)) hx hb hown (hts (.constantLong RL 53 (4294967295)) (by decide +kernel)) dL_law_503 ?_
  refine lv_land hx hb dL_law_506 ?_
  refine lv_lor hx hb dL_law_507 ?_
  refine tp_l (z := lwE (xs (i + 1)) (xs (i + 2))) rfl ?_
  refine lwXi (As := [.long (lwE (xs (i + 1)) (xs (i + 2)))]) (rest := []) C0 hK hh (c_X4_build l D q c ms ts hs ps ss (lwE (xs (i + 1)) (xs (i + 2))) (rl_B hR)) (cwV 1 hts gL_X4_build rfl rfl rfl (by decide +kernel) ⟨Nat.le_of_ble_eq_true rfl, Nat.le_of_ble_eq_true rfl⟩) rfl hl.1 rfl (Nat.le_of_ble_eq_true rfl) dL_law_508 (fun H locs hh => ?_)
  refine lv_aload_n hx hb dL_law_511 rfl (lv_at hl 2 rfl) ?_
  refine lw_arg C0 hL 1 (by decide) (by omega) hh hl dL_law_512 dL_law_513 dL_law_514 dL_law_515 dL_law_516 ?_
  refine lv_i2l hx hb dL_law_517 rfl ?_
  refine lv_bipush (v := 32) hx hb dL_law_518 (by decide) ?_
  refine lv_lshl hx hb dL_law_520 rfl ?_
  refine lw_arg C0 hL 2 (by decide) (by omega) hh hl dL_law_521 dL_law_522 dL_law_523 dL_law_524 dL_law_525 ?_
  refine lv_i2l hx hb dL_law_526 rfl ?_
  refine lv_ldc2 (own := RL) (v := (4294967295)) hx hb hown (hts (.constantLong RL 53 (4294967295)) (by decide +kernel)) dL_law_527 ?_
  refine lv_land hx hb dL_law_530 ?_
  refine lv_lor hx hb dL_law_531 ?_
  refine tp_l (z := lwE (xs (i + 1)) (xs (i + 2))) rfl ?_
  refine lwGi (As := [.long (lwE (xs (i + 1)) (xs (i + 2)))]) C0 hK hh (c_X5_build l D z c g (lwE (xs (i + 1)) (xs (i + 2))) hR.B60) (cwV 1 hts gL_X5_build rfl rfl rfl (by decide +kernel) ⟨Nat.le_of_ble_eq_true rfl, Nat.le_of_ble_eq_true rfl⟩) rfl hl.1 rfl (Nat.le_of_ble_eq_true rfl) dL_law_532 (fun H locs hh => ?_)
  exact lv_icmp_eq (tgt := 942) hx hb dL_law_535 (by decide) (fun _ => kk _ _ _ _ (st_build hR (lwE (xs (i + 1)) (xs (i + 2)))).2 hh) (fun h9 => absurd (st_build hR (lwE (xs (i + 1)) (xs (i + 2)))).1 h9)
set_option maxHeartbeats 4000000 in
set_option maxRecDepth 100000 in
theorem lw_k10 {p : Program} {l : Launch} {e : Env} {s : State} {m : MethodId} {b : Nat} {below : List Frame} {meth : Method} {c0 : Code} {H : Heap} {locs : List Loc} {L : Nat} {xs : Nat → Int32} {D : va_G} {c : CT} {q z : Nat → Nat} {xc : CS} {g : GS} {ls : Array Slot} {i : Nat} (hL : L ≤ 3072) (C0 : lw_At p s m meth c0 b L xs) (hK : KK D c s) (hi : i + 6 ≤ L) (hR : Rel xc g) (hh : LwH s D c q z xc g H locs) (hl : lv_has ls 4 (LwL b i q z))
    (kk : ∀ (xd : CS) (g1 : GS) (H1 : Heap) (locs1 : List Loc), Rel xd g1 → LwH s D c q z xd g1 H1 locs1 → LW p l e s m b below meth c0 H1 locs1 (F0 m 942 ls [])) : LW p l e s m b below meth c0 H locs (F0 m 540 ls []) := by
  obtain ⟨ms, ts, hs, ps, ss⟩ := xc
  obtain ⟨hx, hb, hr, hml, hown, hts, hX, hbl, hlk, hgv⟩ := id C0
  have hown : s.vm.findClass RL = some m.cls := hown
  by_cases hz : xs (i + 2) = 0
  ·
    refine lv_aload_n hx hb dL_law_540 rfl (lv_at hl 1 rfl) ?_
    refine lw_arg C0 hL 1 (by decide) (by omega) hh hl dL_law_541 dL_law_542 dL_law_543 dL_law_544 dL_law_545 ?_
    refine lw_arg C0 hL 2 (by decide) (by omega) hh hl dL_law_546 dL_law_547 dL_law_548 dL_law_549 dL_law_550 ?_
    refine lv_if_eq (tgt := 558) hx hb dL_law_551 (by decide) (fun _ => ?_) (fun h9 => absurd hz h9)
    refine lv_iconst (v := bI false) hx hb dL_law_558 (by decide) ?_
    refine lwXi (As := [.int (xs (i + 1)), .int (bI false)]) (rest := []) C0 hK hh (c_X4_verdict l D q c ms ts hs ps ss (xs (i + 1)) false (rl_T hR) (rl_B hR)) (cwV 2 hts gL_X4_verdict rfl rfl rfl (by decide +kernel) ⟨Nat.le_of_ble_eq_true rfl, Nat.le_of_ble_eq_true rfl⟩) rfl hl.1 rfl (Nat.le_of_ble_eq_true rfl) dL_law_559 (fun H locs hh => ?_)
    refine lv_aload_n hx hb dL_law_562 rfl (lv_at hl 2 rfl) ?_
    refine lw_arg C0 hL 1 (by decide) (by omega) hh hl dL_law_563 dL_law_564 dL_law_565 dL_law_566 dL_law_567 ?_
    refine lw_arg C0 hL 2 (by decide) (by omega) hh hl dL_law_568 dL_law_569 dL_law_570 dL_law_571 dL_law_572 ?_
    refine lv_if_eq (tgt := 580) hx hb dL_law_573 (by decide) (fun _ => ?_) (fun h9 => absurd hz h9)
    refine lv_iconst (v := bI false) hx hb dL_law_580 (by decide) ?_
    refine lwGi (As := [.int (xs (i + 1)), .int (bI false)]) C0 hK hh (c_X5_verdict l D z c g (xs (i + 1)) false hR.T20 hR.B60) (cwV 2 hts gL_X5_verdict rfl rfl rfl (by decide +kernel) ⟨Nat.le_of_ble_eq_true rfl, Nat.le_of_ble_eq_true rfl⟩) rfl hl.1 rfl (Nat.le_of_ble_eq_true rfl) dL_law_581 (fun H locs hh => ?_)
    exact lv_icmp_eq (tgt := 942) hx hb dL_law_584 (by decide) (fun _ => kk _ _ _ _ (st_verdict hR (xs (i + 1)) false).2 hh) (fun h9 => absurd (st_verdict hR (xs (i + 1)) false).1 h9)
  ·
    refine lv_aload_n hx hb dL_law_540 rfl (lv_at hl 1 rfl) ?_
    refine lw_arg C0 hL 1 (by decide) (by omega) hh hl dL_law_541 dL_law_542 dL_law_543 dL_law_544 dL_law_545 ?_
    refine lw_arg C0 hL 2 (by decide) (by omega) hh hl dL_law_546 dL_law_547 dL_law_548 dL_law_549 dL_law_550 ?_
    refine lv_if_eq (tgt := 558) hx hb dL_law_551 (by decide) (fun h9 => absurd h9 hz) (fun _ => ?_)
    refine lv_iconst (v := bI true) hx hb dL_law_554 (by decide) ?_
    refine lv_goto (tgt := 559) hx hb dL_law_555 (by decide) ?_
    refine lwXi (As := [.int (xs (i + 1)), .int (bI true)]) (rest := []) C0 hK hh (c_X4_verdict l D q c ms ts hs ps ss (xs (i + 1)) true (rl_T hR) (rl_B hR)) (cwV 2 hts gL_X4_verdict rfl rfl rfl (by decide +kernel) ⟨Nat.le_of_ble_eq_true rfl, Nat.le_of_ble_eq_true rfl⟩) rfl hl.1 rfl (Nat.le_of_ble_eq_true rfl) dL_law_559 (fun H locs hh => ?_)
    refine lv_aload_n hx hb dL_law_562 rfl (lv_at hl 2 rfl) ?_
    refine lw_arg C0 hL 1 (by decide) (by omega) hh hl dL_law_563 dL_law_564 dL_law_565 dL_law_566 dL_law_567 ?_
    refine lw_arg C0 hL 2 (by decide) (by omega) hh hl dL_law_568 dL_law_569 dL_law_570 dL_law_571 dL_law_572 ?_
    refine lv_if_eq (tgt := 580) hx hb dL_law_573 (by decide) (fun h9 => absurd h9 hz) (fun _ => ?_)
    refine lv_iconst (v := bI true) hx hb dL_law_576 (by decide) ?_
    refine lv_goto (tgt := 581) hx hb dL_law_577 (by decide) ?_
    refine lwGi (As := [.int (xs (i + 1)), .int (bI true)]) C0 hK hh (c_X5_verdict l D z c g (xs (i + 1)) true hR.T20 hR.B60) (cwV 2 hts gL_X5_verdict rfl rfl rfl (by decide +kernel) ⟨Nat.le_of_ble_eq_true rfl, Nat.le_of_ble_eq_true rfl⟩) rfl hl.1 rfl (Nat.le_of_ble_eq_true rfl) dL_law_581 (fun H locs hh => ?_)
    exact lv_icmp_eq (tgt := 942) hx hb dL_law_584 (by decide) (fun _ => kk _ _ _ _ (st_verdict hR (xs (i + 1)) true).2 hh) (fun h9 => absurd (st_verdict hR (xs (i + 1)) true).1 h9)
set_option maxHeartbeats 4000000 in
set_option maxRecDepth 100000 in
theorem lw_k11 {p : Program} {l : Launch} {e : Env} {s : State} {m : MethodId} {b : Nat} {below : List Frame} {meth : Method} {c0 : Code} {H : Heap} {locs : List Loc} {L : Nat} {xs : Nat → Int32} {D : va_G} {c : CT} {q z : Nat → Nat} {xc : CS} {g : GS} {ls : Array Slot} {i : Nat} (hL : L ≤ 3072) (C0 : lw_At p s m meth c0 b L xs) (hK : KK D c s) (hi : i + 6 ≤ L) (hR : Rel xc g) (hh : LwH s D c q z xc g H locs) (hl : lv_has ls 4 (LwL b i q z))
    (kk : ∀ (xd : CS) (g1 : GS) (H1 : Heap) (locs1 : List Loc), Rel xd g1 → LwH s D c q z xd g1 H1 locs1 → LW p l e s m b below meth c0 H1 locs1 (F0 m 942 ls [])) : LW p l e s m b below meth c0 H locs (F0 m 589 ls []) := by
  obtain ⟨ms, ts, hs, ps, ss⟩ := xc
  obtain ⟨hx, hb, hr, hml, hown, hts, hX, hbl, hlk, hgv⟩ := id C0
  have hown : s.vm.findClass RL = some m.cls := hown
  refine lv_aload_n hx hb dL_law_589 rfl (lv_at hl 1 rfl) ?_
  refine lw_arg C0 hL 1 (by decide) (by omega) hh hl dL_law_590 dL_law_591 dL_law_592 dL_law_593 dL_law_594 ?_
  refine lw_arg C0 hL 2 (by decide) (by omega) hh hl dL_law_595 dL_law_596 dL_law_597 dL_law_598 dL_law_599 ?_
  refine lwXr (As := [.int (xs (i + 1)), .int (xs (i + 2))]) (rest := []) C0 hK hh (c_X4_was l D q c ms ts hs ps ss (xs (i + 1)) (xs (i + 2)) (rl_T hR) (rl_B hR)) (cwV 2 hts gL_X4_was rfl rfl rfl (by decide +kernel) ⟨Nat.le_of_ble_eq_true rfl, Nat.le_of_ble_eq_true rfl⟩) rfl hl.1 rfl (Nat.le_of_ble_eq_true rfl) dL_law_600 ?_
  refine lv_aload_n hx hb dL_law_603 rfl (lv_at hl 2 rfl) ?_
  refine lw_arg C0 hL 1 (by decide) (by omega) hh hl dL_law_604 dL_law_605 dL_law_606 dL_law_607 dL_law_608 ?_
  refine lw_arg C0 hL 2 (by decide) (by omega) hh hl dL_law_609 dL_law_610 dL_law_611 dL_law_612 dL_law_613 ?_
  refine lwGr (As := [.int (xs (i + 1)), .int (xs (i + 2))]) C0 hK hh (c_X5_was l D z c g (xs (i + 1)) (xs (i + 2)) hR.T20 hR.B60) (cwV 2 hts gL_X5_was rfl rfl rfl (by decide +kernel) ⟨Nat.le_of_ble_eq_true rfl, Nat.le_of_ble_eq_true rfl⟩) rfl hl.1 rfl (Nat.le_of_ble_eq_true rfl) dL_law_614 ?_
  exact lv_icmp_eq (tgt := 942) hx hb dL_law_617 (by decide) (fun _ => kk _ _ _ _ hR hh) (fun h9 => absurd (st_was hR (xs (i + 1)) (xs (i + 2))) h9)
set_option maxHeartbeats 4000000 in
set_option maxRecDepth 100000 in
theorem lw_k12 {p : Program} {l : Launch} {e : Env} {s : State} {m : MethodId} {b : Nat} {below : List Frame} {meth : Method} {c0 : Code} {H : Heap} {locs : List Loc} {L : Nat} {xs : Nat → Int32} {D : va_G} {c : CT} {q z : Nat → Nat} {xc : CS} {g : GS} {ls : Array Slot} {i : Nat} (hL : L ≤ 3072) (C0 : lw_At p s m meth c0 b L xs) (hK : KK D c s) (hi : i + 6 ≤ L) (hR : Rel xc g) (hh : LwH s D c q z xc g H locs) (hl : lv_has ls 4 (LwL b i q z))
    (kk : ∀ (xd : CS) (g1 : GS) (H1 : Heap) (locs1 : List Loc), Rel xd g1 → LwH s D c q z xd g1 H1 locs1 → LW p l e s m b below meth c0 H1 locs1 (F0 m 942 ls [])) : LW p l e s m b below meth c0 H locs (F0 m 622 ls []) := by
  obtain ⟨ms, ts, hs, ps, ss⟩ := xc
  obtain ⟨hx, hb, hr, hml, hown, hts, hX, hbl, hlk, hgv⟩ := id C0
  have hown : s.vm.findClass RL = some m.cls := hown
  refine lv_aload_n hx hb dL_law_622 rfl (lv_at hl 1 rfl) ?_
  refine lw_arg C0 hL 1 (by decide) (by omega) hh hl dL_law_623 dL_law_624 dL_law_625 dL_law_626 dL_law_627 ?_
  refine lwXi (As := [.int (xs (i + 1))]) (rest := []) C0 hK hh (c_X4_change l D q c ms ts hs ps ss (xs (i + 1)) (rl_B hR)) (cwV 1 hts gL_X4_change rfl rfl rfl (by decide +kernel) ⟨Nat.le_of_ble_eq_true rfl, Nat.le_of_ble_eq_true rfl⟩) rfl hl.1 rfl (Nat.le_of_ble_eq_true rfl) dL_law_628 (fun H locs hh => ?_)
  refine lv_aload_n hx hb dL_law_631 rfl (lv_at hl 2 rfl) ?_
  refine lw_arg C0 hL 1 (by decide) (by omega) hh hl dL_law_632 dL_law_633 dL_law_634 dL_law_635 dL_law_636 ?_
  refine lwGi (As := [.int (xs (i + 1))]) C0 hK hh (c_X5_change l D z c g (xs (i + 1)) hR.B60) (cwV 1 hts gL_X5_change rfl rfl rfl (by decide +kernel) ⟨Nat.le_of_ble_eq_true rfl, Nat.le_of_ble_eq_true rfl⟩) rfl hl.1 rfl (Nat.le_of_ble_eq_true rfl) dL_law_637 (fun H locs hh => ?_)
  exact lv_icmp_eq (tgt := 942) hx hb dL_law_640 (by decide) (fun _ => kk _ _ _ _ (st_change hR (xs (i + 1))).2 hh) (fun h9 => absurd (st_change hR (xs (i + 1))).1 h9)
set_option maxHeartbeats 4000000 in
set_option maxRecDepth 100000 in
theorem lw_k13 {p : Program} {l : Launch} {e : Env} {s : State} {m : MethodId} {b : Nat} {below : List Frame} {meth : Method} {c0 : Code} {H : Heap} {locs : List Loc} {L : Nat} {xs : Nat → Int32} {D : va_G} {c : CT} {q z : Nat → Nat} {xc : CS} {g : GS} {ls : Array Slot} {i : Nat} (hL : L ≤ 3072) (C0 : lw_At p s m meth c0 b L xs) (hK : KK D c s) (hi : i + 6 ≤ L) (hR : Rel xc g) (hh : LwH s D c q z xc g H locs) (hl : lv_has ls 4 (LwL b i q z))
    (kk : ∀ (xd : CS) (g1 : GS) (H1 : Heap) (locs1 : List Loc), Rel xd g1 → LwH s D c q z xd g1 H1 locs1 → LW p l e s m b below meth c0 H1 locs1 (F0 m 942 ls [])) : LW p l e s m b below meth c0 H locs (F0 m 645 ls []) := by
  obtain ⟨ms, ts, hs, ps, ss⟩ := xc
  obtain ⟨hx, hb, hr, hml, hown, hts, hX, hbl, hlk, hgv⟩ := id C0
  have hown : s.vm.findClass RL = some m.cls := hown
  refine lv_aload_n hx hb dL_law_645 rfl (lv_at hl 1 rfl) ?_
  refine lw_arg C0 hL 1 (by decide) (by omega) hh hl dL_law_646 dL_law_647 dL_law_648 dL_law_649 dL_law_650 ?_
  refine lw_arg C0 hL 2 (by decide) (by omega) hh hl dL_law_651 dL_law_652 dL_law_653 dL_law_654 dL_law_655 ?_
  refine lwXr (As := [.int (xs (i + 1)), .int (xs (i + 2))]) (rest := []) C0 hK hh (c_X4_often l D q c ms ts hs ps ss (xs (i + 1)) (xs (i + 2)) (rl_T hR)) (cwV 2 hts gL_X4_often rfl rfl rfl (by decide +kernel) ⟨Nat.le_of_ble_eq_true rfl, Nat.le_of_ble_eq_true rfl⟩) rfl hl.1 rfl (Nat.le_of_ble_eq_true rfl) dL_law_656 ?_
  refine lv_aload_n hx hb dL_law_659 rfl (lv_at hl 2 rfl) ?_
  refine lw_arg C0 hL 1 (by decide) (by omega) hh hl dL_law_660 dL_law_661 dL_law_662 dL_law_663 dL_law_664 ?_
  refine lw_arg C0 hL 2 (by decide) (by omega) hh hl dL_law_665 dL_law_666 dL_law_667 dL_law_668 dL_law_669 ?_
  refine lwGr (As := [.int (xs (i + 1)), .int (xs (i + 2))]) C0 hK hh (c_X5_often l D z c g (xs (i + 1)) (xs (i + 2)) hR.T20 hR.B60) (cwV 2 hts gL_X5_often rfl rfl rfl (by decide +kernel) ⟨Nat.le_of_ble_eq_true rfl, Nat.le_of_ble_eq_true rfl⟩) rfl hl.1 rfl (Nat.le_of_ble_eq_true rfl) dL_law_670 ?_
  exact lv_icmp_eq (tgt := 942) hx hb dL_law_673 (by decide) (fun _ => kk _ _ _ _ hR hh) (fun h9 => absurd (st_often hR (xs (i + 1)) (xs (i + 2))) h9)
