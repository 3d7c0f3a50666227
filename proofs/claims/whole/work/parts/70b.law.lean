section LawC
variable {l : Launch} {D : va_G} {cI cO cL : ClassId} {J : JT va_W} {b L : Nat} {xs : Nat → Int32} {a a2 : Nat → Nat} {Z Z2 : ZZ} {o : Nat} {f : Nat → Int64} {k i : Nat} {g : Nat → Int}
set_option maxRecDepth 20000 in
theorem law_subtract (hJ : IsG l D (tL cI cO cL) cL_law 7 wsL_law RL room_1 (XL b L xs) J) (hl0 : l.stackTraces = false) (hI : XI Z g) (hM : MI Z2 g) (hi : i + 5 ≤ L) (hL : L ≤ 2560) (hk : k + 8 ≤ 601024)
    (nx : ∀ (g' : Nat → Int) (Z' : ZZ) (f' : Nat → Int64) (Z2' : ZZ), XI Z' g' → MI Z2' g' → J ((wX cI cO a Z' ++ wO cL o f') ++ wM cI a2 Z2') (k + 8) 1008 [(0, .ref b), (1, .ref (a 0)), (2, .ref (a2 0)), (3, .ref o), (4, .int (iZ (i : Int)))] []) : J ((wX cI cO a Z ++ wO cL o f) ++ wM cI a2 Z2) k 384 [(0, .ref b), (1, .ref (a 0)), (2, .ref (a2 0)), (3, .ref o), (4, .int (iZ (i : Int)))] [] := by
  refine g_aload_n hJ dL_law_384 rfl ?_
  refine g_arg (i := (i : Int)) (n := i + 1) hJ (by omega) (by omega) hL rfl rfl dL_law_385 dL_law_386 dL_law_388 dL_law_389 dL_law_390 ?_
  refine g_arg (i := (i : Int)) (n := i + 2) hJ (by omega) (by omega) hL rfl rfl dL_law_391 dL_law_392 dL_law_394 dL_law_395 dL_law_396 ?_
  refine g_arg (i := (i : Int)) (n := i + 3) hJ (by omega) (by omega) hL rfl rfl dL_law_397 dL_law_398 dL_law_400 dL_law_401 dL_law_402 ?_
  refine g_callW (n := 4) (r2 := wM cI a2 Z2) hJ (kL_subtract l D cI cO cL a Z o f hl0 g hI ((xs (i + 1)).toInt) ((xs (i + 2)).toInt) ((xs (i + 3)).toInt) (i32_v _) (i32_v _) (i32_v _)) rfl gL_law_L_subtract rfl (by decide +kernel) rfl ⟨Nat.le_of_ble_eq_true rfl, Nat.le_of_ble_eq_true rfl⟩ (Nat.le_of_ble_eq_true rfl) (l_room hk (by omega)) [0, 1, 2] rfl dL_law_403 (fun r3 w3 h3 => ?_)
  obtain ⟨Z3, rfl, hX3, rfl⟩ := h3
  refine g_istore hJ (by decide) dL_law_406 ?_
  refine g_aload_n hJ dL_law_408 rfl ?_
  refine g_arg (i := (i : Int)) (n := i + 1) hJ (by omega) (by omega) hL rfl rfl dL_law_409 dL_law_410 dL_law_412 dL_law_413 dL_law_414 ?_
  refine g_arg (i := (i : Int)) (n := i + 2) hJ (by omega) (by omega) hL rfl rfl dL_law_415 dL_law_416 dL_law_418 dL_law_419 dL_law_420 ?_
  refine g_arg (i := (i : Int)) (n := i + 3) hJ (by omega) (by omega) hL rfl rfl dL_law_421 dL_law_422 dL_law_424 dL_law_425 dL_law_426 ?_
  refine g_callM (r1 := wX cI cO a Z3 ++ wO cL o f) hJ (kX1_subtract l D cI a2 Z2 g hM ((xs (i + 1)).toInt) ((xs (i + 2)).toInt) ((xs (i + 3)).toInt) (i32_v _) (i32_v _) (i32_v _)) rfl gL_law_X1_subtract rfl hdX1_subtract rfl ⟨Nat.le_of_ble_eq_true rfl, Nat.le_of_ble_eq_true rfl⟩ (Nat.le_of_ble_eq_true rfl) (l_room hk (by omega)) [0] rfl dL_law_427 (fun r4 Z4 h4 => ?_)
  obtain ⟨rfl, hc4, hM4⟩ := h4
  refine g_aload_n hJ dL_law_430 rfl ?_
  refine g_callM (As := []) (r1 := wX cI cO a Z3 ++ wO cL o f) hJ (kX1_thrown l D cI a2 Z4) rfl gL_law_X1_thrown rfl hdX1_thrown rfl ⟨Nat.le_of_ble_eq_true rfl, Nat.le_of_ble_eq_true rfl⟩ (Nat.le_of_ble_eq_true rfl) (l_room hk (by omega)) [0] rfl dL_law_431 (fun r5 Z5 h5 => ?_)
  obtain ⟨rfl, rfl⟩ := h5
  refine g_iload hJ dL_law_434 rfl ?_
  refine g_ieq (tgt := 441) hJ (by rw [hc4]) (by decide) dL_law_436 ?_
  refine g_goto (tgt := 1008) hJ (by decide) dL_law_441 ?_
  exact g_re hJ (g_wide hJ (by omega) (nx _ Z3 f Z4 hX3 hM4)) ⟨rfl, rfl, rfl, rfl, rfl, trivial⟩
set_option maxRecDepth 20000 in
theorem law_multiply (hJ : IsG l D (tL cI cO cL) cL_law 7 wsL_law RL room_1 (XL b L xs) J) (hl0 : l.stackTraces = false) (hI : XI Z g) (hM : MI Z2 g) (hi : i + 5 ≤ L) (hL : L ≤ 2560) (hk : k + 8 ≤ 601024)
    (nx : ∀ (g' : Nat → Int) (Z' : ZZ) (f' : Nat → Int64) (Z2' : ZZ), XI Z' g' → MI Z2' g' → J ((wX cI cO a Z' ++ wO cL o f') ++ wM cI a2 Z2') (k + 8) 1008 [(0, .ref b), (1, .ref (a 0)), (2, .ref (a2 0)), (3, .ref o), (4, .int (iZ (i : Int)))] []) : J ((wX cI cO a Z ++ wO cL o f) ++ wM cI a2 Z2) k 444 [(0, .ref b), (1, .ref (a 0)), (2, .ref (a2 0)), (3, .ref o), (4, .int (iZ (i : Int)))] [] := by
  refine g_aload_n hJ dL_law_444 rfl ?_
  refine g_arg (i := (i : Int)) (n := i + 1) hJ (by omega) (by omega) hL rfl rfl dL_law_445 dL_law_446 dL_law_448 dL_law_449 dL_law_450 ?_
  refine g_arg (i := (i : Int)) (n := i + 2) hJ (by omega) (by omega) hL rfl rfl dL_law_451 dL_law_452 dL_law_454 dL_law_455 dL_law_456 ?_
  refine g_arg (i := (i : Int)) (n := i + 3) hJ (by omega) (by omega) hL rfl rfl dL_law_457 dL_law_458 dL_law_460 dL_law_461 dL_law_462 ?_
  refine g_callW (n := 4) (r2 := wM cI a2 Z2) hJ (kL_multiply l D cI cO cL a Z o f hl0 g hI ((xs (i + 1)).toInt) ((xs (i + 2)).toInt) ((xs (i + 3)).toInt) (i32_v _) (i32_v _) (i32_v _)) rfl gL_law_L_multiply rfl (by decide +kernel) rfl ⟨Nat.le_of_ble_eq_true rfl, Nat.le_of_ble_eq_true rfl⟩ (Nat.le_of_ble_eq_true rfl) (l_room hk (by omega)) [0, 1, 2] rfl dL_law_463 (fun r3 w3 h3 => ?_)
  obtain ⟨Z3, rfl, hX3, rfl⟩ := h3
  refine g_istore hJ (by decide) dL_law_466 ?_
  refine g_aload_n hJ dL_law_468 rfl ?_
  refine g_arg (i := (i : Int)) (n := i + 1) hJ (by omega) (by omega) hL rfl rfl dL_law_469 dL_law_470 dL_law_472 dL_law_473 dL_law_474 ?_
  refine g_arg (i := (i : Int)) (n := i + 2) hJ (by omega) (by omega) hL rfl rfl dL_law_475 dL_law_476 dL_law_478 dL_law_479 dL_law_480 ?_
  refine g_arg (i := (i : Int)) (n := i + 3) hJ (by omega) (by omega) hL rfl rfl dL_law_481 dL_law_482 dL_law_484 dL_law_485 dL_law_486 ?_
  refine g_callM (r1 := wX cI cO a Z3 ++ wO cL o f) hJ (kX1_multiply l D cI a2 Z2 g hM ((xs (i + 1)).toInt) ((xs (i + 2)).toInt) ((xs (i + 3)).toInt) (i32_v _) (i32_v _) (i32_v _)) rfl gL_law_X1_multiply rfl hdX1_multiply rfl ⟨Nat.le_of_ble_eq_true rfl, Nat.le_of_ble_eq_true rfl⟩ (Nat.le_of_ble_eq_true rfl) (l_room hk (by omega)) [0] rfl dL_law_487 (fun r4 Z4 h4 => ?_)
  obtain ⟨rfl, hc4, hM4⟩ := h4
  refine g_aload_n hJ dL_law_490 rfl ?_
  refine g_callM (As := []) (r1 := wX cI cO a Z3 ++ wO cL o f) hJ (kX1_thrown l D cI a2 Z4) rfl gL_law_X1_thrown rfl hdX1_thrown rfl ⟨Nat.le_of_ble_eq_true rfl, Nat.le_of_ble_eq_true rfl⟩ (Nat.le_of_ble_eq_true rfl) (l_room hk (by omega)) [0] rfl dL_law_491 (fun r5 Z5 h5 => ?_)
  obtain ⟨rfl, rfl⟩ := h5
  refine g_iload hJ dL_law_494 rfl ?_
  refine g_ieq (tgt := 501) hJ (by rw [hc4]) (by decide) dL_law_496 ?_
  refine g_goto (tgt := 1008) hJ (by decide) dL_law_501 ?_
  exact g_re hJ (g_wide hJ (by omega) (nx _ Z3 f Z4 hX3 hM4)) ⟨rfl, rfl, rfl, rfl, rfl, trivial⟩
set_option maxRecDepth 20000 in
theorem law_divide (hJ : IsG l D (tL cI cO cL) cL_law 7 wsL_law RL room_1 (XL b L xs) J) (hl0 : l.stackTraces = false) (hI : XI Z g) (hM : MI Z2 g) (hi : i + 5 ≤ L) (hL : L ≤ 2560) (hk : k + 8 ≤ 601024)
    (nx : ∀ (g' : Nat → Int) (Z' : ZZ) (f' : Nat → Int64) (Z2' : ZZ), XI Z' g' → MI Z2' g' → J ((wX cI cO a Z' ++ wO cL o f') ++ wM cI a2 Z2') (k + 8) 1008 [(0, .ref b), (1, .ref (a 0)), (2, .ref (a2 0)), (3, .ref o), (4, .int (iZ (i : Int)))] []) : J ((wX cI cO a Z ++ wO cL o f) ++ wM cI a2 Z2) k 504 [(0, .ref b), (1, .ref (a 0)), (2, .ref (a2 0)), (3, .ref o), (4, .int (iZ (i : Int)))] [] := by
  refine g_aload_n hJ dL_law_504 rfl ?_
  refine g_arg (i := (i : Int)) (n := i + 1) hJ (by omega) (by omega) hL rfl rfl dL_law_505 dL_law_506 dL_law_508 dL_law_509 dL_law_510 ?_
  refine g_arg (i := (i : Int)) (n := i + 2) hJ (by omega) (by omega) hL rfl rfl dL_law_511 dL_law_512 dL_law_514 dL_law_515 dL_law_516 ?_
  refine g_arg (i := (i : Int)) (n := i + 3) hJ (by omega) (by omega) hL rfl rfl dL_law_517 dL_law_518 dL_law_520 dL_law_521 dL_law_522 ?_
  refine g_arg (i := (i : Int)) (n := i + 4) hJ (by omega) (by omega) hL rfl rfl dL_law_523 dL_law_524 dL_law_526 dL_law_527 dL_law_528 ?_
  refine g_callW (n := 5) (r2 := wM cI a2 Z2) hJ (kL_divide l D cI cO cL a Z o f hl0 g hI ((xs (i + 1)).toInt) ((xs (i + 2)).toInt) ((xs (i + 3)).toInt) ((xs (i + 4)).toInt) (i32_v _) (i32_v _) (i32_v _) (i32_v _)) rfl gL_law_L_divide rfl (by decide +kernel) rfl ⟨Nat.le_of_ble_eq_true rfl, Nat.le_of_ble_eq_true rfl⟩ (Nat.le_of_ble_eq_true rfl) (l_room hk (by omega)) [0, 1, 2] rfl dL_law_529 (fun r3 w3 h3 => ?_)
  obtain ⟨Z3, rfl, hX3, rfl⟩ := h3
  refine g_istore hJ (by decide) dL_law_532 ?_
  refine g_aload_n hJ dL_law_534 rfl ?_
  refine g_arg (i := (i : Int)) (n := i + 1) hJ (by omega) (by omega) hL rfl rfl dL_law_535 dL_law_536 dL_law_538 dL_law_539 dL_law_540 ?_
  refine g_arg (i := (i : Int)) (n := i + 2) hJ (by omega) (by omega) hL rfl rfl dL_law_541 dL_law_542 dL_law_544 dL_law_545 dL_law_546 ?_
  refine g_arg (i := (i : Int)) (n := i + 3) hJ (by omega) (by omega) hL rfl rfl dL_law_547 dL_law_548 dL_law_550 dL_law_551 dL_law_552 ?_
  refine g_arg (i := (i : Int)) (n := i + 4) hJ (by omega) (by omega) hL rfl rfl dL_law_553 dL_law_554 dL_law_556 dL_law_557 dL_law_558 ?_
  refine g_callM (r1 := wX cI cO a Z3 ++ wO cL o f) hJ (kX1_divide l D cI a2 Z2 g hM ((xs (i + 1)).toInt) ((xs (i + 2)).toInt) ((xs (i + 3)).toInt) ((xs (i + 4)).toInt) (i32_v _) (i32_v _) (i32_v _) (i32_v _)) rfl gL_law_X1_divide rfl hdX1_divide rfl ⟨Nat.le_of_ble_eq_true rfl, Nat.le_of_ble_eq_true rfl⟩ (Nat.le_of_ble_eq_true rfl) (l_room hk (by omega)) [0] rfl dL_law_559 (fun r4 Z4 h4 => ?_)
  obtain ⟨rfl, hc4, hM4⟩ := h4
  refine g_aload_n hJ dL_law_562 rfl ?_
  refine g_callM (As := []) (r1 := wX cI cO a Z3 ++ wO cL o f) hJ (kX1_thrown l D cI a2 Z4) rfl gL_law_X1_thrown rfl hdX1_thrown rfl ⟨Nat.le_of_ble_eq_true rfl, Nat.le_of_ble_eq_true rfl⟩ (Nat.le_of_ble_eq_true rfl) (l_room hk (by omega)) [0] rfl dL_law_563 (fun r5 Z5 h5 => ?_)
  obtain ⟨rfl, rfl⟩ := h5
  refine g_iload hJ dL_law_566 rfl ?_
  refine g_ieq (tgt := 573) hJ (by rw [hc4]) (by decide) dL_law_568 ?_
  refine g_goto (tgt := 1008) hJ (by decide) dL_law_573 ?_
  exact g_re hJ (g_wide hJ (by omega) (nx _ Z3 f Z4 hX3 hM4)) ⟨rfl, rfl, rfl, rfl, rfl, trivial⟩
set_option maxRecDepth 20000 in
theorem law_root (hJ : IsG l D (tL cI cO cL) cL_law 7 wsL_law RL room_1 (XL b L xs) J) (hl0 : l.stackTraces = false) (hI : XI Z g) (hM : MI Z2 g) (hi : i + 5 ≤ L) (hL : L ≤ 2560) (hk : k + 8 ≤ 601024)
    (nx : ∀ (g' : Nat → Int) (Z' : ZZ) (f' : Nat → Int64) (Z2' : ZZ), XI Z' g' → MI Z2' g' → J ((wX cI cO a Z' ++ wO cL o f') ++ wM cI a2 Z2') (k + 8) 1008 [(0, .ref b), (1, .ref (a 0)), (2, .ref (a2 0)), (3, .ref o), (4, .int (iZ (i : Int)))] []) : J ((wX cI cO a Z ++ wO cL o f) ++ wM cI a2 Z2) k 576 [(0, .ref b), (1, .ref (a 0)), (2, .ref (a2 0)), (3, .ref o), (4, .int (iZ (i : Int)))] [] := by
  refine g_aload_n hJ dL_law_576 rfl ?_
  refine g_arg (i := (i : Int)) (n := i + 1) hJ (by omega) (by omega) hL rfl rfl dL_law_577 dL_law_578 dL_law_580 dL_law_581 dL_law_582 ?_
  refine g_arg (i := (i : Int)) (n := i + 2) hJ (by omega) (by omega) hL rfl rfl dL_law_583 dL_law_584 dL_law_586 dL_law_587 dL_law_588 ?_
  refine g_callW (n := 3) (r2 := wM cI a2 Z2) hJ (kL_root l D cI cO cL a Z o f hl0 g hI ((xs (i + 1)).toInt) ((xs (i + 2)).toInt) (i32_v _) (i32_v _)) rfl gL_law_L_root rfl (by decide +kernel) rfl ⟨Nat.le_of_ble_eq_true rfl, Nat.le_of_ble_eq_true rfl⟩ (Nat.le_of_ble_eq_true rfl) (l_room hk (by omega)) [0, 1, 2] rfl dL_law_589 (fun r3 w3 h3 => ?_)
  obtain ⟨Z3, rfl, hX3, rfl⟩ := h3
  refine g_istore hJ (by decide) dL_law_592 ?_
  refine g_aload_n hJ dL_law_594 rfl ?_
  refine g_arg (i := (i : Int)) (n := i + 1) hJ (by omega) (by omega) hL rfl rfl dL_law_595 dL_law_596 dL_law_598 dL_law_599 dL_law_600 ?_
  refine g_arg (i := (i : Int)) (n := i + 2) hJ (by omega) (by omega) hL rfl rfl dL_law_601 dL_law_602 dL_law_604 dL_law_605 dL_law_606 ?_
  refine g_callM (r1 := wX cI cO a Z3 ++ wO cL o f) hJ (kX1_root l D cI a2 Z2 g hM ((xs (i + 1)).toInt) ((xs (i + 2)).toInt) (i32_v _) (i32_v _)) rfl gL_law_X1_root rfl hdX1_root rfl ⟨Nat.le_of_ble_eq_true rfl, Nat.le_of_ble_eq_true rfl⟩ (Nat.le_of_ble_eq_true rfl) (l_room hk (by omega)) [0] rfl dL_law_607 (fun r4 Z4 h4 => ?_)
  obtain ⟨rfl, hc4, hM4⟩ := h4
  refine g_aload_n hJ dL_law_610 rfl ?_
  refine g_callM (As := []) (r1 := wX cI cO a Z3 ++ wO cL o f) hJ (kX1_thrown l D cI a2 Z4) rfl gL_law_X1_thrown rfl hdX1_thrown rfl ⟨Nat.le_of_ble_eq_true rfl, Nat.le_of_ble_eq_true rfl⟩ (Nat.le_of_ble_eq_true rfl) (l_room hk (by omega)) [0] rfl dL_law_611 (fun r5 Z5 h5 => ?_)
  obtain ⟨rfl, rfl⟩ := h5
  refine g_iload hJ dL_law_614 rfl ?_
  refine g_ieq (tgt := 621) hJ (by rw [hc4]) (by decide) dL_law_616 ?_
  refine g_goto (tgt := 1008) hJ (by decide) dL_law_621 ?_
  exact g_re hJ (g_wide hJ (by omega) (nx _ Z3 f Z4 hX3 hM4)) ⟨rfl, rfl, rfl, rfl, rfl, trivial⟩
set_option maxRecDepth 20000 in
theorem law_compare (hJ : IsG l D (tL cI cO cL) cL_law 7 wsL_law RL room_1 (XL b L xs) J) (hl0 : l.stackTraces = false) (hI : XI Z g) (hM : MI Z2 g) (hi : i + 5 ≤ L) (hL : L ≤ 2560) (hk : k + 8 ≤ 601024)
    (nx : ∀ (g' : Nat → Int) (Z' : ZZ) (f' : Nat → Int64) (Z2' : ZZ), XI Z' g' → MI Z2' g' → J ((wX cI cO a Z' ++ wO cL o f') ++ wM cI a2 Z2') (k + 8) 1008 [(0, .ref b), (1, .ref (a 0)), (2, .ref (a2 0)), (3, .ref o), (4, .int (iZ (i : Int)))] []) : J ((wX cI cO a Z ++ wO cL o f) ++ wM cI a2 Z2) k 624 [(0, .ref b), (1, .ref (a 0)), (2, .ref (a2 0)), (3, .ref o), (4, .int (iZ (i : Int)))] [] := by
  refine g_aload_n hJ dL_law_624 rfl ?_
  refine g_arg (i := (i : Int)) (n := i + 1) hJ (by omega) (by omega) hL rfl rfl dL_law_625 dL_law_626 dL_law_628 dL_law_629 dL_law_630 ?_
  refine g_arg (i := (i : Int)) (n := i + 2) hJ (by omega) (by omega) hL rfl rfl dL_law_631 dL_law_632 dL_law_634 dL_law_635 dL_law_636 ?_
  refine g_aload_n hJ dL_law_637 rfl ?_
  refine g_callW (n := 4) (r2 := wM cI a2 Z2) hJ (kL_compare l D cI cO cL a Z o f hl0 g hI ((xs (i + 1)).toInt) ((xs (i + 2)).toInt) (i32_v _) (i32_v _)) rfl gL_law_L_compare rfl (by decide +kernel) rfl ⟨Nat.le_of_ble_eq_true rfl, Nat.le_of_ble_eq_true rfl⟩ (Nat.le_of_ble_eq_true rfl) (l_room hk (by omega)) [0, 1, 2] rfl dL_law_638 (fun r3 w3 h3 => ?_)
  obtain ⟨Z3, f3, rfl, hX3, hf3, rfl⟩ := h3
  refine g_istore hJ (by decide) dL_law_641 ?_
  refine g_aload_n hJ dL_law_643 rfl ?_
  refine g_arg (i := (i : Int)) (n := i + 1) hJ (by omega) (by omega) hL rfl rfl dL_law_644 dL_law_645 dL_law_647 dL_law_648 dL_law_649 ?_
  refine g_arg (i := (i : Int)) (n := i + 2) hJ (by omega) (by omega) hL rfl rfl dL_law_650 dL_law_651 dL_law_653 dL_law_654 dL_law_655 ?_
  refine g_callM (r1 := wX cI cO a Z3 ++ wO cL o f3) hJ (kX1_compare l D cI a2 Z2 g hM ((xs (i + 1)).toInt) ((xs (i + 2)).toInt) (i32_v _) (i32_v _)) rfl gL_law_X1_compare rfl hdX1_compare rfl ⟨Nat.le_of_ble_eq_true rfl, Nat.le_of_ble_eq_true rfl⟩ (Nat.le_of_ble_eq_true rfl) (l_room hk (by omega)) [0] rfl dL_law_656 (fun r4 Z4 h4 => ?_)
  obtain ⟨rfl, hc4, hM4⟩ := h4
  refine g_istore hJ (by decide) dL_law_659 ?_
  refine g_aload_n hJ dL_law_661 rfl ?_
  refine g_callM (As := []) (r1 := wX cI cO a Z3 ++ wO cL o f3) hJ (kX1_thrown l D cI a2 Z4) rfl gL_law_X1_thrown rfl hdX1_thrown rfl ⟨Nat.le_of_ble_eq_true rfl, Nat.le_of_ble_eq_true rfl⟩ (Nat.le_of_ble_eq_true rfl) (l_room hk (by omega)) [0] rfl dL_law_662 (fun r5 Z5 h5 => ?_)
  obtain ⟨rfl, rfl⟩ := h5
  refine g_iload hJ dL_law_665 rfl ?_
  refine g_ieq (tgt := 672) hJ (by rw [hc4]) (by decide) dL_law_667 ?_
  refine g_iload hJ dL_law_672 rfl ?_
  refine g_if_ne (tgt := 689) hJ (by decide) (by have h := oCmp_e g ((xs (i + 1)).toInt) ((xs (i + 2)).toInt); exact ⟨by omega, by omega⟩) dL_law_674 (fun _ => ?_) (fun hz => ?_)
  · refine g_goto (tgt := 1008) hJ (by decide) dL_law_689 ?_
    exact g_re hJ (g_wide hJ (by omega) (nx _ Z3 f3 Z4 hX3 hM4)) ⟨rfl, rfl, rfl, rfl, rfl, trivial⟩
  · refine g_aload_n hJ dL_law_677 rfl ?_
    refine g_iconst hJ dL_law_678 ?_
    refine g_laload (t0 := 2) hJ rfl dL_law_679 ?_
    refine g_iload hJ dL_law_680 rfl ?_
    refine g_i2lv hJ dL_law_682 ?_
    refine g_leq (tgt := 689) hJ (hf3 hz) (by decide) dL_law_683 dL_law_684 ?_
    refine g_goto (tgt := 1008) hJ (by decide) dL_law_689 ?_
    exact g_re hJ (g_wide hJ (by omega) (nx _ Z3 f3 Z4 hX3 hM4)) ⟨rfl, rfl, rfl, rfl, rfl, trivial⟩
end LawC
