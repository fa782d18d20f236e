set_option maxHeartbeats 4000000 in
set_option maxRecDepth 100000 in
theorem lc_spell {G : GE} {nm : String} {L : Nat} {xs : Nat → Int32} {h : AH} {n m nx : Nat} {W : TD} {S : MS} {f : Nat → Option Nat} {IE : Nat → TD} {u q j : Nat} (hL : L ≤ 3584) (hj : 7 * j + 7 ≤ L) (A : LIv L xs h n m nx W S f IE) (hu : u ≤ 105 + 46 * j) (hq : q ≤ 147210 + 1835 * j) (kk : ∀ (h : AH) (nx : Nat) (W : TD) (S : MS) (f : Nat → Option Nat) (IE : Nat → TD) (u q : Nat), LIv L xs h n m nx W S f IE → u ≤ 105 + 46 * (j + 1) → q ≤ 147210 + 1835 * (j + 1) → WA G (yL nm) code 4 ret room_1 600000 7302250 KL u q 1406 [some (.ref 5), some (.ref n), some (.ref m), some (.int (nI (7 * j)))] [] h) : WA G (yL nm) code 4 ret room_1 600000 7302250 KL u q 458 [some (.ref 5), some (.ref n), some (.ref m), some (.int (nI (7 * j)))] [] h := by
  obtain ⟨C0, hMA, hR⟩ := A
  obtain ⟨⟨hO, hn, hm⟩, hT, hI, ⟨Zr, hRd, z14, h14⟩, ⟨px, py, Zp, hPl⟩, hS, hOl, h5⟩ := id C0
  obtain ⟨c, VL, WT, BK, SG, GM, len, hq0⟩ := hR.1
  have hN : NT h n W c VL WT BK SG GM := ⟨hO, hT, hq0.1⟩
  have hp : MP S c VL WT BK SG GM := hq0.2.1
  have hM : MW h h m S := ⟨hMA, fun _ _ => rfl⟩
  refine A_aload_n1 d_L_law_458 ?_
  refine A_aload_n0 d_L_law_459 ?_
  refine A_iload_n3 d_L_law_460 ?_
  refine A_iconst (v := nI 1) d_L_law_461 (by decide) ?_
  first | refine A_iaddN d_L_law_462 (by with_reducible rfl) (by with_reducible rfl) ?_ | refine A_iadd d_L_law_462 ?_
  refine A_ialdN d_L_law_463 h5 ⟨by omega, by omega⟩ ?_
  refine A_aload_n0 d_L_law_464 ?_
  refine A_iload_n3 d_L_law_465 ?_
  refine A_iconst (v := nI 2) d_L_law_466 (by decide) ?_
  first | refine A_iaddN d_L_law_467 (by with_reducible rfl) (by with_reducible rfl) ?_ | refine A_iadd d_L_law_467 ?_
  refine A_ialdN d_L_law_468 h5 ⟨by omega, by omega⟩ ?_
  refine A_aload_n0 d_L_law_469 ?_
  refine A_iload_n3 d_L_law_470 ?_
  refine A_iconst (v := nI 3) d_L_law_471 (by decide) ?_
  first | refine A_iaddN d_L_law_472 (by with_reducible rfl) (by with_reducible rfl) ?_ | refine A_iadd d_L_law_472 ?_
  refine A_ialdN d_L_law_473 h5 ⟨by omega, by omega⟩ ?_
  refine A_callVP d_L_law_474 (c_N_spell hN _ _ _) hO rfl q_660 q_661 q_662 mk_N_spell rfl (by decide) rfl (Nat.le_of_ble_eq_true rfl) ⟨show u + 0 ≤ 600000 by omega, show q + 0 ≤ 7302250 by omega⟩ ⟨rfl, rfl⟩ ?_
  refine A_aload_n2 d_L_law_477 ?_
  refine A_aload_n0 d_L_law_478 ?_
  refine A_iload_n3 d_L_law_479 ?_
  refine A_iconst (v := nI 1) d_L_law_480 (by decide) ?_
  first | refine A_iaddN d_L_law_481 (by with_reducible rfl) (by with_reducible rfl) ?_ | refine A_iadd d_L_law_481 ?_
  refine A_ialdN d_L_law_482 h5 ⟨by omega, by omega⟩ ?_
  refine A_aload_n0 d_L_law_483 ?_
  refine A_iload_n3 d_L_law_484 ?_
  refine A_iconst (v := nI 2) d_L_law_485 (by decide) ?_
  first | refine A_iaddN d_L_law_486 (by with_reducible rfl) (by with_reducible rfl) ?_ | refine A_iadd d_L_law_486 ?_
  refine A_ialdN d_L_law_487 h5 ⟨by omega, by omega⟩ ?_
  refine A_aload_n0 d_L_law_488 ?_
  refine A_iload_n3 d_L_law_489 ?_
  refine A_iconst (v := nI 3) d_L_law_490 (by decide) ?_
  first | refine A_iaddN d_L_law_491 (by with_reducible rfl) (by with_reducible rfl) ?_ | refine A_iadd d_L_law_491 ?_
  refine A_ialdN d_L_law_492 h5 ⟨by omega, by omega⟩ ?_
  refine A_callV0 d_L_law_493 (c_M_spell hM hp _ _ _) hM.o rfl q_1419 q_1420 q_1421 mk_M_spell rfl (by decide) rfl (Nat.le_of_ble_eq_true rfl) ⟨show u + 0 ≤ 600000 by omega, show q + 0 ≤ 7302250 by omega⟩ ⟨rfl, rfl⟩ (fun v h1 hv => ?_)
  obtain ⟨rfl, S1, hM1, hk⟩ := hv
  refine A_icmp_eq (tgt := 1406) d_L_law_496 (by decide) (fun c_496 => ?_) (fun c => absurd rfl c)
  exact kk _ _ _ _ _ _ _ _ (LIv.tk C0 hR hM1 hk) (by omega) (by omega)
set_option maxHeartbeats 4000000 in
set_option maxRecDepth 100000 in
theorem lc_days {G : GE} {nm : String} {L : Nat} {xs : Nat → Int32} {h : AH} {n m nx : Nat} {W : TD} {S : MS} {f : Nat → Option Nat} {IE : Nat → TD} {u q j : Nat} (hL : L ≤ 3584) (hj : 7 * j + 7 ≤ L) (A : LIv L xs h n m nx W S f IE) (hu : u ≤ 105 + 46 * j) (hq : q ≤ 147210 + 1835 * j) (kk : ∀ (h : AH) (nx : Nat) (W : TD) (S : MS) (f : Nat → Option Nat) (IE : Nat → TD) (u q : Nat), LIv L xs h n m nx W S f IE → u ≤ 105 + 46 * (j + 1) → q ≤ 147210 + 1835 * (j + 1) → WA G (yL nm) code 4 ret room_1 600000 7302250 KL u q 1406 [some (.ref 5), some (.ref n), some (.ref m), some (.int (nI (7 * j)))] [] h) : WA G (yL nm) code 4 ret room_1 600000 7302250 KL u q 501 [some (.ref 5), some (.ref n), some (.ref m), some (.int (nI (7 * j)))] [] h := by
  obtain ⟨C0, hMA, hR⟩ := A
  obtain ⟨⟨hO, hn, hm⟩, hT, hI, ⟨Zr, hRd, z14, h14⟩, ⟨px, py, Zp, hPl⟩, hS, hOl, h5⟩ := id C0
  obtain ⟨c, VL, WT, BK, SG, GM, len, hq0⟩ := hR.1
  have hN : NT h n W c VL WT BK SG GM := ⟨hO, hT, hq0.1⟩
  have hp : MP S c VL WT BK SG GM := hq0.2.1
  have hM : MW h h m S := ⟨hMA, fun _ _ => rfl⟩
  refine A_aload_n1 d_L_law_501 ?_
  refine A_aload_n0 d_L_law_502 ?_
  refine A_iload_n3 d_L_law_503 ?_
  refine A_iconst (v := nI 1) d_L_law_504 (by decide) ?_
  first | refine A_iaddN d_L_law_505 (by with_reducible rfl) (by with_reducible rfl) ?_ | refine A_iadd d_L_law_505 ?_
  refine A_ialdN d_L_law_506 h5 ⟨by omega, by omega⟩ ?_
  refine A_aload_n0 d_L_law_507 ?_
  refine A_iload_n3 d_L_law_508 ?_
  refine A_iconst (v := nI 2) d_L_law_509 (by decide) ?_
  first | refine A_iaddN d_L_law_510 (by with_reducible rfl) (by with_reducible rfl) ?_ | refine A_iadd d_L_law_510 ?_
  refine A_ialdN d_L_law_511 h5 ⟨by omega, by omega⟩ ?_
  refine A_aload_n0 d_L_law_512 ?_
  refine A_iload_n3 d_L_law_513 ?_
  refine A_iconst (v := nI 3) d_L_law_514 (by decide) ?_
  first | refine A_iaddN d_L_law_515 (by with_reducible rfl) (by with_reducible rfl) ?_ | refine A_iadd d_L_law_515 ?_
  refine A_ialdN d_L_law_516 h5 ⟨by omega, by omega⟩ ?_
  refine A_callVP d_L_law_517 (c_N_days hN _ _ _) hO rfl q_727 q_728 q_729 mk_N_days rfl (by decide) rfl (Nat.le_of_ble_eq_true rfl) ⟨show u + 0 ≤ 600000 by omega, show q + 0 ≤ 7302250 by omega⟩ ⟨rfl, rfl⟩ ?_
  refine A_aload_n2 d_L_law_520 ?_
  refine A_aload_n0 d_L_law_521 ?_
  refine A_iload_n3 d_L_law_522 ?_
  refine A_iconst (v := nI 1) d_L_law_523 (by decide) ?_
  first | refine A_iaddN d_L_law_524 (by with_reducible rfl) (by with_reducible rfl) ?_ | refine A_iadd d_L_law_524 ?_
  refine A_ialdN d_L_law_525 h5 ⟨by omega, by omega⟩ ?_
  refine A_aload_n0 d_L_law_526 ?_
  refine A_iload_n3 d_L_law_527 ?_
  refine A_iconst (v := nI 2) d_L_law_528 (by decide) ?_
  first | refine A_iaddN d_L_law_529 (by with_reducible rfl) (by with_reducible rfl) ?_ | refine A_iadd d_L_law_529 ?_
  refine A_ialdN d_L_law_530 h5 ⟨by omega, by omega⟩ ?_
  refine A_aload_n0 d_L_law_531 ?_
  refine A_iload_n3 d_L_law_532 ?_
  refine A_iconst (v := nI 3) d_L_law_533 (by decide) ?_
  first | refine A_iaddN d_L_law_534 (by with_reducible rfl) (by with_reducible rfl) ?_ | refine A_iadd d_L_law_534 ?_
  refine A_ialdN d_L_law_535 h5 ⟨by omega, by omega⟩ ?_
  refine A_callV0 d_L_law_536 (c_M_days hM hp _ _ _) hM.o rfl q_1439 q_1440 q_1441 mk_M_days rfl (by decide) rfl (Nat.le_of_ble_eq_true rfl) ⟨show u + 0 ≤ 600000 by omega, show q + 0 ≤ 7302250 by omega⟩ ⟨rfl, rfl⟩ (fun v h1 hv => ?_)
  obtain ⟨rfl, S1, hM1, hk⟩ := hv
  refine A_icmp_eq (tgt := 1406) d_L_law_539 (by decide) (fun c_539 => ?_) (fun c => absurd rfl c)
  exact kk _ _ _ _ _ _ _ _ (LIv.tk C0 hR hM1 hk) (by omega) (by omega)
set_option maxHeartbeats 4000000 in
set_option maxRecDepth 100000 in
theorem lc_breach {G : GE} {nm : String} {L : Nat} {xs : Nat → Int32} {h : AH} {n m nx : Nat} {W : TD} {S : MS} {f : Nat → Option Nat} {IE : Nat → TD} {u q j : Nat} (hL : L ≤ 3584) (hj : 7 * j + 7 ≤ L) (A : LIv L xs h n m nx W S f IE) (hu : u ≤ 105 + 46 * j) (hq : q ≤ 147210 + 1835 * j) (kk : ∀ (h : AH) (nx : Nat) (W : TD) (S : MS) (f : Nat → Option Nat) (IE : Nat → TD) (u q : Nat), LIv L xs h n m nx W S f IE → u ≤ 105 + 46 * (j + 1) → q ≤ 147210 + 1835 * (j + 1) → WA G (yL nm) code 4 ret room_1 600000 7302250 KL u q 1406 [some (.ref 5), some (.ref n), some (.ref m), some (.int (nI (7 * j)))] [] h) : WA G (yL nm) code 4 ret room_1 600000 7302250 KL u q 544 [some (.ref 5), some (.ref n), some (.ref m), some (.int (nI (7 * j)))] [] h := by
  obtain ⟨C0, hMA, hR⟩ := A
  obtain ⟨⟨hO, hn, hm⟩, hT, hI, ⟨Zr, hRd, z14, h14⟩, ⟨px, py, Zp, hPl⟩, hS, hOl, h5⟩ := id C0
  obtain ⟨c, VL, WT, BK, SG, GM, len, hq0⟩ := hR.1
  have hN : NT h n W c VL WT BK SG GM := ⟨hO, hT, hq0.1⟩
  have hp : MP S c VL WT BK SG GM := hq0.2.1
  have hM : MW h h m S := ⟨hMA, fun _ _ => rfl⟩
  refine A_aload_n1 d_L_law_544 ?_
  refine A_aload_n0 d_L_law_545 ?_
  refine A_iload_n3 d_L_law_546 ?_
  refine A_iconst (v := nI 1) d_L_law_547 (by decide) ?_
  first | refine A_iaddN d_L_law_548 (by with_reducible rfl) (by with_reducible rfl) ?_ | refine A_iadd d_L_law_548 ?_
  refine A_ialdN d_L_law_549 h5 ⟨by omega, by omega⟩ ?_
  refine A_aload_n0 d_L_law_550 ?_
  refine A_iload_n3 d_L_law_551 ?_
  refine A_iconst (v := nI 2) d_L_law_552 (by decide) ?_
  first | refine A_iaddN d_L_law_553 (by with_reducible rfl) (by with_reducible rfl) ?_ | refine A_iadd d_L_law_553 ?_
  refine A_ialdN d_L_law_554 h5 ⟨by omega, by omega⟩ ?_
  refine A_aload_n0 d_L_law_555 ?_
  refine A_iload_n3 d_L_law_556 ?_
  refine A_iconst (v := nI 3) d_L_law_557 (by decide) ?_
  first | refine A_iaddN d_L_law_558 (by with_reducible rfl) (by with_reducible rfl) ?_ | refine A_iadd d_L_law_558 ?_
  refine A_ialdN d_L_law_559 h5 ⟨by omega, by omega⟩ ?_
  refine A_aload_n0 d_L_law_560 ?_
  refine A_iload_n3 d_L_law_561 ?_
  refine A_iconst (v := nI 4) d_L_law_562 (by decide) ?_
  first | refine A_iaddN d_L_law_563 (by with_reducible rfl) (by with_reducible rfl) ?_ | refine A_iadd d_L_law_563 ?_
  refine A_ialdN d_L_law_564 h5 ⟨by omega, by omega⟩ ?_
  refine A_callVP d_L_law_565 (c_N_breach hN _ _ _ _) hO rfl q_753 q_754 q_755 mk_N_breach rfl (by decide) rfl (Nat.le_of_ble_eq_true rfl) ⟨show u + 0 ≤ 600000 by omega, show q + 0 ≤ 7302250 by omega⟩ ⟨rfl, rfl⟩ ?_
  refine A_aload_n2 d_L_law_568 ?_
  refine A_aload_n0 d_L_law_569 ?_
  refine A_iload_n3 d_L_law_570 ?_
  refine A_iconst (v := nI 1) d_L_law_571 (by decide) ?_
  first | refine A_iaddN d_L_law_572 (by with_reducible rfl) (by with_reducible rfl) ?_ | refine A_iadd d_L_law_572 ?_
  refine A_ialdN d_L_law_573 h5 ⟨by omega, by omega⟩ ?_
  refine A_aload_n0 d_L_law_574 ?_
  refine A_iload_n3 d_L_law_575 ?_
  refine A_iconst (v := nI 2) d_L_law_576 (by decide) ?_
  first | refine A_iaddN d_L_law_577 (by with_reducible rfl) (by with_reducible rfl) ?_ | refine A_iadd d_L_law_577 ?_
  refine A_ialdN d_L_law_578 h5 ⟨by omega, by omega⟩ ?_
  refine A_aload_n0 d_L_law_579 ?_
  refine A_iload_n3 d_L_law_580 ?_
  refine A_iconst (v := nI 3) d_L_law_581 (by decide) ?_
  first | refine A_iaddN d_L_law_582 (by with_reducible rfl) (by with_reducible rfl) ?_ | refine A_iadd d_L_law_582 ?_
  refine A_ialdN d_L_law_583 h5 ⟨by omega, by omega⟩ ?_
  refine A_aload_n0 d_L_law_584 ?_
  refine A_iload_n3 d_L_law_585 ?_
  refine A_iconst (v := nI 4) d_L_law_586 (by decide) ?_
  first | refine A_iaddN d_L_law_587 (by with_reducible rfl) (by with_reducible rfl) ?_ | refine A_iadd d_L_law_587 ?_
  refine A_ialdN d_L_law_588 h5 ⟨by omega, by omega⟩ ?_
  refine A_callV0 d_L_law_589 (c_M_breach hM hp _ _ _ _) hM.o rfl q_1455 q_1456 q_1457 mk_M_breach rfl (by decide) rfl (Nat.le_of_ble_eq_true rfl) ⟨show u + 0 ≤ 600000 by omega, show q + 0 ≤ 7302250 by omega⟩ ⟨rfl, rfl⟩ (fun v h1 hv => ?_)
  obtain ⟨rfl, S1, hM1, hk⟩ := hv
  refine A_icmp_eq (tgt := 1406) d_L_law_592 (by decide) (fun c_592 => ?_) (fun c => absurd rfl c)
  exact kk _ _ _ _ _ _ _ _ (LIv.tk C0 hR hM1 hk) (by omega) (by omega)
set_option maxHeartbeats 4000000 in
set_option maxRecDepth 100000 in
theorem lc_ways {G : GE} {nm : String} {L : Nat} {xs : Nat → Int32} {h : AH} {n m nx : Nat} {W : TD} {S : MS} {f : Nat → Option Nat} {IE : Nat → TD} {u q j : Nat} (hL : L ≤ 3584) (hj : 7 * j + 7 ≤ L) (A : LIv L xs h n m nx W S f IE) (hu : u ≤ 105 + 46 * j) (hq : q ≤ 147210 + 1835 * j) (kk : ∀ (h : AH) (nx : Nat) (W : TD) (S : MS) (f : Nat → Option Nat) (IE : Nat → TD) (u q : Nat), LIv L xs h n m nx W S f IE → u ≤ 105 + 46 * (j + 1) → q ≤ 147210 + 1835 * (j + 1) → WA G (yL nm) code 4 ret room_1 600000 7302250 KL u q 1406 [some (.ref 5), some (.ref n), some (.ref m), some (.int (nI (7 * j)))] [] h) : WA G (yL nm) code 4 ret room_1 600000 7302250 KL u q 597 [some (.ref 5), some (.ref n), some (.ref m), some (.int (nI (7 * j)))] [] h := by
  obtain ⟨C0, hMA, hR⟩ := A
  obtain ⟨⟨hO, hn, hm⟩, hT, hI, ⟨Zr, hRd, z14, h14⟩, ⟨px, py, Zp, hPl⟩, hS, hOl, h5⟩ := id C0
  obtain ⟨c, VL, WT, BK, SG, GM, len, hq0⟩ := hR.1
  have hN : NT h n W c VL WT BK SG GM := ⟨hO, hT, hq0.1⟩
  have hp : MP S c VL WT BK SG GM := hq0.2.1
  have hM : MW h h m S := ⟨hMA, fun _ _ => rfl⟩
  refine A_aload_n1 d_L_law_597 ?_
  refine A_aload_n0 d_L_law_598 ?_
  refine A_iload_n3 d_L_law_599 ?_
  refine A_iconst (v := nI 1) d_L_law_600 (by decide) ?_
  first | refine A_iaddN d_L_law_601 (by with_reducible rfl) (by with_reducible rfl) ?_ | refine A_iadd d_L_law_601 ?_
  refine A_ialdN d_L_law_602 h5 ⟨by omega, by omega⟩ ?_
  refine A_callVP d_L_law_603 (c_N_ways hN _) hO rfl q_765 q_766 q_767 mk_N_ways rfl (by decide) rfl (Nat.le_of_ble_eq_true rfl) ⟨show u + 0 ≤ 600000 by omega, show q + 0 ≤ 7302250 by omega⟩ ⟨rfl, rfl⟩ ?_
  refine A_aload_n2 d_L_law_606 ?_
  refine A_aload_n0 d_L_law_607 ?_
  refine A_iload_n3 d_L_law_608 ?_
  refine A_iconst (v := nI 1) d_L_law_609 (by decide) ?_
  first | refine A_iaddN d_L_law_610 (by with_reducible rfl) (by with_reducible rfl) ?_ | refine A_iadd d_L_law_610 ?_
  refine A_ialdN d_L_law_611 h5 ⟨by omega, by omega⟩ ?_
  refine A_callV0 d_L_law_612 (c_M_ways hM hp _) hM.o rfl q_1459 q_1460 q_1461 mk_M_ways rfl (by decide) rfl (Nat.le_of_ble_eq_true rfl) ⟨show u + 0 ≤ 600000 by omega, show q + 0 ≤ 7302250 by omega⟩ ⟨rfl, rfl⟩ (fun v h1 hv => ?_)
  obtain ⟨rfl, S1, hM1, hk⟩ := hv
  refine A_lcmp d_L_law_615 ?_
  refine A_if_eq (tgt := 1406) d_L_law_616 (by decide) (fun c_616 => ?_) (fun c => absurd (lgc0.mpr rfl) c)
  exact kk _ _ _ _ _ _ _ _ (LIv.tk C0 hR hM1 hk) (by omega) (by omega)
set_option maxHeartbeats 4000000 in
set_option maxRecDepth 100000 in
theorem lc_best {G : GE} {nm : String} {L : Nat} {xs : Nat → Int32} {h : AH} {n m nx : Nat} {W : TD} {S : MS} {f : Nat → Option Nat} {IE : Nat → TD} {u q j : Nat} (hL : L ≤ 3584) (hj : 7 * j + 7 ≤ L) (A : LIv L xs h n m nx W S f IE) (hu : u ≤ 105 + 46 * j) (hq : q ≤ 147210 + 1835 * j) (kk : ∀ (h : AH) (nx : Nat) (W : TD) (S : MS) (f : Nat → Option Nat) (IE : Nat → TD) (u q : Nat), LIv L xs h n m nx W S f IE → u ≤ 105 + 46 * (j + 1) → q ≤ 147210 + 1835 * (j + 1) → WA G (yL nm) code 4 ret room_1 600000 7302250 KL u q 1406 [some (.ref 5), some (.ref n), some (.ref m), some (.int (nI (7 * j)))] [] h) : WA G (yL nm) code 4 ret room_1 600000 7302250 KL u q 621 [some (.ref 5), some (.ref n), some (.ref m), some (.int (nI (7 * j)))] [] h := by
  obtain ⟨C0, hMA, hR⟩ := A
  obtain ⟨⟨hO, hn, hm⟩, hT, hI, ⟨Zr, hRd, z14, h14⟩, ⟨px, py, Zp, hPl⟩, hS, hOl, h5⟩ := id C0
  obtain ⟨c, VL, WT, BK, SG, GM, len, hq0⟩ := hR.1
  have hN : NT h n W c VL WT BK SG GM := ⟨hO, hT, hq0.1⟩
  have hp : MP S c VL WT BK SG GM := hq0.2.1
  have hM : MW h h m S := ⟨hMA, fun _ _ => rfl⟩
  refine A_aload_n1 d_L_law_621 ?_
  refine A_aload_n0 d_L_law_622 ?_
  refine A_iload_n3 d_L_law_623 ?_
  refine A_iconst (v := nI 1) d_L_law_624 (by decide) ?_
  first | refine A_iaddN d_L_law_625 (by with_reducible rfl) (by with_reducible rfl) ?_ | refine A_iadd d_L_law_625 ?_
  refine A_ialdN d_L_law_626 h5 ⟨by omega, by omega⟩ ?_
  refine A_aload_n0 d_L_law_627 ?_
  refine A_iload_n3 d_L_law_628 ?_
  refine A_iconst (v := nI 2) d_L_law_629 (by decide) ?_
  first | refine A_iaddN d_L_law_630 (by with_reducible rfl) (by with_reducible rfl) ?_ | refine A_iadd d_L_law_630 ?_
  refine A_ialdN d_L_law_631 h5 ⟨by omega, by omega⟩ ?_
  refine A_callV0 d_L_law_632 (c_N_best hN hq0.2.2.1 hq0.2.2.2.1 hPl _ _) hO rfl q_779 q_780 q_781 mk_N_best rfl (by decide) rfl (Nat.le_of_ble_eq_true rfl) ⟨show u + 0 ≤ 600000 by omega, show q + 0 ≤ 7302250 by omega⟩ ⟨rfl, rfl⟩ (fun v h1 hv => ?_)
  obtain ⟨rfl, W1, x1, y1, Z1, hT1, hP1, hS1, e1⟩ := hv
  have C1 := C0.bx hT1 hP1 e1
  have h5 := C1.2.2.2.2.2.2.2
  have hM1 : MW h1 h1 m S := ⟨hMA.kept (fun i _ _ => e1 i (by omega) (by omega)), fun _ _ => rfl⟩
  replace hM := hM1
  clear hM1
  have hR1 : RIv W1 S f IE := hR.keep (fun _ => REL.pls hq0 hS1) rfl (fun q => AEq.of fun _ _ _ => rfl) hR.2.2.2
  refine A_aload_n2 d_L_law_635 ?_
  refine A_aload_n0 d_L_law_636 ?_
  refine A_iload_n3 d_L_law_637 ?_
  refine A_iconst (v := nI 1) d_L_law_638 (by decide) ?_
  first | refine A_iaddN d_L_law_639 (by with_reducible rfl) (by with_reducible rfl) ?_ | refine A_iadd d_L_law_639 ?_
  refine A_ialdN d_L_law_640 h5 ⟨by omega, by omega⟩ ?_
  refine A_aload_n0 d_L_law_641 ?_
  refine A_iload_n3 d_L_law_642 ?_
  refine A_iconst (v := nI 2) d_L_law_643 (by decide) ?_
  first | refine A_iaddN d_L_law_644 (by with_reducible rfl) (by with_reducible rfl) ?_ | refine A_iadd d_L_law_644 ?_
  refine A_ialdN d_L_law_645 h5 ⟨by omega, by omega⟩ ?_
  refine A_callV0 d_L_law_646 (c_M_best hM hp _ _) hM.o rfl q_1500 q_1501 q_1502 mk_M_best rfl (by decide) rfl (Nat.le_of_ble_eq_true rfl) ⟨show u + 0 ≤ 600000 by omega, show q + 0 ≤ 7302250 by omega⟩ ⟨rfl, rfl⟩ (fun v h1 hv => ?_)
  obtain ⟨rfl, S1, hM1, hk⟩ := hv
  refine A_icmp_eq (tgt := 1406) d_L_law_649 (by decide) (fun c_649 => ?_) (fun c => absurd rfl c)
  exact kk _ _ _ _ _ _ _ _ (LIv.tk C1 hR1 hM1 hk) (by omega) (by omega)
set_option maxHeartbeats 4000000 in
set_option maxRecDepth 100000 in
theorem lc_worth {G : GE} {nm : String} {L : Nat} {xs : Nat → Int32} {h : AH} {n m nx : Nat} {W : TD} {S : MS} {f : Nat → Option Nat} {IE : Nat → TD} {u q j : Nat} (hL : L ≤ 3584) (hj : 7 * j + 7 ≤ L) (A : LIv L xs h n m nx W S f IE) (hu : u ≤ 105 + 46 * j) (hq : q ≤ 147210 + 1835 * j) (kk : ∀ (h : AH) (nx : Nat) (W : TD) (S : MS) (f : Nat → Option Nat) (IE : Nat → TD) (u q : Nat), LIv L xs h n m nx W S f IE → u ≤ 105 + 46 * (j + 1) → q ≤ 147210 + 1835 * (j + 1) → WA G (yL nm) code 4 ret room_1 600000 7302250 KL u q 1406 [some (.ref 5), some (.ref n), some (.ref m), some (.int (nI (7 * j)))] [] h) : WA G (yL nm) code 4 ret room_1 600000 7302250 KL u q 654 [some (.ref 5), some (.ref n), some (.ref m), some (.int (nI (7 * j)))] [] h := by
  obtain ⟨C0, hMA, hR⟩ := A
  obtain ⟨⟨hO, hn, hm⟩, hT, hI, ⟨Zr, hRd, z14, h14⟩, ⟨px, py, Zp, hPl⟩, hS, hOl, h5⟩ := id C0
  obtain ⟨c, VL, WT, BK, SG, GM, len, hq0⟩ := hR.1
  have hN : NT h n W c VL WT BK SG GM := ⟨hO, hT, hq0.1⟩
  have hp : MP S c VL WT BK SG GM := hq0.2.1
  have hM : MW h h m S := ⟨hMA, fun _ _ => rfl⟩
  refine A_aload_n1 d_L_law_654 ?_
  refine A_aload_n0 d_L_law_655 ?_
  refine A_iload_n3 d_L_law_656 ?_
  refine A_iconst (v := nI 1) d_L_law_657 (by decide) ?_
  first | refine A_iaddN d_L_law_658 (by with_reducible rfl) (by with_reducible rfl) ?_ | refine A_iadd d_L_law_658 ?_
  refine A_ialdN d_L_law_659 h5 ⟨by omega, by omega⟩ ?_
  refine A_aload_n0 d_L_law_660 ?_
  refine A_iload_n3 d_L_law_661 ?_
  refine A_iconst (v := nI 2) d_L_law_662 (by decide) ?_
  first | refine A_iaddN d_L_law_663 (by with_reducible rfl) (by with_reducible rfl) ?_ | refine A_iadd d_L_law_663 ?_
  refine A_ialdN d_L_law_664 h5 ⟨by omega, by omega⟩ ?_
  refine A_aload_n0 d_L_law_665 ?_
  refine A_iload_n3 d_L_law_666 ?_
  refine A_iconst (v := nI 3) d_L_law_667 (by decide) ?_
  first | refine A_iaddN d_L_law_668 (by with_reducible rfl) (by with_reducible rfl) ?_ | refine A_iadd d_L_law_668 ?_
  refine A_ialdN d_L_law_669 h5 ⟨by omega, by omega⟩ ?_
  refine A_callVP d_L_law_670 (c_N_worth hN _ _ _) hO rfl q_864 q_865 q_866 mk_N_worth rfl (by decide) rfl (Nat.le_of_ble_eq_true rfl) ⟨show u + 0 ≤ 600000 by omega, show q + 0 ≤ 7302250 by omega⟩ ⟨rfl, rfl⟩ ?_
  refine A_aload_n2 d_L_law_673 ?_
  refine A_aload_n0 d_L_law_674 ?_
  refine A_iload_n3 d_L_law_675 ?_
  refine A_iconst (v := nI 1) d_L_law_676 (by decide) ?_
  first | refine A_iaddN d_L_law_677 (by with_reducible rfl) (by with_reducible rfl) ?_ | refine A_iadd d_L_law_677 ?_
  refine A_ialdN d_L_law_678 h5 ⟨by omega, by omega⟩ ?_
  refine A_aload_n0 d_L_law_679 ?_
  refine A_iload_n3 d_L_law_680 ?_
  refine A_iconst (v := nI 2) d_L_law_681 (by decide) ?_
  first | refine A_iaddN d_L_law_682 (by with_reducible rfl) (by with_reducible rfl) ?_ | refine A_iadd d_L_law_682 ?_
  refine A_ialdN d_L_law_683 h5 ⟨by omega, by omega⟩ ?_
  refine A_aload_n0 d_L_law_684 ?_
  refine A_iload_n3 d_L_law_685 ?_
  refine A_iconst (v := nI 3) d_L_law_686 (by decide) ?_
  first | refine A_iaddN d_L_law_687 (by with_reducible rfl) (by with_reducible rfl) ?_ | refine A_iadd d_L_law_687 ?_
  refine A_ialdN d_L_law_688 h5 ⟨by omega, by omega⟩ ?_
  refine A_callV0 d_L_law_689 (c_M_worth hM hp _ _ _) hM.o rfl q_1545 q_1546 q_1547 mk_M_worth rfl (by decide) rfl (Nat.le_of_ble_eq_true rfl) ⟨show u + 0 ≤ 600000 by omega, show q + 0 ≤ 7302250 by omega⟩ ⟨rfl, rfl⟩ (fun v h1 hv => ?_)
  obtain ⟨rfl, S1, hM1, hk⟩ := hv
  refine A_icmp_eq (tgt := 1406) d_L_law_692 (by decide) (fun c_692 => ?_) (fun c => absurd rfl c)
  exact kk _ _ _ _ _ _ _ _ (LIv.tk C0 hR hM1 hk) (by omega) (by omega)
set_option maxHeartbeats 4000000 in
set_option maxRecDepth 100000 in
theorem lc_cut {G : GE} {nm : String} {L : Nat} {xs : Nat → Int32} {h : AH} {n m nx : Nat} {W : TD} {S : MS} {f : Nat → Option Nat} {IE : Nat → TD} {u q j : Nat} (hL : L ≤ 3584) (hj : 7 * j + 7 ≤ L) (A : LIv L xs h n m nx W S f IE) (hu : u ≤ 105 + 46 * j) (hq : q ≤ 147210 + 1835 * j) (kk : ∀ (h : AH) (nx : Nat) (W : TD) (S : MS) (f : Nat → Option Nat) (IE : Nat → TD) (u q : Nat), LIv L xs h n m nx W S f IE → u ≤ 105 + 46 * (j + 1) → q ≤ 147210 + 1835 * (j + 1) → WA G (yL nm) code 4 ret room_1 600000 7302250 KL u q 1406 [some (.ref 5), some (.ref n), some (.ref m), some (.int (nI (7 * j)))] [] h) : WA G (yL nm) code 4 ret room_1 600000 7302250 KL u q 697 [some (.ref 5), some (.ref n), some (.ref m), some (.int (nI (7 * j)))] [] h := by
  obtain ⟨C0, hMA, hR⟩ := A
  obtain ⟨⟨hO, hn, hm⟩, hT, hI, ⟨Zr, hRd, z14, h14⟩, ⟨px, py, Zp, hPl⟩, hS, hOl, h5⟩ := id C0
  obtain ⟨c, VL, WT, BK, SG, GM, len, hq0⟩ := hR.1
  have hN : NT h n W c VL WT BK SG GM := ⟨hO, hT, hq0.1⟩
  have hp : MP S c VL WT BK SG GM := hq0.2.1
  have hM : MW h h m S := ⟨hMA, fun _ _ => rfl⟩
  refine A_aload_n1 d_L_law_697 ?_
  refine A_aload_n0 d_L_law_698 ?_
  refine A_iload_n3 d_L_law_699 ?_
  refine A_iconst (v := nI 1) d_L_law_700 (by decide) ?_
  first | refine A_iaddN d_L_law_701 (by with_reducible rfl) (by with_reducible rfl) ?_ | refine A_iadd d_L_law_701 ?_
  refine A_ialdN d_L_law_702 h5 ⟨by omega, by omega⟩ ?_
  refine A_aload_n0 d_L_law_703 ?_
  refine A_iload_n3 d_L_law_704 ?_
  refine A_iconst (v := nI 2) d_L_law_705 (by decide) ?_
  first | refine A_iaddN d_L_law_706 (by with_reducible rfl) (by with_reducible rfl) ?_ | refine A_iadd d_L_law_706 ?_
  refine A_ialdN d_L_law_707 h5 ⟨by omega, by omega⟩ ?_
  refine A_aload_n0 d_L_law_708 ?_
  refine A_iload_n3 d_L_law_709 ?_
  refine A_iconst (v := nI 3) d_L_law_710 (by decide) ?_
  first | refine A_iaddN d_L_law_711 (by with_reducible rfl) (by with_reducible rfl) ?_ | refine A_iadd d_L_law_711 ?_
  refine A_ialdN d_L_law_712 h5 ⟨by omega, by omega⟩ ?_
  refine A_callV0 d_L_law_713 (c_N_cut hN hn hS _ _ _) hO rfl q_876 q_877 q_878 mk_N_cut rfl (by decide) rfl (Nat.le_of_ble_eq_true rfl) ⟨show u + 0 ≤ 600000 by omega, show q + 0 ≤ 7302250 by omega⟩ ⟨rfl, rfl⟩ (fun v h1 hv => ?_)
  obtain ⟨rfl, hs1, e1⟩ := hv
  have C1 := C0.sx hs1 e1
  have h5 := C1.2.2.2.2.2.2.2
  have hM1 : MW h1 h1 m S := ⟨hMA.kept (fun i _ _ => e1 i (by omega)), fun _ _ => rfl⟩
  replace hM := hM1
  clear hM1
  refine A_aload_n2 d_L_law_716 ?_
  refine A_aload_n0 d_L_law_717 ?_
  refine A_iload_n3 d_L_law_718 ?_
  refine A_iconst (v := nI 1) d_L_law_719 (by decide) ?_
  first | refine A_iaddN d_L_law_720 (by with_reducible rfl) (by with_reducible rfl) ?_ | refine A_iadd d_L_law_720 ?_
  refine A_ialdN d_L_law_721 h5 ⟨by omega, by omega⟩ ?_
  refine A_aload_n0 d_L_law_722 ?_
  refine A_iload_n3 d_L_law_723 ?_
  refine A_iconst (v := nI 2) d_L_law_724 (by decide) ?_
  first | refine A_iaddN d_L_law_725 (by with_reducible rfl) (by with_reducible rfl) ?_ | refine A_iadd d_L_law_725 ?_
  refine A_ialdN d_L_law_726 h5 ⟨by omega, by omega⟩ ?_
  refine A_aload_n0 d_L_law_727 ?_
  refine A_iload_n3 d_L_law_728 ?_
  refine A_iconst (v := nI 3) d_L_law_729 (by decide) ?_
  first | refine A_iaddN d_L_law_730 (by with_reducible rfl) (by with_reducible rfl) ?_ | refine A_iadd d_L_law_730 ?_
  refine A_ialdN d_L_law_731 h5 ⟨by omega, by omega⟩ ?_
  refine A_callV0 d_L_law_732 (c_M_cut hM hp _ _ _) hM.o rfl q_1556 q_1557 q_1558 mk_M_cut rfl (by decide) rfl (Nat.le_of_ble_eq_true rfl) ⟨show u + 0 ≤ 600000 by omega, show q + 0 ≤ 7302250 by omega⟩ ⟨rfl, rfl⟩ (fun v h1 hv => ?_)
  obtain ⟨rfl, S1, hM1, hk⟩ := hv
  refine A_icmp_eq (tgt := 1406) d_L_law_735 (by decide) (fun c_735 => ?_) (fun c => absurd rfl c)
  exact kk _ _ _ _ _ _ _ _ (LIv.tk C1 hR hM1 hk) (by omega) (by omega)
