theorem dL_law_488 : decode cL_law 488 = .ok (.aload_n 1, 1) := by decide +kernel
theorem dL_law_489 : decode cL_law 489 = .ok (.aload_n 0, 1) := by decide +kernel
theorem dL_law_490 : decode cL_law 490 = .ok (.iload_n 3, 1) := by decide +kernel
theorem dL_law_491 : decode cL_law 491 = .ok (.iconst 1, 1) := by decide +kernel
theorem dL_law_492 : decode cL_law 492 = .ok (.iadd, 1) := by decide +kernel
theorem dL_law_493 : decode cL_law 493 = .ok (.iaload, 1) := by decide +kernel
theorem dL_law_494 : decode cL_law 494 = .ok (.aload_n 0, 1) := by decide +kernel
theorem dL_law_495 : decode cL_law 495 = .ok (.iload_n 3, 1) := by decide +kernel
theorem dL_law_496 : decode cL_law 496 = .ok (.iconst 2, 1) := by decide +kernel
theorem dL_law_497 : decode cL_law 497 = .ok (.iadd, 1) := by decide +kernel
theorem dL_law_498 : decode cL_law 498 = .ok (.iaload, 1) := by decide +kernel
theorem dL_law_499 : decode cL_law 499 = .ok (.invokevirtual 60, 3) := by decide +kernel
theorem dL_law_502 : decode cL_law 502 = .ok (.aload_n 2, 1) := by decide +kernel
theorem dL_law_503 : decode cL_law 503 = .ok (.aload_n 0, 1) := by decide +kernel
theorem dL_law_504 : decode cL_law 504 = .ok (.iload_n 3, 1) := by decide +kernel
theorem dL_law_505 : decode cL_law 505 = .ok (.iconst 1, 1) := by decide +kernel
theorem dL_law_506 : decode cL_law 506 = .ok (.iadd, 1) := by decide +kernel
theorem dL_law_507 : decode cL_law 507 = .ok (.iaload, 1) := by decide +kernel
theorem dL_law_508 : decode cL_law 508 = .ok (.aload_n 0, 1) := by decide +kernel
theorem dL_law_509 : decode cL_law 509 = .ok (.iload_n 3, 1) := by decide +kernel
theorem dL_law_510 : decode cL_law 510 = .ok (.iconst 2, 1) := by decide +kernel
theorem dL_law_511 : decode cL_law 511 = .ok (.iadd, 1) := by decide +kernel
theorem dL_law_512 : decode cL_law 512 = .ok (.iaload, 1) := by decide +kernel
theorem dL_law_513 : decode cL_law 513 = .ok (.invokevirtual 64, 3) := by decide +kernel
theorem dL_law_516 : decode cL_law 516 = .ok (.if_icmp .eq 927, 3) := by decide +kernel
theorem dL_law_521 : decode cL_law 521 = .ok (.aload_n 1, 1) := by decide +kernel
theorem dL_law_522 : decode cL_law 522 = .ok (.aload_n 0, 1) := by decide +kernel
theorem dL_law_523 : decode cL_law 523 = .ok (.iload_n 3, 1) := by decide +kernel
theorem dL_law_524 : decode cL_law 524 = .ok (.iconst 1, 1) := by decide +kernel
theorem dL_law_525 : decode cL_law 525 = .ok (.iadd, 1) := by decide +kernel
theorem dL_law_526 : decode cL_law 526 = .ok (.iaload, 1) := by decide +kernel
theorem dL_law_527 : decode cL_law 527 = .ok (.aload_n 0, 1) := by decide +kernel
theorem dL_law_528 : decode cL_law 528 = .ok (.iload_n 3, 1) := by decide +kernel
theorem dL_law_529 : decode cL_law 529 = .ok (.iconst 2, 1) := by decide +kernel
theorem dL_law_530 : decode cL_law 530 = .ok (.iadd, 1) := by decide +kernel
theorem dL_law_531 : decode cL_law 531 = .ok (.iaload, 1) := by decide +kernel
theorem dL_law_532 : decode cL_law 532 = .ok (.aload_n 0, 1) := by decide +kernel
theorem dL_law_533 : decode cL_law 533 = .ok (.iload_n 3, 1) := by decide +kernel
theorem dL_law_534 : decode cL_law 534 = .ok (.iconst 3, 1) := by decide +kernel
theorem dL_law_535 : decode cL_law 535 = .ok (.iadd, 1) := by decide +kernel
theorem dL_law_536 : decode cL_law 536 = .ok (.iaload, 1) := by decide +kernel
theorem dL_law_537 : decode cL_law 537 = .ok (.invokevirtual 65, 3) := by decide +kernel
theorem dL_law_540 : decode cL_law 540 = .ok (.aload_n 2, 1) := by decide +kernel
theorem dL_law_541 : decode cL_law 541 = .ok (.aload_n 0, 1) := by decide +kernel
theorem dL_law_542 : decode cL_law 542 = .ok (.iload_n 3, 1) := by decide +kernel
theorem dL_law_543 : decode cL_law 543 = .ok (.iconst 1, 1) := by decide +kernel
theorem dL_law_544 : decode cL_law 544 = .ok (.iadd, 1) := by decide +kernel
theorem dL_law_545 : decode cL_law 545 = .ok (.iaload, 1) := by decide +kernel
theorem dL_law_546 : decode cL_law 546 = .ok (.aload_n 0, 1) := by decide +kernel
theorem dL_law_547 : decode cL_law 547 = .ok (.iload_n 3, 1) := by decide +kernel
theorem dL_law_548 : decode cL_law 548 = .ok (.iconst 2, 1) := by decide +kernel
theorem dL_law_549 : decode cL_law 549 = .ok (.iadd, 1) := by decide +kernel
theorem dL_law_550 : decode cL_law 550 = .ok (.iaload, 1) := by decide +kernel
theorem dL_law_551 : decode cL_law 551 = .ok (.aload_n 0, 1) := by decide +kernel
theorem dL_law_552 : decode cL_law 552 = .ok (.iload_n 3, 1) := by decide +kernel
theorem dL_law_553 : decode cL_law 553 = .ok (.iconst 3, 1) := by decide +kernel
theorem dL_law_554 : decode cL_law 554 = .ok (.iadd, 1) := by decide +kernel
theorem dL_law_555 : decode cL_law 555 = .ok (.iaload, 1) := by decide +kernel
theorem dL_law_556 : decode cL_law 556 = .ok (.invokevirtual 68, 3) := by decide +kernel
theorem dL_law_559 : decode cL_law 559 = .ok (.if_icmp .eq 884, 3) := by decide +kernel
theorem dL_law_564 : decode cL_law 564 = .ok (.aload_n 1, 1) := by decide +kernel
theorem dL_law_565 : decode cL_law 565 = .ok (.aload_n 0, 1) := by decide +kernel
theorem dL_law_566 : decode cL_law 566 = .ok (.iload_n 3, 1) := by decide +kernel
theorem dL_law_567 : decode cL_law 567 = .ok (.iconst 1, 1) := by decide +kernel
theorem dL_law_568 : decode cL_law 568 = .ok (.iadd, 1) := by decide +kernel
theorem dL_law_569 : decode cL_law 569 = .ok (.iaload, 1) := by decide +kernel
theorem dL_law_570 : decode cL_law 570 = .ok (.aload_n 0, 1) := by decide +kernel
theorem dL_law_571 : decode cL_law 571 = .ok (.iload_n 3, 1) := by decide +kernel
theorem dL_law_572 : decode cL_law 572 = .ok (.iconst 2, 1) := by decide +kernel
theorem dL_law_573 : decode cL_law 573 = .ok (.iadd, 1) := by decide +kernel
theorem dL_law_574 : decode cL_law 574 = .ok (.iaload, 1) := by decide +kernel
theorem dL_law_575 : decode cL_law 575 = .ok (.aload_n 0, 1) := by decide +kernel
theorem dL_law_576 : decode cL_law 576 = .ok (.iload_n 3, 1) := by decide +kernel
theorem dL_law_577 : decode cL_law 577 = .ok (.iconst 3, 1) := by decide +kernel
theorem dL_law_578 : decode cL_law 578 = .ok (.iadd, 1) := by decide +kernel
theorem dL_law_579 : decode cL_law 579 = .ok (.iaload, 1) := by decide +kernel
theorem dL_law_580 : decode cL_law 580 = .ok (.aload_n 0, 1) := by decide +kernel
theorem dL_law_581 : decode cL_law 581 = .ok (.iload_n 3, 1) := by decide +kernel
theorem dL_law_582 : decode cL_law 582 = .ok (.iconst 4, 1) := by decide +kernel
theorem dL_law_583 : decode cL_law 583 = .ok (.iadd, 1) := by decide +kernel
theorem dL_law_584 : decode cL_law 584 = .ok (.iaload, 1) := by decide +kernel
theorem dL_law_585 : decode cL_law 585 = .ok (.invokevirtual 69, 3) := by decide +kernel
theorem dL_law_588 : decode cL_law 588 = .ok (.aload_n 2, 1) := by decide +kernel
theorem dL_law_589 : decode cL_law 589 = .ok (.aload_n 0, 1) := by decide +kernel
theorem dL_law_590 : decode cL_law 590 = .ok (.iload_n 3, 1) := by decide +kernel
theorem dL_law_591 : decode cL_law 591 = .ok (.iconst 1, 1) := by decide +kernel
theorem dL_law_592 : decode cL_law 592 = .ok (.iadd, 1) := by decide +kernel
theorem dL_law_593 : decode cL_law 593 = .ok (.iaload, 1) := by decide +kernel
theorem dL_law_594 : decode cL_law 594 = .ok (.aload_n 0, 1) := by decide +kernel
theorem dL_law_595 : decode cL_law 595 = .ok (.iload_n 3, 1) := by decide +kernel
theorem dL_law_596 : decode cL_law 596 = .ok (.iconst 2, 1) := by decide +kernel
theorem dL_law_597 : decode cL_law 597 = .ok (.iadd, 1) := by decide +kernel
theorem dL_law_598 : decode cL_law 598 = .ok (.iaload, 1) := by decide +kernel
theorem dL_law_599 : decode cL_law 599 = .ok (.aload_n 0, 1) := by decide +kernel
theorem dL_law_600 : decode cL_law 600 = .ok (.iload_n 3, 1) := by decide +kernel
theorem dL_law_601 : decode cL_law 601 = .ok (.iconst 3, 1) := by decide +kernel
theorem dL_law_602 : decode cL_law 602 = .ok (.iadd, 1) := by decide +kernel
theorem dL_law_603 : decode cL_law 603 = .ok (.iaload, 1) := by decide +kernel
theorem dL_law_604 : decode cL_law 604 = .ok (.aload_n 0, 1) := by decide +kernel
theorem dL_law_605 : decode cL_law 605 = .ok (.iload_n 3, 1) := by decide +kernel
theorem dL_law_606 : decode cL_law 606 = .ok (.iconst 4, 1) := by decide +kernel
theorem dL_law_607 : decode cL_law 607 = .ok (.iadd, 1) := by decide +kernel
theorem dL_law_608 : decode cL_law 608 = .ok (.iaload, 1) := by decide +kernel
theorem dL_law_609 : decode cL_law 609 = .ok (.invokevirtual 72, 3) := by decide +kernel
theorem dL_law_612 : decode cL_law 612 = .ok (.if_icmp .eq 831, 3) := by decide +kernel
theorem dL_law_617 : decode cL_law 617 = .ok (.aload_n 1, 1) := by decide +kernel
theorem dL_law_618 : decode cL_law 618 = .ok (.aload_n 0, 1) := by decide +kernel
theorem dL_law_619 : decode cL_law 619 = .ok (.iload_n 3, 1) := by decide +kernel
theorem dL_law_620 : decode cL_law 620 = .ok (.iconst 1, 1) := by decide +kernel
theorem dL_law_621 : decode cL_law 621 = .ok (.iadd, 1) := by decide +kernel
theorem dL_law_622 : decode cL_law 622 = .ok (.iaload, 1) := by decide +kernel
theorem dL_law_623 : decode cL_law 623 = .ok (.aload_n 0, 1) := by decide +kernel
theorem dL_law_624 : decode cL_law 624 = .ok (.iload_n 3, 1) := by decide +kernel
theorem dL_law_625 : decode cL_law 625 = .ok (.iconst 2, 1) := by decide +kernel
theorem dL_law_626 : decode cL_law 626 = .ok (.iadd, 1) := by decide +kernel
theorem dL_law_627 : decode cL_law 627 = .ok (.iaload, 1) := by decide +kernel
theorem dL_law_628 : decode cL_law 628 = .ok (.aload_n 0, 1) := by decide +kernel
theorem dL_law_629 : decode cL_law 629 = .ok (.iload_n 3, 1) := by decide +kernel
theorem dL_law_630 : decode cL_law 630 = .ok (.iconst 3, 1) := by decide +kernel
theorem dL_law_631 : decode cL_law 631 = .ok (.iadd, 1) := by decide +kernel
theorem dL_law_632 : decode cL_law 632 = .ok (.iaload, 1) := by decide +kernel
theorem dL_law_633 : decode cL_law 633 = .ok (.aload_n 0, 1) := by decide +kernel
theorem dL_law_634 : decode cL_law 634 = .ok (.iload_n 3, 1) := by decide +kernel
theorem dL_law_635 : decode cL_law 635 = .ok (.iconst 4, 1) := by decide +kernel
theorem dL_law_636 : decode cL_law 636 = .ok (.iadd, 1) := by decide +kernel
theorem dL_law_637 : decode cL_law 637 = .ok (.iaload, 1) := by decide +kernel
theorem dL_law_638 : decode cL_law 638 = .ok (.invokevirtual 73, 3) := by decide +kernel
theorem dL_law_641 : decode cL_law 641 = .ok (.aload_n 2, 1) := by decide +kernel
theorem dL_law_642 : decode cL_law 642 = .ok (.aload_n 0, 1) := by decide +kernel
theorem dL_law_643 : decode cL_law 643 = .ok (.iload_n 3, 1) := by decide +kernel
theorem dL_law_644 : decode cL_law 644 = .ok (.iconst 1, 1) := by decide +kernel
theorem dL_law_645 : decode cL_law 645 = .ok (.iadd, 1) := by decide +kernel
theorem dL_law_646 : decode cL_law 646 = .ok (.iaload, 1) := by decide +kernel
theorem dL_law_647 : decode cL_law 647 = .ok (.aload_n 0, 1) := by decide +kernel
theorem dL_law_648 : decode cL_law 648 = .ok (.iload_n 3, 1) := by decide +kernel
theorem dL_law_649 : decode cL_law 649 = .ok (.iconst 2, 1) := by decide +kernel
theorem dL_law_650 : decode cL_law 650 = .ok (.iadd, 1) := by decide +kernel
theorem dL_law_651 : decode cL_law 651 = .ok (.iaload, 1) := by decide +kernel
theorem dL_law_652 : decode cL_law 652 = .ok (.aload_n 0, 1) := by decide +kernel
theorem dL_law_653 : decode cL_law 653 = .ok (.iload_n 3, 1) := by decide +kernel
theorem dL_law_654 : decode cL_law 654 = .ok (.iconst 3, 1) := by decide +kernel
theorem dL_law_655 : decode cL_law 655 = .ok (.iadd, 1) := by decide +kernel
theorem dL_law_656 : decode cL_law 656 = .ok (.iaload, 1) := by decide +kernel
theorem dL_law_657 : decode cL_law 657 = .ok (.aload_n 0, 1) := by decide +kernel
theorem dL_law_658 : decode cL_law 658 = .ok (.iload_n 3, 1) := by decide +kernel
theorem dL_law_659 : decode cL_law 659 = .ok (.iconst 4, 1) := by decide +kernel
theorem dL_law_660 : decode cL_law 660 = .ok (.iadd, 1) := by decide +kernel
theorem dL_law_661 : decode cL_law 661 = .ok (.iaload, 1) := by decide +kernel
theorem dL_law_662 : decode cL_law 662 = .ok (.invokevirtual 76, 3) := by decide +kernel
theorem dL_law_665 : decode cL_law 665 = .ok (.if_icmp .eq 778, 3) := by decide +kernel
theorem dL_law_670 : decode cL_law 670 = .ok (.aload_n 1, 1) := by decide +kernel
theorem dL_law_671 : decode cL_law 671 = .ok (.aload_n 0, 1) := by decide +kernel
theorem dL_law_672 : decode cL_law 672 = .ok (.iload_n 3, 1) := by decide +kernel
theorem dL_law_673 : decode cL_law 673 = .ok (.iconst 1, 1) := by decide +kernel
theorem dL_law_674 : decode cL_law 674 = .ok (.iadd, 1) := by decide +kernel
theorem dL_law_675 : decode cL_law 675 = .ok (.iaload, 1) := by decide +kernel
theorem dL_law_676 : decode cL_law 676 = .ok (.aload_n 0, 1) := by decide +kernel
theorem dL_law_677 : decode cL_law 677 = .ok (.iload_n 3, 1) := by decide +kernel
theorem dL_law_678 : decode cL_law 678 = .ok (.iconst 2, 1) := by decide +kernel
theorem dL_law_679 : decode cL_law 679 = .ok (.iadd, 1) := by decide +kernel
theorem dL_law_680 : decode cL_law 680 = .ok (.iaload, 1) := by decide +kernel
theorem dL_law_681 : decode cL_law 681 = .ok (.aload_n 0, 1) := by decide +kernel
theorem dL_law_682 : decode cL_law 682 = .ok (.iload_n 3, 1) := by decide +kernel
theorem dL_law_683 : decode cL_law 683 = .ok (.iconst 3, 1) := by decide +kernel
theorem dL_law_684 : decode cL_law 684 = .ok (.iadd, 1) := by decide +kernel
theorem dL_law_685 : decode cL_law 685 = .ok (.iaload, 1) := by decide +kernel
theorem dL_law_686 : decode cL_law 686 = .ok (.invokevirtual 77, 3) := by decide +kernel
theorem dL_law_689 : decode cL_law 689 = .ok (.aload_n 2, 1) := by decide +kernel
theorem dL_law_690 : decode cL_law 690 = .ok (.aload_n 0, 1) := by decide +kernel
theorem dL_law_691 : decode cL_law 691 = .ok (.iload_n 3, 1) := by decide +kernel
theorem dL_law_692 : decode cL_law 692 = .ok (.iconst 1, 1) := by decide +kernel
theorem dL_law_693 : decode cL_law 693 = .ok (.iadd, 1) := by decide +kernel
theorem dL_law_694 : decode cL_law 694 = .ok (.iaload, 1) := by decide +kernel
theorem dL_law_695 : decode cL_law 695 = .ok (.aload_n 0, 1) := by decide +kernel
theorem dL_law_696 : decode cL_law 696 = .ok (.iload_n 3, 1) := by decide +kernel
theorem dL_law_697 : decode cL_law 697 = .ok (.iconst 2, 1) := by decide +kernel
theorem dL_law_698 : decode cL_law 698 = .ok (.iadd, 1) := by decide +kernel
theorem dL_law_699 : decode cL_law 699 = .ok (.iaload, 1) := by decide +kernel
theorem dL_law_700 : decode cL_law 700 = .ok (.aload_n 0, 1) := by decide +kernel
theorem dL_law_701 : decode cL_law 701 = .ok (.iload_n 3, 1) := by decide +kernel
theorem dL_law_702 : decode cL_law 702 = .ok (.iconst 3, 1) := by decide +kernel
theorem dL_law_703 : decode cL_law 703 = .ok (.iadd, 1) := by decide +kernel
theorem dL_law_704 : decode cL_law 704 = .ok (.iaload, 1) := by decide +kernel
theorem dL_law_705 : decode cL_law 705 = .ok (.invokevirtual 80, 3) := by decide +kernel
theorem dL_law_708 : decode cL_law 708 = .ok (.if_icmp .eq 735, 3) := by decide +kernel
set_option maxHeartbeats 4000000 in
set_option maxRecDepth 100000 in
theorem law_told {p : Program} {l : Launch} {e : Env} {s : State} {m : MethodId} {below : List Frame} {meth : Method} {c : Code} {b : Nat} {xs : Nat → Int32} {H : Heap} {locs : List Loc} {ls : Array Slot} {dC : Nat → ClassId} {dI : Nat → Nat → Nat} {aC : Nat → ClassId} {hh bb mm d : Nat} (C0 : lw_At p s m meth c b 6 xs) (hK : zK (dC, dI) aC s) (hR : zReady s H dC dI aC hh bb mm d) (hS : va_S (fun q => s.heap.size ≤ q) s.heap H locs) (hl : lv_has ls 4 [(3, .int 0), (2, .ref mm), (1, .ref hh), (0, .ref b)]) : W p l e room_1 s m #[Value.ref b] below meth c H locs 8431 1660372 (lw_Z below #[Value.ref b] s) (F0 m 488 ls []) := by
  have C1 := C0
  obtain ⟨hx, hb, hr, hml, hown0, hts, hX, hbl, hlocks, hgv⟩ := C0
  obtain ⟨hPh, hFh, hPm, hFm, ez1, ez2, ez3, ez4, hz0⟩ := hR
  have hown : s.vm.findClass RL = some m.cls := hown0
  have hall : ∀ w ∈ zAll, w.before #[Value.ref b] s = true := fun w h => hts w (zAll_in w h)
  have hbA : ¬ (fun q : Nat => s.heap.size ≤ q) b := Nat.not_le.mpr hbl
  generalize hAe : (fun q : Nat => s.heap.size ≤ q) = A at hS hbA
  have hA : ∀ q : Nat, s.heap.size ≤ q → A q := fun q h => by rw [← hAe]; exact h
  generalize hQ : lw_Z below #[Value.ref b] s = QQ
  obtain ⟨x1, hx1⟩ : ∃ y, xs (1 : Int32).toNatClampNeg = y := ⟨_, rfl⟩
  obtain ⟨x2, hx2⟩ : ∃ y, xs (2 : Int32).toNatClampNeg = y := ⟨_, rfl⟩
  by_cases hk : zok x1 = true
  · obtain ⟨a1, ea1⟩ : ∃ q, q = bb + (1 + 6 * x1.toNatClampNeg) := ⟨_, rfl⟩
    obtain ⟨a2, ea2⟩ : ∃ q, q = d + (7485 + 9 * x1.toNatClampNeg) := ⟨_, rfl⟩
    have hn12 := zok_12 hk
    have hsl : zslot bb x1 = some a1 := by rw [ea1]; exact zslot_1 hk
    have hSl : va_P (dC, dI) vwCl (zSlotW aC a1) H := by rw [ea1]; exact hFh _ hn12
    have hTh : va_P (dC, dI) vwCl (zThW aC a2) H := by rw [ea2]; exact hFm _ hn12
    have hP : va_P (dC, dI) vwCl [(hh, .inr (10, [.ref (bb + 0), .ref (bb + 73), .ref (bb + 75), .ref (bb + 76), .ref (bb + 80), .ref (bb + 81), .ref (bb + 88), .ref (bb + 95), .ref (bb + 100), .ref (bb + 106), .int 0, .ref (bb + 107), .int 0])), (bb + 0, .inl (aC 3, 12, .inr (.inr (.inr (.inr (zrefs (fun i => bb + (1 + 6 * i)) 12)))))), (a1, .inr (5, [.int 0, .int 0, .int 0, .int 0, .int 0, .int 0, .int 0, .ref (a1 + 1), .ref (a1 + 2), .ref (a1 + 3), .ref (a1 + 4), .ref (a1 + 5)])), (mm, .inr (15, [.ref (d + 0), .int 0, .ref (d + 1), .int 0, .ref (d + 2), .ref (d + 3), .ref (d + 68), .ref (d + 77), .ref (d + 78), .int 0, .int 0, .ref (d + 79), .int 0, .int 0, .int 0, .ref (d + 80), .int 0, .int 0, .int 0, .int 0, .ref (d + 81), .ref (d + 82), .int (-1), .ref (d + 91), .int 0, .int 0, .ref (d + 92), .int 0, .ref (d + 93), .int 0, .ref (d + 94), .int 0, .ref (d + 95), .ref (d + 96), .ref (d + 97), .ref (d + 98), .int 0, .int 0, .ref (d + 99), .null, .null, .null, .null, .null, .ref (d + 148), .ref (d + 175), .ref (d + 176), .ref (d + 177), .int 0, .ref (d + 178), .ref (d + 179), .ref (d + 180), .ref (d + 185), .ref (d + 190), .ref (d + 191), .ref (d + 192), .ref (d + 193), .ref (d + 201), .ref (d + 209), .ref (d + 210), .ref (d + 211), .ref (d + 272), .ref (d + 273), .int 0, .ref (d + 274)])), (d + 81, .inl (aC 6, 12, .inr (.inr (.inr (.inr (zrefs (fun i => d + (7485 + 9 * i)) 12)))))), (a2, .inr (13, [.int 0, .ref (a2 + 1 + 0), .ref (a2 + 1 + 1), .int 0, .int 0, .int 0, .ref (a2 + 1 + 2), .ref (a2 + 1 + 3), .ref (a2 + 1 + 4), .ref (a2 + 1 + 5), .int 0, .ref (a2 + 1 + 6), .int 0, .int 0, .ref (a2 + 1 + 7)]))] H := zP_c (hPh 0 _ rfl) (zP_c (hPh 1 _ rfl) (zP_c (hSl 0 _ rfl) (zP_c (hPm 0 _ rfl) (zP_c (hPm 15 _ rfl) (zP_c (hTh 0 _ rfl) (zP_n))))))
    have hD : va_D A [(hh, .inr (10, [.ref (bb + 0), .ref (bb + 73), .ref (bb + 75), .ref (bb + 76), .ref (bb + 80), .ref (bb + 81), .ref (bb + 88), .ref (bb + 95), .ref (bb + 100), .ref (bb + 106), .int 0, .ref (bb + 107), .int 0])), (bb + 0, .inl (aC 3, 12, .inr (.inr (.inr (.inr (zrefs (fun i => bb + (1 + 6 * i)) 12)))))), (a1, .inr (5, [.int 0, .int 0, .int 0, .int 0, .int 0, .int 0, .int 0, .ref (a1 + 1), .ref (a1 + 2), .ref (a1 + 3), .ref (a1 + 4), .ref (a1 + 5)])), (mm, .inr (15, [.ref (d + 0), .int 0, .ref (d + 1), .int 0, .ref (d + 2), .ref (d + 3), .ref (d + 68), .ref (d + 77), .ref (d + 78), .int 0, .int 0, .ref (d + 79), .int 0, .int 0, .int 0, .ref (d + 80), .int 0, .int 0, .int 0, .int 0, .ref (d + 81), .ref (d + 82), .int (-1), .ref (d + 91), .int 0, .int 0, .ref (d + 92), .int 0, .ref (d + 93), .int 0, .ref (d + 94), .int 0, .ref (d + 95), .ref (d + 96), .ref (d + 97), .ref (d + 98), .int 0, .int 0, .ref (d + 99), .null, .null, .null, .null, .null, .ref (d + 148), .ref (d + 175), .ref (d + 176), .ref (d + 177), .int 0, .ref (d + 178), .ref (d + 179), .ref (d + 180), .ref (d + 185), .ref (d + 190), .ref (d + 191), .ref (d + 192), .ref (d + 193), .ref (d + 201), .ref (d + 209), .ref (d + 210), .ref (d + 211), .ref (d + 272), .ref (d + 273), .int 0, .ref (d + 274)])), (d + 81, .inl (aC 6, 12, .inr (.inr (.inr (.inr (zrefs (fun i => d + (7485 + 9 * i)) 12)))))), (a2, .inr (13, [.int 0, .ref (a2 + 1 + 0), .ref (a2 + 1 + 1), .int 0, .int 0, .int 0, .ref (a2 + 1 + 2), .ref (a2 + 1 + 3), .ref (a2 + 1 + 4), .ref (a2 + 1 + 5), .int 0, .ref (a2 + 1 + 6), .int 0, .int 0, .ref (a2 + 1 + 7)]))] := zUp_D (lo := s.heap.size) hA (zUp_c (by omega) (zUp_c (by omega) (zUp_c (by omega) (zUp_c (by omega) (zUp_c (by omega) (zUp_c (by omega) (zUp_n)))))))
    clear hPh hFh hPm hFm hSl hTh
    refine lv_aload_n hx hb dL_law_488 rfl (lv_at hl 2 rfl) ?_
    refine lv_aload_n hx hb dL_law_489 rfl (lv_at hl 3 rfl) ?_
    refine lv_iload_n hx hb dL_law_490 rfl (lv_at hl 0 rfl) ?_
    refine lv_iconst (v := 1) hx hb dL_law_491 (by decide) ?_
    refine lv_iadd hx hb dL_law_492 ?_
    refine lv_topi (fun y140093 ey140093 => ?_)
    obtain rfl : y140093 = 1 := by rw [ey140093]; decide
    try clear ey140093
    show W p l e _ s m _ below meth c _ _ _ _ QQ (F0 m 493 ls [.int 1, .ref b, .ref hh])
    refine zsld hx hb hX hbl hbA hS (zvp (by decide)) hx1 dL_law_493 ?_
    refine lv_aload_n hx hb dL_law_494 rfl (lv_at hl 3 rfl) ?_
    refine lv_iload_n hx hb dL_law_495 rfl (lv_at hl 0 rfl) ?_
    refine lv_iconst (v := 2) hx hb dL_law_496 (by decide) ?_
    refine lv_iadd hx hb dL_law_497 ?_
    refine lv_topi (fun y140094 ey140094 => ?_)
    obtain rfl : y140094 = 2 := by rw [ey140094]; decide
    try clear ey140094
    show W p l e _ s m _ below meth c _ _ _ _ QQ (F0 m 498 ls [.int 2, .ref b, .int x1, .ref hh])
    refine zsld hx hb hX hbl hbA hS (zvp (by decide)) hx2 dL_law_498 ?_
    refine zro_i hS hA (va_runV (As := [.int x1, .int x2]) (rest := []) ⟨hx, hb, hml, hown, hall⟩ (c_X11_told_in l dC dI aC hh bb a1 x1 x2 H.size hsl) (cwV 2 hall (zgV zw_577 zw_579 zw_580 zw_802 g_X11_told rfl) rfl rfl rfl (by decide +kernel) ⟨Nat.le_of_ble_eq_true rfl, Nat.le_of_ble_eq_true rfl⟩) (zPre_V (As := [.int x1, .int x2]) hK hP hD [0, 1, 2] rfl (by decide +kernel) (ci := 10) (q0 := 0) rfl rfl) rfl rfl hl.1 rfl (lv_room (Nat.le_of_ble_eq_true rfl)) dL_law_499 ⟨Nat.le_of_ble_eq_true rfl, Nat.le_of_ble_eq_true rfl⟩) (fun ra L140095 hw hS' => ?_)
    clear hS
    have hS := hS'
    clear hS'
    have hwa := hw
    clear hw
    refine lv_aload_n hx hb dL_law_502 rfl (lv_at hl 1 rfl) ?_
    refine lv_aload_n hx hb dL_law_503 rfl (lv_at hl 3 rfl) ?_
    refine lv_iload_n hx hb dL_law_504 rfl (lv_at hl 0 rfl) ?_
    show W p l e _ s m _ below meth c _ _ _ _ QQ (F0 m 505 ls [.int 0, .ref b, .ref mm, .int ra])
    refine lv_iconst (v := 1) hx hb dL_law_505 (by decide) ?_
    refine lv_iadd hx hb dL_law_506 ?_
    refine lv_topi (fun y140096 ey140096 => ?_)
    obtain rfl : y140096 = 1 := by rw [ey140096]; decide
    try clear ey140096
    refine zsld hx hb hX hbl hbA hS (zvp (by decide)) hx1 dL_law_507 ?_
    refine lv_aload_n hx hb dL_law_508 rfl (lv_at hl 3 rfl) ?_
    refine lv_iload_n hx hb dL_law_509 rfl (lv_at hl 0 rfl) ?_
    show W p l e _ s m _ below meth c _ _ _ _ QQ (F0 m 510 ls [.int 0, .ref b, .int x1, .ref mm, .int ra])
    refine lv_iconst (v := 2) hx hb dL_law_510 (by decide) ?_
    refine lv_iadd hx hb dL_law_511 ?_
    refine lv_topi (fun y140097 ey140097 => ?_)
    obtain rfl : y140097 = 2 := by rw [ey140097]; decide
    try clear ey140097
    refine zsld hx hb hX hbl hbA hS (zvp (by decide)) hx2 dL_law_512 ?_
    refine zro_i hS hA (va_runV (As := [.int x1, .int x2]) (rest := [.int ra]) ⟨hx, hb, hml, hown, hall⟩ (c_X16_told_in l dC dI aC mm d a2 x1 x2 H.size hk ea2) (cwV 2 hall (zgV zw_581 zw_583 zw_584 zw_812 g_X16_told rfl) rfl rfl rfl (by decide +kernel) ⟨Nat.le_of_ble_eq_true rfl, Nat.le_of_ble_eq_true rfl⟩) (zPre_V (As := [.int x1, .int x2]) hK hP hD [3, 4, 5] rfl (by decide +kernel) (ci := 15) (q0 := 0) rfl rfl) rfl rfl hl.1 rfl (lv_room (Nat.le_of_ble_eq_true rfl)) dL_law_513 ⟨Nat.le_of_ble_eq_true rfl, Nat.le_of_ble_eq_true rfl⟩) (fun rb L140098 hw hS' => ?_)
    clear hS
    have hS := hS'
    clear hS'
    have hwb := hw
    clear hw
    refine lv_icmp_eq (tgt := 1443) hx hb dL_law_516 (by decide) (fun _ => ?_) (fun hne => absurd (hwa.trans hwb.symm) hne)
    subst hQ
    subst hAe
    exact law_tail C1 (Nat.le_of_ble_eq_true rfl) (Nat.le_of_ble_eq_true rfl) hS (lv_sub hl [0, 3] rfl)
  · have hP : va_P (dC, dI) vwCl [(hh, .inr (10, [.ref (bb + 0), .ref (bb + 73), .ref (bb + 75), .ref (bb + 76), .ref (bb + 80), .ref (bb + 81), .ref (bb + 88), .ref (bb + 95), .ref (bb + 100), .ref (bb + 106), .int 0, .ref (bb + 107), .int 0])), (bb + 0, .inl (aC 3, 12, .inr (.inr (.inr (.inr (zrefs (fun i => bb + (1 + 6 * i)) 12)))))), (mm, .inr (15, [.ref (d + 0), .int 0, .ref (d + 1), .int 0, .ref (d + 2), .ref (d + 3), .ref (d + 68), .ref (d + 77), .ref (d + 78), .int 0, .int 0, .ref (d + 79), .int 0, .int 0, .int 0, .ref (d + 80), .int 0, .int 0, .int 0, .int 0, .ref (d + 81), .ref (d + 82), .int (-1), .ref (d + 91), .int 0, .int 0, .ref (d + 92), .int 0, .ref (d + 93), .int 0, .ref (d + 94), .int 0, .ref (d + 95), .ref (d + 96), .ref (d + 97), .ref (d + 98), .int 0, .int 0, .ref (d + 99), .null, .null, .null, .null, .null, .ref (d + 148), .ref (d + 175), .ref (d + 176), .ref (d + 177), .int 0, .ref (d + 178), .ref (d + 179), .ref (d + 180), .ref (d + 185), .ref (d + 190), .ref (d + 191), .ref (d + 192), .ref (d + 193), .ref (d + 201), .ref (d + 209), .ref (d + 210), .ref (d + 211), .ref (d + 272), .ref (d + 273), .int 0, .ref (d + 274)])), (d + 81, .inl (aC 6, 12, .inr (.inr (.inr (.inr (zrefs (fun i => d + (7485 + 9 * i)) 12))))))] H := zP_c (hPh 0 _ rfl) (zP_c (hPh 1 _ rfl) (zP_c (hPm 0 _ rfl) (zP_c (hPm 15 _ rfl) (zP_n))))
    have hD : va_D A [(hh, .inr (10, [.ref (bb + 0), .ref (bb + 73), .ref (bb + 75), .ref (bb + 76), .ref (bb + 80), .ref (bb + 81), .ref (bb + 88), .ref (bb + 95), .ref (bb + 100), .ref (bb + 106), .int 0, .ref (bb + 107), .int 0])), (bb + 0, .inl (aC 3, 12, .inr (.inr (.inr (.inr (zrefs (fun i => bb + (1 + 6 * i)) 12)))))), (mm, .inr (15, [.ref (d + 0), .int 0, .ref (d + 1), .int 0, .ref (d + 2), .ref (d + 3), .ref (d + 68), .ref (d + 77), .ref (d + 78), .int 0, .int 0, .ref (d + 79), .int 0, .int 0, .int 0, .ref (d + 80), .int 0, .int 0, .int 0, .int 0, .ref (d + 81), .ref (d + 82), .int (-1), .ref (d + 91), .int 0, .int 0, .ref (d + 92), .int 0, .ref (d + 93), .int 0, .ref (d + 94), .int 0, .ref (d + 95), .ref (d + 96), .ref (d + 97), .ref (d + 98), .int 0, .int 0, .ref (d + 99), .null, .null, .null, .null, .null, .ref (d + 148), .ref (d + 175), .ref (d + 176), .ref (d + 177), .int 0, .ref (d + 178), .ref (d + 179), .ref (d + 180), .ref (d + 185), .ref (d + 190), .ref (d + 191), .ref (d + 192), .ref (d + 193), .ref (d + 201), .ref (d + 209), .ref (d + 210), .ref (d + 211), .ref (d + 272), .ref (d + 273), .int 0, .ref (d + 274)])), (d + 81, .inl (aC 6, 12, .inr (.inr (.inr (.inr (zrefs (fun i => d + (7485 + 9 * i)) 12))))))] := zUp_D (lo := s.heap.size) hA (zUp_c (by omega) (zUp_c (by omega) (zUp_c (by omega) (zUp_c (by omega) (zUp_n)))))
    clear hPh hFh hPm hFm
    refine lv_aload_n hx hb dL_law_488 rfl (lv_at hl 2 rfl) ?_
    refine lv_aload_n hx hb dL_law_489 rfl (lv_at hl 3 rfl) ?_
    refine lv_iload_n hx hb dL_law_490 rfl (lv_at hl 0 rfl) ?_
    refine lv_iconst (v := 1) hx hb dL_law_491 (by decide) ?_
    refine lv_iadd hx hb dL_law_492 ?_
    refine lv_topi (fun y140099 ey140099 => ?_)
    obtain rfl : y140099 = 1 := by rw [ey140099]; decide
    try clear ey140099
    show W p l e _ s m _ below meth c _ _ _ _ QQ (F0 m 493 ls [.int 1, .ref b, .ref hh])
    refine zsld hx hb hX hbl hbA hS (zvp (by decide)) hx1 dL_law_493 ?_
    refine lv_aload_n hx hb dL_law_494 rfl (lv_at hl 3 rfl) ?_
    refine lv_iload_n hx hb dL_law_495 rfl (lv_at hl 0 rfl) ?_
    refine lv_iconst (v := 2) hx hb dL_law_496 (by decide) ?_
    refine lv_iadd hx hb dL_law_497 ?_
    refine lv_topi (fun y140100 ey140100 => ?_)
    obtain rfl : y140100 = 2 := by rw [ey140100]; decide
    try clear ey140100
    show W p l e _ s m _ below meth c _ _ _ _ QQ (F0 m 498 ls [.int 2, .ref b, .int x1, .ref hh])
    refine zsld hx hb hX hbl hbA hS (zvp (by decide)) hx2 dL_law_498 ?_
    refine zro_i hS hA (va_runV (As := [.int x1, .int x2]) (rest := []) ⟨hx, hb, hml, hown, hall⟩ (c_X11_told_out l dC dI aC hh bb x1 x2 H.size (zslot_0 hk)) (cwV 2 hall (zgV zw_577 zw_579 zw_580 zw_802 g_X11_told rfl) rfl rfl rfl (by decide +kernel) ⟨Nat.le_of_ble_eq_true rfl, Nat.le_of_ble_eq_true rfl⟩) (zPre_V (As := [.int x1, .int x2]) hK hP hD [0, 1] rfl (by decide +kernel) (ci := 10) (q0 := 0) rfl rfl) rfl rfl hl.1 rfl (lv_room (Nat.le_of_ble_eq_true rfl)) dL_law_499 ⟨Nat.le_of_ble_eq_true rfl, Nat.le_of_ble_eq_true rfl⟩) (fun ra L140101 hw hS' => ?_)
    clear hS
    have hS := hS'
    clear hS'
    have hwa := hw
    clear hw
    refine lv_aload_n hx hb dL_law_502 rfl (lv_at hl 1 rfl) ?_
    refine lv_aload_n hx hb dL_law_503 rfl (lv_at hl 3 rfl) ?_
    refine lv_iload_n hx hb dL_law_504 rfl (lv_at hl 0 rfl) ?_
    show W p l e _ s m _ below meth c _ _ _ _ QQ (F0 m 505 ls [.int 0, .ref b, .ref mm, .int ra])
    refine lv_iconst (v := 1) hx hb dL_law_505 (by decide) ?_
    refine lv_iadd hx hb dL_law_506 ?_
    refine lv_topi (fun y140102 ey140102 => ?_)
    obtain rfl : y140102 = 1 := by rw [ey140102]; decide
    try clear ey140102
    refine zsld hx hb hX hbl hbA hS (zvp (by decide)) hx1 dL_law_507 ?_
    refine lv_aload_n hx hb dL_law_508 rfl (lv_at hl 3 rfl) ?_
    refine lv_iload_n hx hb dL_law_509 rfl (lv_at hl 0 rfl) ?_
    show W p l e _ s m _ below meth c _ _ _ _ QQ (F0 m 510 ls [.int 0, .ref b, .int x1, .ref mm, .int ra])
    refine lv_iconst (v := 2) hx hb dL_law_510 (by decide) ?_
    refine lv_iadd hx hb dL_law_511 ?_
    refine lv_topi (fun y140103 ey140103 => ?_)
    obtain rfl : y140103 = 2 := by rw [ey140103]; decide
    try clear ey140103
    refine zsld hx hb hX hbl hbA hS (zvp (by decide)) hx2 dL_law_512 ?_
    refine zro_i hS hA (va_runV (As := [.int x1, .int x2]) (rest := [.int ra]) ⟨hx, hb, hml, hown, hall⟩ (c_X16_told_out l dC dI aC mm d x1 x2 H.size hk) (cwV 2 hall (zgV zw_581 zw_583 zw_584 zw_812 g_X16_told rfl) rfl rfl rfl (by decide +kernel) ⟨Nat.le_of_ble_eq_true rfl, Nat.le_of_ble_eq_true rfl⟩) (zPre_V (As := [.int x1, .int x2]) hK hP hD [2, 3] rfl (by decide +kernel) (ci := 15) (q0 := 0) rfl rfl) rfl rfl hl.1 rfl (lv_room (Nat.le_of_ble_eq_true rfl)) dL_law_513 ⟨Nat.le_of_ble_eq_true rfl, Nat.le_of_ble_eq_true rfl⟩) (fun rb L140104 hw hS' => ?_)
    clear hS
    have hS := hS'
    clear hS'
    have hwb := hw
    clear hw
    refine lv_icmp_eq (tgt := 1443) hx hb dL_law_516 (by decide) (fun _ => ?_) (fun hne => absurd (hwa.trans hwb.symm) hne)
    subst hQ
    subst hAe
    exact law_tail C1 (Nat.le_of_ble_eq_true rfl) (Nat.le_of_ble_eq_true rfl) hS (lv_sub hl [0, 3] rfl)

set_option maxHeartbeats 4000000 in
set_option maxRecDepth 100000 in
theorem law_factorial {p : Program} {l : Launch} {e : Env} {s : State} {m : MethodId} {below : List Frame} {meth : Method} {c : Code} {b : Nat} {xs : Nat → Int32} {H : Heap} {locs : List Loc} {ls : Array Slot} {dC : Nat → ClassId} {dI : Nat → Nat → Nat} {aC : Nat → ClassId} {hh bb mm d : Nat} (C0 : lw_At p s m meth c b 6 xs) (hK : zK (dC, dI) aC s) (hR : zReady s H dC dI aC hh bb mm d) (hS : va_S (fun q => s.heap.size ≤ q) s.heap H locs) (hl : lv_has ls 4 [(3, .int 0), (2, .ref mm), (1, .ref hh), (0, .ref b)]) : W p l e room_1 s m #[Value.ref b] below meth c H locs 8431 1660372 (lw_Z below #[Value.ref b] s) (F0 m 521 ls []) := by
  have C1 := C0
  obtain ⟨hx, hb, hr, hml, hown0, hts, hX, hbl, hlocks, hgv⟩ := C0
  obtain ⟨hPh, hFh, hPm, hFm, ez1, ez2, ez3, ez4, hz0⟩ := hR
  have hown : s.vm.findClass RL = some m.cls := hown0
  have hall : ∀ w ∈ zAll, w.before #[Value.ref b] s = true := fun w h => hts w (zAll_in w h)
  have hbA : ¬ (fun q : Nat => s.heap.size ≤ q) b := Nat.not_le.mpr hbl
  generalize hAe : (fun q : Nat => s.heap.size ≤ q) = A at hS hbA
  have hA : ∀ q : Nat, s.heap.size ≤ q → A q := fun q h => by rw [← hAe]; exact h
  generalize hQ : lw_Z below #[Value.ref b] s = QQ
  obtain ⟨x1, hx1⟩ : ∃ y, xs (1 : Int32).toNatClampNeg = y := ⟨_, rfl⟩
  obtain ⟨x2, hx2⟩ : ∃ y, xs (2 : Int32).toNatClampNeg = y := ⟨_, rfl⟩
  obtain ⟨x3, hx3⟩ : ∃ y, xs (3 : Int32).toNatClampNeg = y := ⟨_, rfl⟩
  by_cases hk : zok x1 = true
  · obtain ⟨a1, ea1⟩ : ∃ q, q = bb + (1 + 6 * x1.toNatClampNeg) := ⟨_, rfl⟩
    obtain ⟨a2, ea2⟩ : ∃ q, q = d + (7485 + 9 * x1.toNatClampNeg) := ⟨_, rfl⟩
    have hn12 := zok_12 hk
    have hsl : zslot bb x1 = some a1 := by rw [ea1]; exact zslot_1 hk
    have hSl : va_P (dC, dI) vwCl (zSlotW aC a1) H := by rw [ea1]; exact hFh _ hn12
    have hTh : va_P (dC, dI) vwCl (zThW aC a2) H := by rw [ea2]; exact hFm _ hn12
    have hP : va_P (dC, dI) vwCl [(hh, .inr (10, [.ref (bb + 0), .ref (bb + 73), .ref (bb + 75), .ref (bb + 76), .ref (bb + 80), .ref (bb + 81), .ref (bb + 88), .ref (bb + 95), .ref (bb + 100), .ref (bb + 106), .int 0, .ref (bb + 107), .int 0])), (bb + 0, .inl (aC 3, 12, .inr (.inr (.inr (.inr (zrefs (fun i => bb + (1 + 6 * i)) 12)))))), (a1, .inr (5, [.int 0, .int 0, .int 0, .int 0, .int 0, .int 0, .int 0, .ref (a1 + 1), .ref (a1 + 2), .ref (a1 + 3), .ref (a1 + 4), .ref (a1 + 5)])), (mm, .inr (15, [.ref (d + 0), .int 0, .ref (d + 1), .int 0, .ref (d + 2), .ref (d + 3), .ref (d + 68), .ref (d + 77), .ref (d + 78), .int 0, .int 0, .ref (d + 79), .int 0, .int 0, .int 0, .ref (d + 80), .int 0, .int 0, .int 0, .int 0, .ref (d + 81), .ref (d + 82), .int (-1), .ref (d + 91), .int 0, .int 0, .ref (d + 92), .int 0, .ref (d + 93), .int 0, .ref (d + 94), .int 0, .ref (d + 95), .ref (d + 96), .ref (d + 97), .ref (d + 98), .int 0, .int 0, .ref (d + 99), .null, .null, .null, .null, .null, .ref (d + 148), .ref (d + 175), .ref (d + 176), .ref (d + 177), .int 0, .ref (d + 178), .ref (d + 179), .ref (d + 180), .ref (d + 185), .ref (d + 190), .ref (d + 191), .ref (d + 192), .ref (d + 193), .ref (d + 201), .ref (d + 209), .ref (d + 210), .ref (d + 211), .ref (d + 272), .ref (d + 273), .int 0, .ref (d + 274)])), (d + 81, .inl (aC 6, 12, .inr (.inr (.inr (.inr (zrefs (fun i => d + (7485 + 9 * i)) 12)))))), (a2, .inr (13, [.int 0, .ref (a2 + 1 + 0), .ref (a2 + 1 + 1), .int 0, .int 0, .int 0, .ref (a2 + 1 + 2), .ref (a2 + 1 + 3), .ref (a2 + 1 + 4), .ref (a2 + 1 + 5), .int 0, .ref (a2 + 1 + 6), .int 0, .int 0, .ref (a2 + 1 + 7)]))] H := zP_c (hPh 0 _ rfl) (zP_c (hPh 1 _ rfl) (zP_c (hSl 0 _ rfl) (zP_c (hPm 0 _ rfl) (zP_c (hPm 15 _ rfl) (zP_c (hTh 0 _ rfl) (zP_n))))))
    have hD : va_D A [(hh, .inr (10, [.ref (bb + 0), .ref (bb + 73), .ref (bb + 75), .ref (bb + 76), .ref (bb + 80), .ref (bb + 81), .ref (bb + 88), .ref (bb + 95), .ref (bb + 100), .ref (bb + 106), .int 0, .ref (bb + 107), .int 0])), (bb + 0, .inl (aC 3, 12, .inr (.inr (.inr (.inr (zrefs (fun i => bb + (1 + 6 * i)) 12)))))), (a1, .inr (5, [.int 0, .int 0, .int 0, .int 0, .int 0, .int 0, .int 0, .ref (a1 + 1), .ref (a1 + 2), .ref (a1 + 3), .ref (a1 + 4), .ref (a1 + 5)])), (mm, .inr (15, [.ref (d + 0), .int 0, .ref (d + 1), .int 0, .ref (d + 2), .ref (d + 3), .ref (d + 68), .ref (d + 77), .ref (d + 78), .int 0, .int 0, .ref (d + 79), .int 0, .int 0, .int 0, .ref (d + 80), .int 0, .int 0, .int 0, .int 0, .ref (d + 81), .ref (d + 82), .int (-1), .ref (d + 91), .int 0, .int 0, .ref (d + 92), .int 0, .ref (d + 93), .int 0, .ref (d + 94), .int 0, .ref (d + 95), .ref (d + 96), .ref (d + 97), .ref (d + 98), .int 0, .int 0, .ref (d + 99), .null, .null, .null, .null, .null, .ref (d + 148), .ref (d + 175), .ref (d + 176), .ref (d + 177), .int 0, .ref (d + 178), .ref (d + 179), .ref (d + 180), .ref (d + 185), .ref (d + 190), .ref (d + 191), .ref (d + 192), .ref (d + 193), .ref (d + 201), .ref (d + 209), .ref (d + 210), .ref (d + 211), .ref (d + 272), .ref (d + 273), .int 0, .ref (d + 274)])), (d + 81, .inl (aC 6, 12, .inr (.inr (.inr (.inr (zrefs (fun i => d + (7485 + 9 * i)) 12)))))), (a2, .inr (13, [.int 0, .ref (a2 + 1 + 0), .ref (a2 + 1 + 1), .int 0, .int 0, .int 0, .ref (a2 + 1 + 2), .ref (a2 + 1 + 3), .ref (a2 + 1 + 4), .ref (a2 + 1 + 5), .int 0, .ref (a2 + 1 + 6), .int 0, .int 0, .ref (a2 + 1 + 7)]))] := zUp_D (lo := s.heap.size) hA (zUp_c (by omega) (zUp_c (by omega) (zUp_c (by omega) (zUp_c (by omega) (zUp_c (by omega) (zUp_c (by omega) (zUp_n)))))))
    clear hPh hFh hPm hFm hSl hTh
    refine lv_aload_n hx hb dL_law_521 rfl (lv_at hl 2 rfl) ?_
    refine lv_aload_n hx hb dL_law_522 rfl (lv_at hl 3 rfl) ?_
    refine lv_iload_n hx hb dL_law_523 rfl (lv_at hl 0 rfl) ?_
    refine lv_iconst (v := 1) hx hb dL_law_524 (by decide) ?_
    refine lv_iadd hx hb dL_law_525 ?_
    refine lv_topi (fun y140105 ey140105 => ?_)
    obtain rfl : y140105 = 1 := by rw [ey140105]; decide
    try clear ey140105
    show W p l e _ s m _ below meth c _ _ _ _ QQ (F0 m 526 ls [.int 1, .ref b, .ref hh])
    refine zsld hx hb hX hbl hbA hS (zvp (by decide)) hx1 dL_law_526 ?_
    refine lv_aload_n hx hb dL_law_527 rfl (lv_at hl 3 rfl) ?_
    refine lv_iload_n hx hb dL_law_528 rfl (lv_at hl 0 rfl) ?_
    refine lv_iconst (v := 2) hx hb dL_law_529 (by decide) ?_
    refine lv_iadd hx hb dL_law_530 ?_
    refine lv_topi (fun y140106 ey140106 => ?_)
    obtain rfl : y140106 = 2 := by rw [ey140106]; decide
    try clear ey140106
    show W p l e _ s m _ below meth c _ _ _ _ QQ (F0 m 531 ls [.int 2, .ref b, .int x1, .ref hh])
    refine zsld hx hb hX hbl hbA hS (zvp (by decide)) hx2 dL_law_531 ?_
    refine lv_aload_n hx hb dL_law_532 rfl (lv_at hl 3 rfl) ?_
    refine lv_iload_n hx hb dL_law_533 rfl (lv_at hl 0 rfl) ?_
    refine lv_iconst (v := 3) hx hb dL_law_534 (by decide) ?_
    refine lv_iadd hx hb dL_law_535 ?_
    refine lv_topi (fun y140107 ey140107 => ?_)
    obtain rfl : y140107 = 3 := by rw [ey140107]; decide
    try clear ey140107
    show W p l e _ s m _ below meth c _ _ _ _ QQ (F0 m 536 ls [.int 3, .ref b, .int x2, .int x1, .ref hh])
    refine zsld hx hb hX hbl hbA hS (zvp (by decide)) hx3 dL_law_536 ?_
    refine zro_i hS hA (va_runV (As := [.int x1, .int x2, .int x3]) (rest := []) ⟨hx, hb, hml, hown, hall⟩ (c_X11_factorial_in l dC dI aC hh bb a1 x1 x2 x3 H.size hsl) (cwV 3 hall (zgV zw_585 zw_587 zw_588 zw_802 g_X11_factorial rfl) rfl rfl rfl (by decide +kernel) ⟨Nat.le_of_ble_eq_true rfl, Nat.le_of_ble_eq_true rfl⟩) (zPre_V (As := [.int x1, .int x2, .int x3]) hK hP hD [0, 1, 2] rfl (by decide +kernel) (ci := 10) (q0 := 0) rfl rfl) rfl rfl hl.1 rfl (lv_room (Nat.le_of_ble_eq_true rfl)) dL_law_537 ⟨Nat.le_of_ble_eq_true rfl, Nat.le_of_ble_eq_true rfl⟩) (fun ra L140108 hw hS' => ?_)
    clear hS
    have hS := hS'
    clear hS'
    have hwa := hw
    clear hw
    refine lv_aload_n hx hb dL_law_540 rfl (lv_at hl 1 rfl) ?_
    refine lv_aload_n hx hb dL_law_541 rfl (lv_at hl 3 rfl) ?_
    refine lv_iload_n hx hb dL_law_542 rfl (lv_at hl 0 rfl) ?_
    show W p l e _ s m _ below meth c _ _ _ _ QQ (F0 m 543 ls [.int 0, .ref b, .ref mm, .int ra])
    refine lv_iconst (v := 1) hx hb dL_law_543 (by decide) ?_
    refine lv_iadd hx hb dL_law_544 ?_
    refine lv_topi (fun y140109 ey140109 => ?_)
    obtain rfl : y140109 = 1 := by rw [ey140109]; decide
    try clear ey140109
    refine zsld hx hb hX hbl hbA hS (zvp (by decide)) hx1 dL_law_545 ?_
    refine lv_aload_n hx hb dL_law_546 rfl (lv_at hl 3 rfl) ?_
    refine lv_iload_n hx hb dL_law_547 rfl (lv_at hl 0 rfl) ?_
    show W p l e _ s m _ below meth c _ _ _ _ QQ (F0 m 548 ls [.int 0, .ref b, .int x1, .ref mm, .int ra])
    refine lv_iconst (v := 2) hx hb dL_law_548 (by decide) ?_
    refine lv_iadd hx hb dL_law_549 ?_
    refine lv_topi (fun y140110 ey140110 => ?_)
    obtain rfl : y140110 = 2 := by rw [ey140110]; decide
    try clear ey140110
    refine zsld hx hb hX hbl hbA hS (zvp (by decide)) hx2 dL_law_550 ?_
    refine lv_aload_n hx hb dL_law_551 rfl (lv_at hl 3 rfl) ?_
    refine lv_iload_n hx hb dL_law_552 rfl (lv_at hl 0 rfl) ?_
    show W p l e _ s m _ below meth c _ _ _ _ QQ (F0 m 553 ls [.int 0, .ref b, .int x2, .int x1, .ref mm, .int ra])
    refine lv_iconst (v := 3) hx hb dL_law_553 (by decide) ?_
    refine lv_iadd hx hb dL_law_554 ?_
    refine lv_topi (fun y140111 ey140111 => ?_)
    obtain rfl : y140111 = 3 := by rw [ey140111]; decide
    try clear ey140111
    refine zsld hx hb hX hbl hbA hS (zvp (by decide)) hx3 dL_law_555 ?_
    refine zro_i hS hA (va_runV (As := [.int x1, .int x2, .int x3]) (rest := [.int ra]) ⟨hx, hb, hml, hown, hall⟩ (c_X16_factorial__in l dC dI aC mm d a2 x1 x2 x3 H.size hk ea2) (cwV 3 hall (zgV zw_589 zw_591 zw_592 zw_812 g_X16_factorial_ rfl) rfl rfl rfl (by decide +kernel) ⟨Nat.le_of_ble_eq_true rfl, Nat.le_of_ble_eq_true rfl⟩) (zPre_V (As := [.int x1, .int x2, .int x3]) hK hP hD [3, 4, 5] rfl (by decide +kernel) (ci := 15) (q0 := 0) rfl rfl) rfl rfl hl.1 rfl (lv_room (Nat.le_of_ble_eq_true rfl)) dL_law_556 ⟨Nat.le_of_ble_eq_true rfl, Nat.le_of_ble_eq_true rfl⟩) (fun rb L140112 hw hS' => ?_)
    clear hS
    have hS := hS'
    clear hS'
    have hwb := hw
    clear hw
    refine lv_icmp_eq (tgt := 1443) hx hb dL_law_559 (by decide) (fun _ => ?_) (fun hne => absurd (hwa.trans hwb.symm) hne)
    subst hQ
    subst hAe
    exact law_tail C1 (Nat.le_of_ble_eq_true rfl) (Nat.le_of_ble_eq_true rfl) hS (lv_sub hl [0, 3] rfl)
  · have hP : va_P (dC, dI) vwCl [(hh, .inr (10, [.ref (bb + 0), .ref (bb + 73), .ref (bb + 75), .ref (bb + 76), .ref (bb + 80), .ref (bb + 81), .ref (bb + 88), .ref (bb + 95), .ref (bb + 100), .ref (bb + 106), .int 0, .ref (bb + 107), .int 0])), (bb + 0, .inl (aC 3, 12, .inr (.inr (.inr (.inr (zrefs (fun i => bb + (1 + 6 * i)) 12)))))), (mm, .inr (15, [.ref (d + 0), .int 0, .ref (d + 1), .int 0, .ref (d + 2), .ref (d + 3), .ref (d + 68), .ref (d + 77), .ref (d + 78), .int 0, .int 0, .ref (d + 79), .int 0, .int 0, .int 0, .ref (d + 80), .int 0, .int 0, .int 0, .int 0, .ref (d + 81), .ref (d + 82), .int (-1), .ref (d + 91), .int 0, .int 0, .ref (d + 92), .int 0, .ref (d + 93), .int 0, .ref (d + 94), .int 0, .ref (d + 95), .ref (d + 96), .ref (d + 97), .ref (d + 98), .int 0, .int 0, .ref (d + 99), .null, .null, .null, .null, .null, .ref (d + 148), .ref (d + 175), .ref (d + 176), .ref (d + 177), .int 0, .ref (d + 178), .ref (d + 179), .ref (d + 180), .ref (d + 185), .ref (d + 190), .ref (d + 191), .ref (d + 192), .ref (d + 193), .ref (d + 201), .ref (d + 209), .ref (d + 210), .ref (d + 211), .ref (d + 272), .ref (d + 273), .int 0, .ref (d + 274)])), (d + 81, .inl (aC 6, 12, .inr (.inr (.inr (.inr (zrefs (fun i => d + (7485 + 9 * i)) 12))))))] H := zP_c (hPh 0 _ rfl) (zP_c (hPh 1 _ rfl) (zP_c (hPm 0 _ rfl) (zP_c (hPm 15 _ rfl) (zP_n))))
    have hD : va_D A [(hh, .inr (10, [.ref (bb + 0), .ref (bb + 73), .ref (bb + 75), .ref (bb + 76), .ref (bb + 80), .ref (bb + 81), .ref (bb + 88), .ref (bb + 95), .ref (bb + 100), .ref (bb + 106), .int 0, .ref (bb + 107), .int 0])), (bb + 0, .inl (aC 3, 12, .inr (.inr (.inr (.inr (zrefs (fun i => bb + (1 + 6 * i)) 12)))))), (mm, .inr (15, [.ref (d + 0), .int 0, .ref (d + 1), .int 0, .ref (d + 2), .ref (d + 3), .ref (d + 68), .ref (d + 77), .ref (d + 78), .int 0, .int 0, .ref (d + 79), .int 0, .int 0, .int 0, .ref (d + 80), .int 0, .int 0, .int 0, .int 0, .ref (d + 81), .ref (d + 82), .int (-1), .ref (d + 91), .int 0, .int 0, .ref (d + 92), .int 0, .ref (d + 93), .int 0, .ref (d + 94), .int 0, .ref (d + 95), .ref (d + 96), .ref (d + 97), .ref (d + 98), .int 0, .int 0, .ref (d + 99), .null, .null, .null, .null, .null, .ref (d + 148), .ref (d + 175), .ref (d + 176), .ref (d + 177), .int 0, .ref (d + 178), .ref (d + 179), .ref (d + 180), .ref (d + 185), .ref (d + 190), .ref (d + 191), .ref (d + 192), .ref (d + 193), .ref (d + 201), .ref (d + 209), .ref (d + 210), .ref (d + 211), .ref (d + 272), .ref (d + 273), .int 0, .ref (d + 274)])), (d + 81, .inl (aC 6, 12, .inr (.inr (.inr (.inr (zrefs (fun i => d + (7485 + 9 * i)) 12))))))] := zUp_D (lo := s.heap.size) hA (zUp_c (by omega) (zUp_c (by omega) (zUp_c (by omega) (zUp_c (by omega) (zUp_n)))))
    clear hPh hFh hPm hFm
    refine lv_aload_n hx hb dL_law_521 rfl (lv_at hl 2 rfl) ?_
    refine lv_aload_n hx hb dL_law_522 rfl (lv_at hl 3 rfl) ?_
    refine lv_iload_n hx hb dL_law_523 rfl (lv_at hl 0 rfl) ?_
    refine lv_iconst (v := 1) hx hb dL_law_524 (by decide) ?_
    refine lv_iadd hx hb dL_law_525 ?_
    refine lv_topi (fun y140113 ey140113 => ?_)
    obtain rfl : y140113 = 1 := by rw [ey140113]; decide
    try clear ey140113
    show W p l e _ s m _ below meth c _ _ _ _ QQ (F0 m 526 ls [.int 1, .ref b, .ref hh])
    refine zsld hx hb hX hbl hbA hS (zvp (by decide)) hx1 dL_law_526 ?_
    refine lv_aload_n hx hb dL_law_527 rfl (lv_at hl 3 rfl) ?_
    refine lv_iload_n hx hb dL_law_528 rfl (lv_at hl 0 rfl) ?_
    refine lv_iconst (v := 2) hx hb dL_law_529 (by decide) ?_
    refine lv_iadd hx hb dL_law_530 ?_
    refine lv_topi (fun y140114 ey140114 => ?_)
    obtain rfl : y140114 = 2 := by rw [ey140114]; decide
    try clear ey140114
    show W p l e _ s m _ below meth c _ _ _ _ QQ (F0 m 531 ls [.int 2, .ref b, .int x1, .ref hh])
    refine zsld hx hb hX hbl hbA hS (zvp (by decide)) hx2 dL_law_531 ?_
    refine lv_aload_n hx hb dL_law_532 rfl (lv_at hl 3 rfl) ?_
    refine lv_iload_n hx hb dL_law_533 rfl (lv_at hl 0 rfl) ?_
    refine lv_iconst (v := 3) hx hb dL_law_534 (by decide) ?_
    refine lv_iadd hx hb dL_law_535 ?_
    refine lv_topi (fun y140115 ey140115 => ?_)
    obtain rfl : y140115 = 3 := by rw [ey140115]; decide
    try clear ey140115
    show W p l e _ s m _ below meth c _ _ _ _ QQ (F0 m 536 ls [.int 3, .ref b, .int x2, .int x1, .ref hh])
    refine zsld hx hb hX hbl hbA hS (zvp (by decide)) hx3 dL_law_536 ?_
    refine zro_i hS hA (va_runV (As := [.int x1, .int x2, .int x3]) (rest := []) ⟨hx, hb, hml, hown, hall⟩ (c_X11_factorial_out l dC dI aC hh bb x1 x2 x3 H.size (zslot_0 hk)) (cwV 3 hall (zgV zw_585 zw_587 zw_588 zw_802 g_X11_factorial rfl) rfl rfl rfl (by decide +kernel) ⟨Nat.le_of_ble_eq_true rfl, Nat.le_of_ble_eq_true rfl⟩) (zPre_V (As := [.int x1, .int x2, .int x3]) hK hP hD [0, 1] rfl (by decide +kernel) (ci := 10) (q0 := 0) rfl rfl) rfl rfl hl.1 rfl (lv_room (Nat.le_of_ble_eq_true rfl)) dL_law_537 ⟨Nat.le_of_ble_eq_true rfl, Nat.le_of_ble_eq_true rfl⟩) (fun ra L140116 hw hS' => ?_)
    clear hS
    have hS := hS'
    clear hS'
    have hwa := hw
    clear hw
    refine lv_aload_n hx hb dL_law_540 rfl (lv_at hl 1 rfl) ?_
    refine lv_aload_n hx hb dL_law_541 rfl (lv_at hl 3 rfl) ?_
    refine lv_iload_n hx hb dL_law_542 rfl (lv_at hl 0 rfl) ?_
    show W p l e _ s m _ below meth c _ _ _ _ QQ (F0 m 543 ls [.int 0, .ref b, .ref mm, .int ra])
    refine lv_iconst (v := 1) hx hb dL_law_543 (by decide) ?_
    refine lv_iadd hx hb dL_law_544 ?_
    refine lv_topi (fun y140117 ey140117 => ?_)
    obtain rfl : y140117 = 1 := by rw [ey140117]; decide
    try clear ey140117
    refine zsld hx hb hX hbl hbA hS (zvp (by decide)) hx1 dL_law_545 ?_
    refine lv_aload_n hx hb dL_law_546 rfl (lv_at hl 3 rfl) ?_
    refine lv_iload_n hx hb dL_law_547 rfl (lv_at hl 0 rfl) ?_
    show W p l e _ s m _ below meth c _ _ _ _ QQ (F0 m 548 ls [.int 0, .ref b, .int x1, .ref mm, .int ra])
    refine lv_iconst (v := 2) hx hb dL_law_548 (by decide) ?_
    refine lv_iadd hx hb dL_law_549 ?_
    refine lv_topi (fun y140118 ey140118 => ?_)
    obtain rfl : y140118 = 2 := by rw [ey140118]; decide
    try clear ey140118
    refine zsld hx hb hX hbl hbA hS (zvp (by decide)) hx2 dL_law_550 ?_
    refine lv_aload_n hx hb dL_law_551 rfl (lv_at hl 3 rfl) ?_
    refine lv_iload_n hx hb dL_law_552 rfl (lv_at hl 0 rfl) ?_
    show W p l e _ s m _ below meth c _ _ _ _ QQ (F0 m 553 ls [.int 0, .ref b, .int x2, .int x1, .ref mm, .int ra])
    refine lv_iconst (v := 3) hx hb dL_law_553 (by decide) ?_
    refine lv_iadd hx hb dL_law_554 ?_
    refine lv_topi (fun y140119 ey140119 => ?_)
    obtain rfl : y140119 = 3 := by rw [ey140119]; decide
    try clear ey140119
    refine zsld hx hb hX hbl hbA hS (zvp (by decide)) hx3 dL_law_555 ?_
    refine zro_i hS hA (va_runV (As := [.int x1, .int x2, .int x3]) (rest := [.int ra]) ⟨hx, hb, hml, hown, hall⟩ (c_X16_factorial__out l dC dI aC mm d x1 x2 x3 H.size hk) (cwV 3 hall (zgV zw_589 zw_591 zw_592 zw_812 g_X16_factorial_ rfl) rfl rfl rfl (by decide +kernel) ⟨Nat.le_of_ble_eq_true rfl, Nat.le_of_ble_eq_true rfl⟩) (zPre_V (As := [.int x1, .int x2, .int x3]) hK hP hD [2, 3] rfl (by decide +kernel) (ci := 15) (q0 := 0) rfl rfl) rfl rfl hl.1 rfl (lv_room (Nat.le_of_ble_eq_true rfl)) dL_law_556 ⟨Nat.le_of_ble_eq_true rfl, Nat.le_of_ble_eq_true rfl⟩) (fun rb L140120 hw hS' => ?_)
    clear hS
    have hS := hS'
    clear hS'
    have hwb := hw
    clear hw
    refine lv_icmp_eq (tgt := 1443) hx hb dL_law_559 (by decide) (fun _ => ?_) (fun hne => absurd (hwa.trans hwb.symm) hne)
    subst hQ
    subst hAe
    exact law_tail C1 (Nat.le_of_ble_eq_true rfl) (Nat.le_of_ble_eq_true rfl) hS (lv_sub hl [0, 3] rfl)

set_option maxHeartbeats 4000000 in
set_option maxRecDepth 100000 in
theorem law_work {p : Program} {l : Launch} {e : Env} {s : State} {m : MethodId} {below : List Frame} {meth : Method} {c : Code} {b : Nat} {xs : Nat → Int32} {H : Heap} {locs : List Loc} {ls : Array Slot} {dC : Nat → ClassId} {dI : Nat → Nat → Nat} {aC : Nat → ClassId} {hh bb mm d : Nat} (C0 : lw_At p s m meth c b 6 xs) (hK : zK (dC, dI) aC s) (hR : zReady s H dC dI aC hh bb mm d) (hS : va_S (fun q => s.heap.size ≤ q) s.heap H locs) (hl : lv_has ls 4 [(3, .int 0), (2, .ref mm), (1, .ref hh), (0, .ref b)]) : W p l e room_1 s m #[Value.ref b] below meth c H locs 8431 1660372 (lw_Z below #[Value.ref b] s) (F0 m 564 ls []) := by
  have C1 := C0
  obtain ⟨hx, hb, hr, hml, hown0, hts, hX, hbl, hlocks, hgv⟩ := C0
  obtain ⟨hPh, hFh, hPm, hFm, ez1, ez2, ez3, ez4, hz0⟩ := hR
  have hown : s.vm.findClass RL = some m.cls := hown0
  have hall : ∀ w ∈ zAll, w.before #[Value.ref b] s = true := fun w h => hts w (zAll_in w h)
  have hbA : ¬ (fun q : Nat => s.heap.size ≤ q) b := Nat.not_le.mpr hbl
  generalize hAe : (fun q : Nat => s.heap.size ≤ q) = A at hS hbA
  have hA : ∀ q : Nat, s.heap.size ≤ q → A q := fun q h => by rw [← hAe]; exact h
  generalize hQ : lw_Z below #[Value.ref b] s = QQ
  obtain ⟨x1, hx1⟩ : ∃ y, xs (1 : Int32).toNatClampNeg = y := ⟨_, rfl⟩
  obtain ⟨x2, hx2⟩ : ∃ y, xs (2 : Int32).toNatClampNeg = y := ⟨_, rfl⟩
  obtain ⟨x3, hx3⟩ : ∃ y, xs (3 : Int32).toNatClampNeg = y := ⟨_, rfl⟩
  obtain ⟨x4, hx4⟩ : ∃ y, xs (4 : Int32).toNatClampNeg = y := ⟨_, rfl⟩
  by_cases hk : zok x2 = true
  · obtain ⟨a1, ea1⟩ : ∃ q, q = bb + (1 + 6 * x2.toNatClampNeg) := ⟨_, rfl⟩
    obtain ⟨a2, ea2⟩ : ∃ q, q = d + (7485 + 9 * x2.toNatClampNeg) := ⟨_, rfl⟩
    have hn12 := zok_12 hk
    have hsl : zslot bb x2 = some a1 := by rw [ea1]; exact zslot_1 hk
    have hSl : va_P (dC, dI) vwCl (zSlotW aC a1) H := by rw [ea1]; exact hFh _ hn12
    have hTh : va_P (dC, dI) vwCl (zThW aC a2) H := by rw [ea2]; exact hFm _ hn12
    have hP : va_P (dC, dI) vwCl [(hh, .inr (10, [.ref (bb + 0), .ref (bb + 73), .ref (bb + 75), .ref (bb + 76), .ref (bb + 80), .ref (bb + 81), .ref (bb + 88), .ref (bb + 95), .ref (bb + 100), .ref (bb + 106), .int 0, .ref (bb + 107), .int 0])), (bb + 0, .inl (aC 3, 12, .inr (.inr (.inr (.inr (zrefs (fun i => bb + (1 + 6 * i)) 12)))))), (a1, .inr (5, [.int 0, .int 0, .int 0, .int 0, .int 0, .int 0, .int 0, .ref (a1 + 1), .ref (a1 + 2), .ref (a1 + 3), .ref (a1 + 4), .ref (a1 + 5)])), (mm, .inr (15, [.ref (d + 0), .int 0, .ref (d + 1), .int 0, .ref (d + 2), .ref (d + 3), .ref (d + 68), .ref (d + 77), .ref (d + 78), .int 0, .int 0, .ref (d + 79), .int 0, .int 0, .int 0, .ref (d + 80), .int 0, .int 0, .int 0, .int 0, .ref (d + 81), .ref (d + 82), .int (-1), .ref (d + 91), .int 0, .int 0, .ref (d + 92), .int 0, .ref (d + 93), .int 0, .ref (d + 94), .int 0, .ref (d + 95), .ref (d + 96), .ref (d + 97), .ref (d + 98), .int 0, .int 0, .ref (d + 99), .null, .null, .null, .null, .null, .ref (d + 148), .ref (d + 175), .ref (d + 176), .ref (d + 177), .int 0, .ref (d + 178), .ref (d + 179), .ref (d + 180), .ref (d + 185), .ref (d + 190), .ref (d + 191), .ref (d + 192), .ref (d + 193), .ref (d + 201), .ref (d + 209), .ref (d + 210), .ref (d + 211), .ref (d + 272), .ref (d + 273), .int 0, .ref (d + 274)])), (d + 81, .inl (aC 6, 12, .inr (.inr (.inr (.inr (zrefs (fun i => d + (7485 + 9 * i)) 12)))))), (a2, .inr (13, [.int 0, .ref (a2 + 1 + 0), .ref (a2 + 1 + 1), .int 0, .int 0, .int 0, .ref (a2 + 1 + 2), .ref (a2 + 1 + 3), .ref (a2 + 1 + 4), .ref (a2 + 1 + 5), .int 0, .ref (a2 + 1 + 6), .int 0, .int 0, .ref (a2 + 1 + 7)]))] H := zP_c (hPh 0 _ rfl) (zP_c (hPh 1 _ rfl) (zP_c (hSl 0 _ rfl) (zP_c (hPm 0 _ rfl) (zP_c (hPm 15 _ rfl) (zP_c (hTh 0 _ rfl) (zP_n))))))
    have hD : va_D A [(hh, .inr (10, [.ref (bb + 0), .ref (bb + 73), .ref (bb + 75), .ref (bb + 76), .ref (bb + 80), .ref (bb + 81), .ref (bb + 88), .ref (bb + 95), .ref (bb + 100), .ref (bb + 106), .int 0, .ref (bb + 107), .int 0])), (bb + 0, .inl (aC 3, 12, .inr (.inr (.inr (.inr (zrefs (fun i => bb + (1 + 6 * i)) 12)))))), (a1, .inr (5, [.int 0, .int 0, .int 0, .int 0, .int 0, .int 0, .int 0, .ref (a1 + 1), .ref (a1 + 2), .ref (a1 + 3), .ref (a1 + 4), .ref (a1 + 5)])), (mm, .inr (15, [.ref (d + 0), .int 0, .ref (d + 1), .int 0, .ref (d + 2), .ref (d + 3), .ref (d + 68), .ref (d + 77), .ref (d + 78), .int 0, .int 0, .ref (d + 79), .int 0, .int 0, .int 0, .ref (d + 80), .int 0, .int 0, .int 0, .int 0, .ref (d + 81), .ref (d + 82), .int (-1), .ref (d + 91), .int 0, .int 0, .ref (d + 92), .int 0, .ref (d + 93), .int 0, .ref (d + 94), .int 0, .ref (d + 95), .ref (d + 96), .ref (d + 97), .ref (d + 98), .int 0, .int 0, .ref (d + 99), .null, .null, .null, .null, .null, .ref (d + 148), .ref (d + 175), .ref (d + 176), .ref (d + 177), .int 0, .ref (d + 178), .ref (d + 179), .ref (d + 180), .ref (d + 185), .ref (d + 190), .ref (d + 191), .ref (d + 192), .ref (d + 193), .ref (d + 201), .ref (d + 209), .ref (d + 210), .ref (d + 211), .ref (d + 272), .ref (d + 273), .int 0, .ref (d + 274)])), (d + 81, .inl (aC 6, 12, .inr (.inr (.inr (.inr (zrefs (fun i => d + (7485 + 9 * i)) 12)))))), (a2, .inr (13, [.int 0, .ref (a2 + 1 + 0), .ref (a2 + 1 + 1), .int 0, .int 0, .int 0, .ref (a2 + 1 + 2), .ref (a2 + 1 + 3), .ref (a2 + 1 + 4), .ref (a2 + 1 + 5), .int 0, .ref (a2 + 1 + 6), .int 0, .int 0, .ref (a2 + 1 + 7)]))] := zUp_D (lo := s.heap.size) hA (zUp_c (by omega) (zUp_c (by omega) (zUp_c (by omega) (zUp_c (by omega) (zUp_c (by omega) (zUp_c (by omega) (zUp_n)))))))
    clear hPh hFh hPm hFm hSl hTh
    refine lv_aload_n hx hb dL_law_564 rfl (lv_at hl 2 rfl) ?_
    refine lv_aload_n hx hb dL_law_565 rfl (lv_at hl 3 rfl) ?_
    refine lv_iload_n hx hb dL_law_566 rfl (lv_at hl 0 rfl) ?_
    refine lv_iconst (v := 1) hx hb dL_law_567 (by decide) ?_
    refine lv_iadd hx hb dL_law_568 ?_
    refine lv_topi (fun y140121 ey140121 => ?_)
    obtain rfl : y140121 = 1 := by rw [ey140121]; decide
    try clear ey140121
    show W p l e _ s m _ below meth c _ _ _ _ QQ (F0 m 569 ls [.int 1, .ref b, .ref hh])
    refine zsld hx hb hX hbl hbA hS (zvp (by decide)) hx1 dL_law_569 ?_
    refine lv_aload_n hx hb dL_law_570 rfl (lv_at hl 3 rfl) ?_
    refine lv_iload_n hx hb dL_law_571 rfl (lv_at hl 0 rfl) ?_
    refine lv_iconst (v := 2) hx hb dL_law_572 (by decide) ?_
    refine lv_iadd hx hb dL_law_573 ?_
    refine lv_topi (fun y140122 ey140122 => ?_)
    obtain rfl : y140122 = 2 := by rw [ey140122]; decide
    try clear ey140122
    show W p l e _ s m _ below meth c _ _ _ _ QQ (F0 m 574 ls [.int 2, .ref b, .int x1, .ref hh])
    refine zsld hx hb hX hbl hbA hS (zvp (by decide)) hx2 dL_law_574 ?_
    refine lv_aload_n hx hb dL_law_575 rfl (lv_at hl 3 rfl) ?_
    refine lv_iload_n hx hb dL_law_576 rfl (lv_at hl 0 rfl) ?_
    refine lv_iconst (v := 3) hx hb dL_law_577 (by decide) ?_
    refine lv_iadd hx hb dL_law_578 ?_
    refine lv_topi (fun y140123 ey140123 => ?_)
    obtain rfl : y140123 = 3 := by rw [ey140123]; decide
    try clear ey140123
    show W p l e _ s m _ below meth c _ _ _ _ QQ (F0 m 579 ls [.int 3, .ref b, .int x2, .int x1, .ref hh])
    refine zsld hx hb hX hbl hbA hS (zvp (by decide)) hx3 dL_law_579 ?_
    refine lv_aload_n hx hb dL_law_580 rfl (lv_at hl 3 rfl) ?_
    refine lv_iload_n hx hb dL_law_581 rfl (lv_at hl 0 rfl) ?_
    refine lv_iconst (v := 4) hx hb dL_law_582 (by decide) ?_
    refine lv_iadd hx hb dL_law_583 ?_
    refine lv_topi (fun y140124 ey140124 => ?_)
    obtain rfl : y140124 = 4 := by rw [ey140124]; decide
    try clear ey140124
    show W p l e _ s m _ below meth c _ _ _ _ QQ (F0 m 584 ls [.int 4, .ref b, .int x3, .int x2, .int x1, .ref hh])
    refine zsld hx hb hX hbl hbA hS (zvp (by decide)) hx4 dL_law_584 ?_
    refine zro_i hS hA (va_runV (As := [.int x1, .int x2, .int x3, .int x4]) (rest := []) ⟨hx, hb, hml, hown, hall⟩ (c_X11_work_in l dC dI aC hh bb a1 x1 x2 x3 x4 H.size hsl) (cwV 4 hall (zgV zw_593 zw_595 zw_596 zw_802 g_X11_work rfl) rfl rfl rfl (by decide +kernel) ⟨Nat.le_of_ble_eq_true rfl, Nat.le_of_ble_eq_true rfl⟩) (zPre_V (As := [.int x1, .int x2, .int x3, .int x4]) hK hP hD [0, 1, 2] rfl (by decide +kernel) (ci := 10) (q0 := 0) rfl rfl) rfl rfl hl.1 rfl (lv_room (Nat.le_of_ble_eq_true rfl)) dL_law_585 ⟨Nat.le_of_ble_eq_true rfl, Nat.le_of_ble_eq_true rfl⟩) (fun ra L140125 hw hS' => ?_)
    clear hS
    have hS := hS'
    clear hS'
    have hwa := hw
    clear hw
    refine lv_aload_n hx hb dL_law_588 rfl (lv_at hl 1 rfl) ?_
    refine lv_aload_n hx hb dL_law_589 rfl (lv_at hl 3 rfl) ?_
    refine lv_iload_n hx hb dL_law_590 rfl (lv_at hl 0 rfl) ?_
    show W p l e _ s m _ below meth c _ _ _ _ QQ (F0 m 591 ls [.int 0, .ref b, .ref mm, .int ra])
    refine lv_iconst (v := 1) hx hb dL_law_591 (by decide) ?_
    refine lv_iadd hx hb dL_law_592 ?_
    refine lv_topi (fun y140126 ey140126 => ?_)
    obtain rfl : y140126 = 1 := by rw [ey140126]; decide
    try clear ey140126
    refine zsld hx hb hX hbl hbA hS (zvp (by decide)) hx1 dL_law_593 ?_
    refine lv_aload_n hx hb dL_law_594 rfl (lv_at hl 3 rfl) ?_
    refine lv_iload_n hx hb dL_law_595 rfl (lv_at hl 0 rfl) ?_
    show W p l e _ s m _ below meth c _ _ _ _ QQ (F0 m 596 ls [.int 0, .ref b, .int x1, .ref mm, .int ra])
    refine lv_iconst (v := 2) hx hb dL_law_596 (by decide) ?_
    refine lv_iadd hx hb dL_law_597 ?_
    refine lv_topi (fun y140127 ey140127 => ?_)
    obtain rfl : y140127 = 2 := by rw [ey140127]; decide
    try clear ey140127
    refine zsld hx hb hX hbl hbA hS (zvp (by decide)) hx2 dL_law_598 ?_
    refine lv_aload_n hx hb dL_law_599 rfl (lv_at hl 3 rfl) ?_
    refine lv_iload_n hx hb dL_law_600 rfl (lv_at hl 0 rfl) ?_
    show W p l e _ s m _ below meth c _ _ _ _ QQ (F0 m 601 ls [.int 0, .ref b, .int x2, .int x1, .ref mm, .int ra])
    refine lv_iconst (v := 3) hx hb dL_law_601 (by decide) ?_
    refine lv_iadd hx hb dL_law_602 ?_
    refine lv_topi (fun y140128 ey140128 => ?_)
    obtain rfl : y140128 = 3 := by rw [ey140128]; decide
    try clear ey140128
    refine zsld hx hb hX hbl hbA hS (zvp (by decide)) hx3 dL_law_603 ?_
    refine lv_aload_n hx hb dL_law_604 rfl (lv_at hl 3 rfl) ?_
    refine lv_iload_n hx hb dL_law_605 rfl (lv_at hl 0 rfl) ?_
    show W p l e _ s m _ below meth c _ _ _ _ QQ (F0 m 606 ls [.int 0, .ref b, .int x3, .int x2, .int x1, .ref mm, .int ra])
    refine lv_iconst (v := 4) hx hb dL_law_606 (by decide) ?_
    refine lv_iadd hx hb dL_law_607 ?_
    refine lv_topi (fun y140129 ey140129 => ?_)
    obtain rfl : y140129 = 4 := by rw [ey140129]; decide
    try clear ey140129
    refine zsld hx hb hX hbl hbA hS (zvp (by decide)) hx4 dL_law_608 ?_
    refine zro_i hS hA (va_runV (As := [.int x1, .int x2, .int x3, .int x4]) (rest := [.int ra]) ⟨hx, hb, hml, hown, hall⟩ (c_X16_work_in l dC dI aC mm d a2 x1 x2 x3 x4 H.size hk ea2) (cwV 4 hall (zgV zw_597 zw_599 zw_600 zw_812 g_X16_work rfl) rfl rfl rfl (by decide +kernel) ⟨Nat.le_of_ble_eq_true rfl, Nat.le_of_ble_eq_true rfl⟩) (zPre_V (As := [.int x1, .int x2, .int x3, .int x4]) hK hP hD [3, 4, 5] rfl (by decide +kernel) (ci := 15) (q0 := 0) rfl rfl) rfl rfl hl.1 rfl (lv_room (Nat.le_of_ble_eq_true rfl)) dL_law_609 ⟨Nat.le_of_ble_eq_true rfl, Nat.le_of_ble_eq_true rfl⟩) (fun rb L140130 hw hS' => ?_)
    clear hS
    have hS := hS'
    clear hS'
    have hwb := hw
    clear hw
    refine lv_icmp_eq (tgt := 1443) hx hb dL_law_612 (by decide) (fun _ => ?_) (fun hne => absurd (hwa.trans hwb.symm) hne)
    subst hQ
    subst hAe
    exact law_tail C1 (Nat.le_of_ble_eq_true rfl) (Nat.le_of_ble_eq_true rfl) hS (lv_sub hl [0, 3] rfl)
  · have hP : va_P (dC, dI) vwCl [(hh, .inr (10, [.ref (bb + 0), .ref (bb + 73), .ref (bb + 75), .ref (bb + 76), .ref (bb + 80), .ref (bb + 81), .ref (bb + 88), .ref (bb + 95), .ref (bb + 100), .ref (bb + 106), .int 0, .ref (bb + 107), .int 0])), (bb + 0, .inl (aC 3, 12, .inr (.inr (.inr (.inr (zrefs (fun i => bb + (1 + 6 * i)) 12)))))), (mm, .inr (15, [.ref (d + 0), .int 0, .ref (d + 1), .int 0, .ref (d + 2), .ref (d + 3), .ref (d + 68), .ref (d + 77), .ref (d + 78), .int 0, .int 0, .ref (d + 79), .int 0, .int 0, .int 0, .ref (d + 80), .int 0, .int 0, .int 0, .int 0, .ref (d + 81), .ref (d + 82), .int (-1), .ref (d + 91), .int 0, .int 0, .ref (d + 92), .int 0, .ref (d + 93), .int 0, .ref (d + 94), .int 0, .ref (d + 95), .ref (d + 96), .ref (d + 97), .ref (d + 98), .int 0, .int 0, .ref (d + 99), .null, .null, .null, .null, .null, .ref (d + 148), .ref (d + 175), .ref (d + 176), .ref (d + 177), .int 0, .ref (d + 178), .ref (d + 179), .ref (d + 180), .ref (d + 185), .ref (d + 190), .ref (d + 191), .ref (d + 192), .ref (d + 193), .ref (d + 201), .ref (d + 209), .ref (d + 210), .ref (d + 211), .ref (d + 272), .ref (d + 273), .int 0, .ref (d + 274)])), (d + 81, .inl (aC 6, 12, .inr (.inr (.inr (.inr (zrefs (fun i => d + (7485 + 9 * i)) 12))))))] H := zP_c (hPh 0 _ rfl) (zP_c (hPh 1 _ rfl) (zP_c (hPm 0 _ rfl) (zP_c (hPm 15 _ rfl) (zP_n))))
    have hD : va_D A [(hh, .inr (10, [.ref (bb + 0), .ref (bb + 73), .ref (bb + 75), .ref (bb + 76), .ref (bb + 80), .ref (bb + 81), .ref (bb + 88), .ref (bb + 95), .ref (bb + 100), .ref (bb + 106), .int 0, .ref (bb + 107), .int 0])), (bb + 0, .inl (aC 3, 12, .inr (.inr (.inr (.inr (zrefs (fun i => bb + (1 + 6 * i)) 12)))))), (mm, .inr (15, [.ref (d + 0), .int 0, .ref (d + 1), .int 0, .ref (d + 2), .ref (d + 3), .ref (d + 68), .ref (d + 77), .ref (d + 78), .int 0, .int 0, .ref (d + 79), .int 0, .int 0, .int 0, .ref (d + 80), .int 0, .int 0, .int 0, .int 0, .ref (d + 81), .ref (d + 82), .int (-1), .ref (d + 91), .int 0, .int 0, .ref (d + 92), .int 0, .ref (d + 93), .int 0, .ref (d + 94), .int 0, .ref (d + 95), .ref (d + 96), .ref (d + 97), .ref (d + 98), .int 0, .int 0, .ref (d + 99), .null, .null, .null, .null, .null, .ref (d + 148), .ref (d + 175), .ref (d + 176), .ref (d + 177), .int 0, .ref (d + 178), .ref (d + 179), .ref (d + 180), .ref (d + 185), .ref (d + 190), .ref (d + 191), .ref (d + 192), .ref (d + 193), .ref (d + 201), .ref (d + 209), .ref (d + 210), .ref (d + 211), .ref (d + 272), .ref (d + 273), .int 0, .ref (d + 274)])), (d + 81, .inl (aC 6, 12, .inr (.inr (.inr (.inr (zrefs (fun i => d + (7485 + 9 * i)) 12))))))] := zUp_D (lo := s.heap.size) hA (zUp_c (by omega) (zUp_c (by omega) (zUp_c (by omega) (zUp_c (by omega) (zUp_n)))))
    clear hPh hFh hPm hFm
    refine lv_aload_n hx hb dL_law_564 rfl (lv_at hl 2 rfl) ?_
    refine lv_aload_n hx hb dL_law_565 rfl (lv_at hl 3 rfl) ?_
    refine lv_iload_n hx hb dL_law_566 rfl (lv_at hl 0 rfl) ?_
    refine lv_iconst (v := 1) hx hb dL_law_567 (by decide) ?_
    refine lv_iadd hx hb dL_law_568 ?_
    refine lv_topi (fun y140131 ey140131 => ?_)
    obtain rfl : y140131 = 1 := by rw [ey140131]; decide
    try clear ey140131
    show W p l e _ s m _ below meth c _ _ _ _ QQ (F0 m 569 ls [.int 1, .ref b, .ref hh])
    refine zsld hx hb hX hbl hbA hS (zvp (by decide)) hx1 dL_law_569 ?_
    refine lv_aload_n hx hb dL_law_570 rfl (lv_at hl 3 rfl) ?_
    refine lv_iload_n hx hb dL_law_571 rfl (lv_at hl 0 rfl) ?_
    refine lv_iconst (v := 2) hx hb dL_law_572 (by decide) ?_
    refine lv_iadd hx hb dL_law_573 ?_
    refine lv_topi (fun y140132 ey140132 => ?_)
    obtain rfl : y140132 = 2 := by rw [ey140132]; decide
    try clear ey140132
    show W p l e _ s m _ below meth c _ _ _ _ QQ (F0 m 574 ls [.int 2, .ref b, .int x1, .ref hh])
    refine zsld hx hb hX hbl hbA hS (zvp (by decide)) hx2 dL_law_574 ?_
    refine lv_aload_n hx hb dL_law_575 rfl (lv_at hl 3 rfl) ?_
    refine lv_iload_n hx hb dL_law_576 rfl (lv_at hl 0 rfl) ?_
    refine lv_iconst (v := 3) hx hb dL_law_577 (by decide) ?_
    refine lv_iadd hx hb dL_law_578 ?_
    refine lv_topi (fun y140133 ey140133 => ?_)
    obtain rfl : y140133 = 3 := by rw [ey140133]; decide
    try clear ey140133
    show W p l e _ s m _ below meth c _ _ _ _ QQ (F0 m 579 ls [.int 3, .ref b, .int x2, .int x1, .ref hh])
    refine zsld hx hb hX hbl hbA hS (zvp (by decide)) hx3 dL_law_579 ?_
    refine lv_aload_n hx hb dL_law_580 rfl (lv_at hl 3 rfl) ?_
    refine lv_iload_n hx hb dL_law_581 rfl (lv_at hl 0 rfl) ?_
    refine lv_iconst (v := 4) hx hb dL_law_582 (by decide) ?_
    refine lv_iadd hx hb dL_law_583 ?_
    refine lv_topi (fun y140134 ey140134 => ?_)
    obtain rfl : y140134 = 4 := by rw [ey140134]; decide
    try clear ey140134
    show W p l e _ s m _ below meth c _ _ _ _ QQ (F0 m 584 ls [.int 4, .ref b, .int x3, .int x2, .int x1, .ref hh])
    refine zsld hx hb hX hbl hbA hS (zvp (by decide)) hx4 dL_law_584 ?_
    refine zro_i hS hA (va_runV (As := [.int x1, .int x2, .int x3, .int x4]) (rest := []) ⟨hx, hb, hml, hown, hall⟩ (c_X11_work_out l dC dI aC hh bb x1 x2 x3 x4 H.size (zslot_0 hk)) (cwV 4 hall (zgV zw_593 zw_595 zw_596 zw_802 g_X11_work rfl) rfl rfl rfl (by decide +kernel) ⟨Nat.le_of_ble_eq_true rfl, Nat.le_of_ble_eq_true rfl⟩) (zPre_V (As := [.int x1, .int x2, .int x3, .int x4]) hK hP hD [0, 1] rfl (by decide +kernel) (ci := 10) (q0 := 0) rfl rfl) rfl rfl hl.1 rfl (lv_room (Nat.le_of_ble_eq_true rfl)) dL_law_585 ⟨Nat.le_of_ble_eq_true rfl, Nat.le_of_ble_eq_true rfl⟩) (fun ra L140135 hw hS' => ?_)
    clear hS
    have hS := hS'
    clear hS'
    have hwa := hw
    clear hw
    refine lv_aload_n hx hb dL_law_588 rfl (lv_at hl 1 rfl) ?_
    refine lv_aload_n hx hb dL_law_589 rfl (lv_at hl 3 rfl) ?_
    refine lv_iload_n hx hb dL_law_590 rfl (lv_at hl 0 rfl) ?_
    show W p l e _ s m _ below meth c _ _ _ _ QQ (F0 m 591 ls [.int 0, .ref b, .ref mm, .int ra])
    refine lv_iconst (v := 1) hx hb dL_law_591 (by decide) ?_
    refine lv_iadd hx hb dL_law_592 ?_
    refine lv_topi (fun y140136 ey140136 => ?_)
    obtain rfl : y140136 = 1 := by rw [ey140136]; decide
    try clear ey140136
    refine zsld hx hb hX hbl hbA hS (zvp (by decide)) hx1 dL_law_593 ?_
    refine lv_aload_n hx hb dL_law_594 rfl (lv_at hl 3 rfl) ?_
    refine lv_iload_n hx hb dL_law_595 rfl (lv_at hl 0 rfl) ?_
    show W p l e _ s m _ below meth c _ _ _ _ QQ (F0 m 596 ls [.int 0, .ref b, .int x1, .ref mm, .int ra])
    refine lv_iconst (v := 2) hx hb dL_law_596 (by decide) ?_
    refine lv_iadd hx hb dL_law_597 ?_
    refine lv_topi (fun y140137 ey140137 => ?_)
    obtain rfl : y140137 = 2 := by rw [ey140137]; decide
    try clear ey140137
    refine zsld hx hb hX hbl hbA hS (zvp (by decide)) hx2 dL_law_598 ?_
    refine lv_aload_n hx hb dL_law_599 rfl (lv_at hl 3 rfl) ?_
    refine lv_iload_n hx hb dL_law_600 rfl (lv_at hl 0 rfl) ?_
    show W p l e _ s m _ below meth c _ _ _ _ QQ (F0 m 601 ls [.int 0, .ref b, .int x2, .int x1, .ref mm, .int ra])
    refine lv_iconst (v := 3) hx hb dL_law_601 (by decide) ?_
    refine lv_iadd hx hb dL_law_602 ?_
    refine lv_topi (fun y140138 ey140138 => ?_)
    obtain rfl : y140138 = 3 := by rw [ey140138]; decide
    try clear ey140138
    refine zsld hx hb hX hbl hbA hS (zvp (by decide)) hx3 dL_law_603 ?_
    refine lv_aload_n hx hb dL_law_604 rfl (lv_at hl 3 rfl) ?_
    refine lv_iload_n hx hb dL_law_605 rfl (lv_at hl 0 rfl) ?_
    show W p l e _ s m _ below meth c _ _ _ _ QQ (F0 m 606 ls [.int 0, .ref b, .int x3, .int x2, .int x1, .ref mm, .int ra])
    refine lv_iconst (v := 4) hx hb dL_law_606 (by decide) ?_
    refine lv_iadd hx hb dL_law_607 ?_
    refine lv_topi (fun y140139 ey140139 => ?_)
    obtain rfl : y140139 = 4 := by rw [ey140139]; decide
    try clear ey140139
    refine zsld hx hb hX hbl hbA hS (zvp (by decide)) hx4 dL_law_608 ?_
    refine zro_i hS hA (va_runV (As := [.int x1, .int x2, .int x3, .int x4]) (rest := [.int ra]) ⟨hx, hb, hml, hown, hall⟩ (c_X16_work_out l dC dI aC mm d x1 x2 x3 x4 H.size hk) (cwV 4 hall (zgV zw_597 zw_599 zw_600 zw_812 g_X16_work rfl) rfl rfl rfl (by decide +kernel) ⟨Nat.le_of_ble_eq_true rfl, Nat.le_of_ble_eq_true rfl⟩) (zPre_V (As := [.int x1, .int x2, .int x3, .int x4]) hK hP hD [2, 3] rfl (by decide +kernel) (ci := 15) (q0 := 0) rfl rfl) rfl rfl hl.1 rfl (lv_room (Nat.le_of_ble_eq_true rfl)) dL_law_609 ⟨Nat.le_of_ble_eq_true rfl, Nat.le_of_ble_eq_true rfl⟩) (fun rb L140140 hw hS' => ?_)
    clear hS
    have hS := hS'
    clear hS'
    have hwb := hw
    clear hw
    refine lv_icmp_eq (tgt := 1443) hx hb dL_law_612 (by decide) (fun _ => ?_) (fun hne => absurd (hwa.trans hwb.symm) hne)
    subst hQ
    subst hAe
    exact law_tail C1 (Nat.le_of_ble_eq_true rfl) (Nat.le_of_ble_eq_true rfl) hS (lv_sub hl [0, 3] rfl)

set_option maxHeartbeats 4000000 in
set_option maxRecDepth 100000 in
theorem law_change {p : Program} {l : Launch} {e : Env} {s : State} {m : MethodId} {below : List Frame} {meth : Method} {c : Code} {b : Nat} {xs : Nat → Int32} {H : Heap} {locs : List Loc} {ls : Array Slot} {dC : Nat → ClassId} {dI : Nat → Nat → Nat} {aC : Nat → ClassId} {hh bb mm d : Nat} (C0 : lw_At p s m meth c b 6 xs) (hK : zK (dC, dI) aC s) (hR : zReady s H dC dI aC hh bb mm d) (hS : va_S (fun q => s.heap.size ≤ q) s.heap H locs) (hl : lv_has ls 4 [(3, .int 0), (2, .ref mm), (1, .ref hh), (0, .ref b)]) : W p l e room_1 s m #[Value.ref b] below meth c H locs 8431 1660372 (lw_Z below #[Value.ref b] s) (F0 m 617 ls []) := by
  have C1 := C0
  obtain ⟨hx, hb, hr, hml, hown0, hts, hX, hbl, hlocks, hgv⟩ := C0
  obtain ⟨hPh, hFh, hPm, hFm, ez1, ez2, ez3, ez4, hz0⟩ := hR
  have hown : s.vm.findClass RL = some m.cls := hown0
  have hall : ∀ w ∈ zAll, w.before #[Value.ref b] s = true := fun w h => hts w (zAll_in w h)
  have hbA : ¬ (fun q : Nat => s.heap.size ≤ q) b := Nat.not_le.mpr hbl
  generalize hAe : (fun q : Nat => s.heap.size ≤ q) = A at hS hbA
  have hA : ∀ q : Nat, s.heap.size ≤ q → A q := fun q h => by rw [← hAe]; exact h
  generalize hQ : lw_Z below #[Value.ref b] s = QQ
  obtain ⟨x1, hx1⟩ : ∃ y, xs (1 : Int32).toNatClampNeg = y := ⟨_, rfl⟩
  obtain ⟨x2, hx2⟩ : ∃ y, xs (2 : Int32).toNatClampNeg = y := ⟨_, rfl⟩
  obtain ⟨x3, hx3⟩ : ∃ y, xs (3 : Int32).toNatClampNeg = y := ⟨_, rfl⟩
  obtain ⟨x4, hx4⟩ : ∃ y, xs (4 : Int32).toNatClampNeg = y := ⟨_, rfl⟩
  by_cases hk : zok x2 = true
  · by_cases h4 : zok x4 = true ∧ x1 = 10
    · obtain ⟨h4a, rfl⟩ := h4
      have hk2 := hk
      clear hk
      have hk := h4a
      obtain ⟨a1, ea1⟩ : ∃ q, q = bb + (1 + 6 * x4.toNatClampNeg) := ⟨_, rfl⟩
      obtain ⟨a2, ea2⟩ : ∃ q, q = d + (7485 + 9 * x4.toNatClampNeg) := ⟨_, rfl⟩
      have hn12 := zok_12 hk
      have hsl : zslot bb x4 = some a1 := by rw [ea1]; exact zslot_1 hk
      have hSl : va_P (dC, dI) vwCl (zSlotW aC a1) H := by rw [ea1]; exact hFh _ hn12
      have hTh : va_P (dC, dI) vwCl (zThW aC a2) H := by rw [ea2]; exact hFm _ hn12
      have hP : va_P (dC, dI) vwCl [(hh, .inr (10, [.ref (bb + 0), .ref (bb + 73), .ref (bb + 75), .ref (bb + 76), .ref (bb + 80), .ref (bb + 81), .ref (bb + 88), .ref (bb + 95), .ref (bb + 100), .ref (bb + 106), .int 0, .ref (bb + 107), .int 0])), (bb + 0, .inl (aC 3, 12, .inr (.inr (.inr (.inr (zrefs (fun i => bb + (1 + 6 * i)) 12)))))), (a1, .inr (5, [.int 0, .int 0, .int 0, .int 0, .int 0, .int 0, .int 0, .ref (a1 + 1), .ref (a1 + 2), .ref (a1 + 3), .ref (a1 + 4), .ref (a1 + 5)])), (a1 + 1, .inl (aC 0, 48, .inl (fun _ => 0))), (a1 + 2, .inl (aC 0, 327, .inl (fun _ => 0))), (a1 + 3, .inl (aC 0, 327, .inl (fun _ => 0))), (bb + 73, .inr (3, [.ref (bb + 74), .int 2048, .int 0])), (bb + 74, .inl (aC 0, 131072, .inl (fun _ => 0))), (bb + 75, .inr (1, [.ref (bb + 73)])), (bb + 80, .inr (2, [.ref (bb + 73), .ref (bb + 75), .ref (bb + 76)])), (bb + 81, .inr (8, [.ref (bb + 73), .ref (bb + 75), .ref (bb + 76), .ref (bb + 80), .ref (bb + 82), .ref (bb + 83), .int 0, .int 0])), (mm, .inr (15, [.ref (d + 0), .int 0, .ref (d + 1), .int 0, .ref (d + 2), .ref (d + 3), .ref (d + 68), .ref (d + 77), .ref (d + 78), .int 0, .int 0, .ref (d + 79), .int 0, .int 0, .int 0, .ref (d + 80), .int 0, .int 0, .int 0, .int 0, .ref (d + 81), .ref (d + 82), .int (-1), .ref (d + 91), .int 0, .int 0, .ref (d + 92), .int 0, .ref (d + 93), .int 0, .ref (d + 94), .int 0, .ref (d + 95), .ref (d + 96), .ref (d + 97), .ref (d + 98), .int 0, .int 0, .ref (d + 99), .null, .null, .null, .null, .null, .ref (d + 148), .ref (d + 175), .ref (d + 176), .ref (d + 177), .int 0, .ref (d + 178), .ref (d + 179), .ref (d + 180), .ref (d + 185), .ref (d + 190), .ref (d + 191), .ref (d + 192), .ref (d + 193), .ref (d + 201), .ref (d + 209), .ref (d + 210), .ref (d + 211), .ref (d + 272), .ref (d + 273), .int 0, .ref (d + 274)])), (d + 1, .inl (aC 5, 44, .inr (.inr (.inr (.inr (zrefs (fun i => d + (595 + 130 * i)) 44)))))), (d + 81, .inl (aC 6, 12, .inr (.inr (.inr (.inr (zrefs (fun i => d + (7485 + 9 * i)) 12)))))), (d + 82, .inr (13, [.int 0, .ref (d + 83), .ref (d + 84), .int 0, .int 0, .int 0, .ref (d + 85), .ref (d + 86), .ref (d + 87), .ref (d + 88), .int 0, .ref (d + 89), .int 0, .int 0, .ref (d + 90)])), (d + 83, .inl (aC 0, 325, .inl (fun _ => 0))), (d + 84, .inl (aC 0, 325, .inl (fun _ => 0))), (d + 85, .inl (aC 0, 13, .inl (fun _ => 0))), (d + 86, .inl (aC 0, 13, .inl (fun _ => 0))), (d + 87, .inl (aC 0, 13, .inl (fun _ => 0))), (d + 88, .inl (aC 0, 13, .inl (fun _ => 0))), (d + 89, .inl (aC 0, 175, .inl (fun _ => 0))), (d + 90, .inl (aC 0, 361, .inl (fun _ => 0))), (d + 595, .inr (11, [.ref (d + 596), .int 0])), (d + 596, .inl (aC 4, 64, .inr (.inr (.inr (.inr (zrefs (fun zj => (d + 596) + (1 + 2 * zj)) 64)))))), (d + 597, .inr (14, [.ref (d + 598), .int 0])), (d + 598, .inl (aC 0, 200, .inl (fun _ => 0))), (d + 725, .inr (11, [.ref (d + 726), .int 0])), (d + 726, .inl (aC 4, 64, .inr (.inr (.inr (.inr (zrefs (fun zj => (d + 726) + (1 + 2 * zj)) 64)))))), (d + 727, .inr (14, [.ref (d + 728), .int 0])), (d + 728, .inl (aC 0, 200, .inl (fun _ => 0))), (a2, .inr (13, [.int 0, .ref (a2 + 1), .ref (a2 + 2), .int 0, .int 0, .int 0, .ref (a2 + 3), .ref (a2 + 4), .ref (a2 + 5), .ref (a2 + 6), .int 0, .ref (a2 + 7), .int 0, .int 0, .ref (a2 + 8)])), (a2 + 1, .inl (aC 0, 325, .inl (fun _ => 0))), (a2 + 2, .inl (aC 0, 325, .inl (fun _ => 0))), (a2 + 3, .inl (aC 0, 13, .inl (fun _ => 0))), (a2 + 4, .inl (aC 0, 13, .inl (fun _ => 0))), (a2 + 5, .inl (aC 0, 13, .inl (fun _ => 0))), (a2 + 6, .inl (aC 0, 13, .inl (fun _ => 0))), (a2 + 7, .inl (aC 0, 175, .inl (fun _ => 0))), (a2 + 8, .inl (aC 0, 361, .inl (fun _ => 0)))] H := zP_c (hPh 0 _ rfl) (zP_c (hPh 1 _ rfl) (zP_c (hSl 0 _ rfl) (zP_c (hSl 1 _ rfl) (zP_c (hSl 2 _ rfl) (zP_c (hSl 3 _ rfl) (zP_c (hPh 2 _ rfl) (zP_c (hPh 3 _ rfl) (zP_c (hPh 4 _ rfl) (zP_c (hPh 5 _ rfl) (zP_c (hPh 6 _ rfl) (zP_c (hPm 0 _ rfl) (zP_c (hPm 14 _ rfl) (zP_c (hPm 15 _ rfl) (zP_c (hPm 3 _ rfl) (zP_c (hPm 4 _ rfl) (zP_c (hPm 5 _ rfl) (zP_c (hPm 6 _ rfl) (zP_c (hPm 7 _ rfl) (zP_c (hPm 8 _ rfl) (zP_c (hPm 9 _ rfl) (zP_c (hPm 10 _ rfl) (zP_c (hPm 11 _ rfl) (zP_c (hPm 16 _ rfl) (zP_c (hPm 17 _ rfl) (zP_c (hPm 18 _ rfl) (zP_c (hPm 19 _ rfl) (zP_c (hPm 20 _ rfl) (zP_c (hPm 21 _ rfl) (zP_c (hPm 22 _ rfl) (zP_c (hPm 23 _ rfl) (zP_c (hTh 0 _ rfl) (zP_c (hTh 1 _ rfl) (zP_c (hTh 2 _ rfl) (zP_c (hTh 3 _ rfl) (zP_c (hTh 4 _ rfl) (zP_c (hTh 5 _ rfl) (zP_c (hTh 6 _ rfl) (zP_c (hTh 7 _ rfl) (zP_c (hTh 8 _ rfl) (zP_n))))))))))))))))))))))))))))))))))))))))
      have hD : va_D A [(hh, .inr (10, [.ref (bb + 0), .ref (bb + 73), .ref (bb + 75), .ref (bb + 76), .ref (bb + 80), .ref (bb + 81), .ref (bb + 88), .ref (bb + 95), .ref (bb + 100), .ref (bb + 106), .int 0, .ref (bb + 107), .int 0])), (bb + 0, .inl (aC 3, 12, .inr (.inr (.inr (.inr (zrefs (fun i => bb + (1 + 6 * i)) 12)))))), (a1, .inr (5, [.int 0, .int 0, .int 0, .int 0, .int 0, .int 0, .int 0, .ref (a1 + 1), .ref (a1 + 2), .ref (a1 + 3), .ref (a1 + 4), .ref (a1 + 5)])), (a1 + 1, .inl (aC 0, 48, .inl (fun _ => 0))), (a1 + 2, .inl (aC 0, 327, .inl (fun _ => 0))), (a1 + 3, .inl (aC 0, 327, .inl (fun _ => 0))), (bb + 73, .inr (3, [.ref (bb + 74), .int 2048, .int 0])), (bb + 74, .inl (aC 0, 131072, .inl (fun _ => 0))), (bb + 75, .inr (1, [.ref (bb + 73)])), (bb + 80, .inr (2, [.ref (bb + 73), .ref (bb + 75), .ref (bb + 76)])), (bb + 81, .inr (8, [.ref (bb + 73), .ref (bb + 75), .ref (bb + 76), .ref (bb + 80), .ref (bb + 82), .ref (bb + 83), .int 0, .int 0])), (mm, .inr (15, [.ref (d + 0), .int 0, .ref (d + 1), .int 0, .ref (d + 2), .ref (d + 3), .ref (d + 68), .ref (d + 77), .ref (d + 78), .int 0, .int 0, .ref (d + 79), .int 0, .int 0, .int 0, .ref (d + 80), .int 0, .int 0, .int 0, .int 0, .ref (d + 81), .ref (d + 82), .int (-1), .ref (d + 91), .int 0, .int 0, .ref (d + 92), .int 0, .ref (d + 93), .int 0, .ref (d + 94), .int 0, .ref (d + 95), .ref (d + 96), .ref (d + 97), .ref (d + 98), .int 0, .int 0, .ref (d + 99), .null, .null, .null, .null, .null, .ref (d + 148), .ref (d + 175), .ref (d + 176), .ref (d + 177), .int 0, .ref (d + 178), .ref (d + 179), .ref (d + 180), .ref (d + 185), .ref (d + 190), .ref (d + 191), .ref (d + 192), .ref (d + 193), .ref (d + 201), .ref (d + 209), .ref (d + 210), .ref (d + 211), .ref (d + 272), .ref (d + 273), .int 0, .ref (d + 274)])), (d + 1, .inl (aC 5, 44, .inr (.inr (.inr (.inr (zrefs (fun i => d + (595 + 130 * i)) 44)))))), (d + 81, .inl (aC 6, 12, .inr (.inr (.inr (.inr (zrefs (fun i => d + (7485 + 9 * i)) 12)))))), (d + 82, .inr (13, [.int 0, .ref (d + 83), .ref (d + 84), .int 0, .int 0, .int 0, .ref (d + 85), .ref (d + 86), .ref (d + 87), .ref (d + 88), .int 0, .ref (d + 89), .int 0, .int 0, .ref (d + 90)])), (d + 83, .inl (aC 0, 325, .inl (fun _ => 0))), (d + 84, .inl (aC 0, 325, .inl (fun _ => 0))), (d + 85, .inl (aC 0, 13, .inl (fun _ => 0))), (d + 86, .inl (aC 0, 13, .inl (fun _ => 0))), (d + 87, .inl (aC 0, 13, .inl (fun _ => 0))), (d + 88, .inl (aC 0, 13, .inl (fun _ => 0))), (d + 89, .inl (aC 0, 175, .inl (fun _ => 0))), (d + 90, .inl (aC 0, 361, .inl (fun _ => 0))), (d + 595, .inr (11, [.ref (d + 596), .int 0])), (d + 596, .inl (aC 4, 64, .inr (.inr (.inr (.inr (zrefs (fun zj => (d + 596) + (1 + 2 * zj)) 64)))))), (d + 597, .inr (14, [.ref (d + 598), .int 0])), (d + 598, .inl (aC 0, 200, .inl (fun _ => 0))), (d + 725, .inr (11, [.ref (d + 726), .int 0])), (d + 726, .inl (aC 4, 64, .inr (.inr (.inr (.inr (zrefs (fun zj => (d + 726) + (1 + 2 * zj)) 64)))))), (d + 727, .inr (14, [.ref (d + 728), .int 0])), (d + 728, .inl (aC 0, 200, .inl (fun _ => 0))), (a2, .inr (13, [.int 0, .ref (a2 + 1), .ref (a2 + 2), .int 0, .int 0, .int 0, .ref (a2 + 3), .ref (a2 + 4), .ref (a2 + 5), .ref (a2 + 6), .int 0, .ref (a2 + 7), .int 0, .int 0, .ref (a2 + 8)])), (a2 + 1, .inl (aC 0, 325, .inl (fun _ => 0))), (a2 + 2, .inl (aC 0, 325, .inl (fun _ => 0))), (a2 + 3, .inl (aC 0, 13, .inl (fun _ => 0))), (a2 + 4, .inl (aC 0, 13, .inl (fun _ => 0))), (a2 + 5, .inl (aC 0, 13, .inl (fun _ => 0))), (a2 + 6, .inl (aC 0, 13, .inl (fun _ => 0))), (a2 + 7, .inl (aC 0, 175, .inl (fun _ => 0))), (a2 + 8, .inl (aC 0, 361, .inl (fun _ => 0)))] := zUp_D (lo := s.heap.size) hA (zUp_c (by omega) (zUp_c (by omega) (zUp_c (by omega) (zUp_c (by omega) (zUp_c (by omega) (zUp_c (by omega) (zUp_c (by omega) (zUp_c (by omega) (zUp_c (by omega) (zUp_c (by omega) (zUp_c (by omega) (zUp_c (by omega) (zUp_c (by omega) (zUp_c (by omega) (zUp_c (by omega) (zUp_c (by omega) (zUp_c (by omega) (zUp_c (by omega) (zUp_c (by omega) (zUp_c (by omega) (zUp_c (by omega) (zUp_c (by omega) (zUp_c (by omega) (zUp_c (by omega) (zUp_c (by omega) (zUp_c (by omega) (zUp_c (by omega) (zUp_c (by omega) (zUp_c (by omega) (zUp_c (by omega) (zUp_c (by omega) (zUp_c (by omega) (zUp_c (by omega) (zUp_c (by omega) (zUp_c (by omega) (zUp_c (by omega) (zUp_c (by omega) (zUp_c (by omega) (zUp_c (by omega) (zUp_c (by omega) (zUp_n)))))))))))))))))))))))))))))))))))))))))
      clear hPh hFh hPm hFm hSl hTh
      refine lv_aload_n hx hb dL_law_617 rfl (lv_at hl 2 rfl) ?_
      refine lv_aload_n hx hb dL_law_618 rfl (lv_at hl 3 rfl) ?_
      refine lv_iload_n hx hb dL_law_619 rfl (lv_at hl 0 rfl) ?_
      refine lv_iconst (v := 1) hx hb dL_law_620 (by decide) ?_
      refine lv_iadd hx hb dL_law_621 ?_
      refine lv_topi (fun y140141 ey140141 => ?_)
      obtain rfl : y140141 = 1 := by rw [ey140141]; decide
      try clear ey140141
      show W p l e _ s m _ below meth c _ _ _ _ QQ (F0 m 622 ls [.int 1, .ref b, .ref hh])
      refine zsld hx hb hX hbl hbA hS (zvp (by decide)) hx1 dL_law_622 ?_
      refine lv_aload_n hx hb dL_law_623 rfl (lv_at hl 3 rfl) ?_
      refine lv_iload_n hx hb dL_law_624 rfl (lv_at hl 0 rfl) ?_
      refine lv_iconst (v := 2) hx hb dL_law_625 (by decide) ?_
      refine lv_iadd hx hb dL_law_626 ?_
      refine lv_topi (fun y140142 ey140142 => ?_)
      obtain rfl : y140142 = 2 := by rw [ey140142]; decide
      try clear ey140142
      show W p l e _ s m _ below meth c _ _ _ _ QQ (F0 m 627 ls [.int 2, .ref b, .int 10, .ref hh])
      refine zsld hx hb hX hbl hbA hS (zvp (by decide)) hx2 dL_law_627 ?_
      refine lv_aload_n hx hb dL_law_628 rfl (lv_at hl 3 rfl) ?_
      refine lv_iload_n hx hb dL_law_629 rfl (lv_at hl 0 rfl) ?_
      refine lv_iconst (v := 3) hx hb dL_law_630 (by decide) ?_
      refine lv_iadd hx hb dL_law_631 ?_
      refine lv_topi (fun y140143 ey140143 => ?_)
      obtain rfl : y140143 = 3 := by rw [ey140143]; decide
      try clear ey140143
      show W p l e _ s m _ below meth c _ _ _ _ QQ (F0 m 632 ls [.int 3, .ref b, .int x2, .int 10, .ref hh])
      refine zsld hx hb hX hbl hbA hS (zvp (by decide)) hx3 dL_law_632 ?_
      refine lv_aload_n hx hb dL_law_633 rfl (lv_at hl 3 rfl) ?_
      refine lv_iload_n hx hb dL_law_634 rfl (lv_at hl 0 rfl) ?_
      refine lv_iconst (v := 4) hx hb dL_law_635 (by decide) ?_
      refine lv_iadd hx hb dL_law_636 ?_
      refine lv_topi (fun y140144 ey140144 => ?_)
      obtain rfl : y140144 = 4 := by rw [ey140144]; decide
      try clear ey140144
      show W p l e _ s m _ below meth c _ _ _ _ QQ (F0 m 637 ls [.int 4, .ref b, .int x3, .int x2, .int 10, .ref hh])
      refine zsld hx hb hX hbl hbA hS (zvp (by decide)) hx4 dL_law_637 ?_
      refine zrw_i (f := fun _ => False) (B := fun _ _ => True) (k := 0) (wr := [(mm, .inr (15, [.ref (d + 0), .int 0, .ref (d + 1), .int 0, .ref (d + 2), .ref (d + 3), .ref (d + 68), .ref (d + 77), .ref (d + 78), .int 0, .int 0, .ref (d + 79), .int 0, .int 0, .int 0, .ref (d + 80), .int 0, .int 0, .int 0, .int 0, .ref (d + 81), .ref (d + 82), .int (-1), .ref (d + 91), .int 0, .int 0, .ref (d + 92), .int 0, .ref (d + 93), .int 0, .ref (d + 94), .int 0, .ref (d + 95), .ref (d + 96), .ref (d + 97), .ref (d + 98), .int 0, .int 0, .ref (d + 99), .null, .null, .null, .null, .null, .ref (d + 148), .ref (d + 175), .ref (d + 176), .ref (d + 177), .int 0, .ref (d + 178), .ref (d + 179), .ref (d + 180), .ref (d + 185), .ref (d + 190), .ref (d + 191), .ref (d + 192), .ref (d + 193), .ref (d + 201), .ref (d + 209), .ref (d + 210), .ref (d + 211), .ref (d + 272), .ref (d + 273), .int 0, .ref (d + 274)])), (d + 1, .inl (aC 5, 44, .inr (.inr (.inr (.inr (zrefs (fun i => d + (595 + 130 * i)) 44)))))), (d + 81, .inl (aC 6, 12, .inr (.inr (.inr (.inr (zrefs (fun i => d + (7485 + 9 * i)) 12)))))), (d + 82, .inr (13, [.int 0, .ref (d + 83), .ref (d + 84), .int 0, .int 0, .int 0, .ref (d + 85), .ref (d + 86), .ref (d + 87), .ref (d + 88), .int 0, .ref (d + 89), .int 0, .int 0, .ref (d + 90)])), (d + 83, .inl (aC 0, 325, .inl (fun _ => 0))), (d + 84, .inl (aC 0, 325, .inl (fun _ => 0))), (d + 85, .inl (aC 0, 13, .inl (fun _ => 0))), (d + 86, .inl (aC 0, 13, .inl (fun _ => 0))), (d + 87, .inl (aC 0, 13, .inl (fun _ => 0))), (d + 88, .inl (aC 0, 13, .inl (fun _ => 0))), (d + 89, .inl (aC 0, 175, .inl (fun _ => 0))), (d + 90, .inl (aC 0, 361, .inl (fun _ => 0))), (d + 595, .inr (11, [.ref (d + 596), .int 0])), (d + 596, .inl (aC 4, 64, .inr (.inr (.inr (.inr (zrefs (fun zj => (d + 596) + (1 + 2 * zj)) 64)))))), (d + 597, .inr (14, [.ref (d + 598), .int 0])), (d + 598, .inl (aC 0, 200, .inl (fun _ => 0))), (d + 725, .inr (11, [.ref (d + 726), .int 0])), (d + 726, .inl (aC 4, 64, .inr (.inr (.inr (.inr (zrefs (fun zj => (d + 726) + (1 + 2 * zj)) 64)))))), (d + 727, .inr (14, [.ref (d + 728), .int 0])), (d + 728, .inl (aC 0, 200, .inl (fun _ => 0))), (a2, .inr (13, [.int 0, .ref (a2 + 1), .ref (a2 + 2), .int 0, .int 0, .int 0, .ref (a2 + 3), .ref (a2 + 4), .ref (a2 + 5), .ref (a2 + 6), .int 0, .ref (a2 + 7), .int 0, .int 0, .ref (a2 + 8)])), (a2 + 1, .inl (aC 0, 325, .inl (fun _ => 0))), (a2 + 2, .inl (aC 0, 325, .inl (fun _ => 0))), (a2 + 3, .inl (aC 0, 13, .inl (fun _ => 0))), (a2 + 4, .inl (aC 0, 13, .inl (fun _ => 0))), (a2 + 5, .inl (aC 0, 13, .inl (fun _ => 0))), (a2 + 6, .inl (aC 0, 13, .inl (fun _ => 0))), (a2 + 7, .inl (aC 0, 175, .inl (fun _ => 0))), (a2 + 8, .inl (aC 0, 361, .inl (fun _ => 0)))]) (wc := [(hh, .inr (10, [.ref (bb + 0), .ref (bb + 73), .ref (bb + 75), .ref (bb + 76), .ref (bb + 80), .ref (bb + 81), .ref (bb + 88), .ref (bb + 95), .ref (bb + 100), .ref (bb + 106), .int 0, .ref (bb + 107), .int 0])), (bb + 0, .inl (aC 3, 12, .inr (.inr (.inr (.inr (zrefs (fun i => bb + (1 + 6 * i)) 12)))))), (bb + 81, .inr (8, [.ref (bb + 73), .ref (bb + 75), .ref (bb + 76), .ref (bb + 80), .ref (bb + 82), .ref (bb + 83), .int 0, .int 0])), (bb + 75, .inr (1, [.ref (bb + 73)])), (bb + 80, .inr (2, [.ref (bb + 73), .ref (bb + 75), .ref (bb + 76)])), (bb + 73, .inr (3, [.ref (bb + 74), .int 2048, .int 0])), (bb + 74, .inl (aC 0, 131072, .inl (fun _ => 0))), (a1, .inr (5, [.int 0, .int 0, .int 0, .int 0, .int 0, .int 0, .int 0, .ref (a1 + 1), .ref (a1 + 2), .ref (a1 + 3), .ref (a1 + 4), .ref (a1 + 5)])), (a1 + 1, .inl (aC 0, 48, .inl (fun _ => 0))), (a1 + 2, .inl (aC 0, 327, .inl (fun _ => 0))), (a1 + 3, .inl (aC 0, 327, .inl (fun _ => 0)))]) (w1 := fun _ => []) hP hD hS hA [0, 1, 10, 8, 9, 6, 7, 2, 3, 4, 5] [11, 12, 13, 14, 15, 16, 17, 18, 19, 20, 21, 22, 23, 24, 25, 26, 27, 28, 29, 30, 31, 32, 33, 34, 35, 36, 37, 38, 39] rfl rfl (by decide +kernel) (by decide +kernel) (va_runV (As := [.int 10, .int x2, .int x3, .int x4]) (rest := []) ⟨hx, hb, hml, hown, hall⟩ (c_X11_change_ten l dC dI aC hh bb a1 x2 x3 x4 H.size hsl hk2) (cwV 4 hall (zgV zw_601 zw_603 zw_604 zw_802 g_X11_change rfl) rfl rfl rfl (by decide +kernel) ⟨Nat.le_of_ble_eq_true rfl, Nat.le_of_ble_eq_true rfl⟩) (zPre_V (As := [.int 10, .int x2, .int x3, .int x4]) hK hP hD [0, 1, 10, 8, 9, 6, 7, 2, 3, 4, 5] rfl (by decide +kernel) (ci := 10) (q0 := 0) rfl rfl) rfl rfl hl.1 rfl (lv_room (Nat.le_of_ble_eq_true rfl)) dL_law_638 ⟨Nat.le_of_ble_eq_true rfl, Nat.le_of_ble_eq_true rfl⟩) (fun ra u H140145 L140146 hw hz hk hP' hD' hS' => ?_)
      try rw [hz0] at hP'
      try rw [hz0] at hD'
      rw [hz0] at hz
      replace hz0 : H140145.size = s.heap.size + 8431 := by omega
      clear hz
      clear hP hD hS hk
      have hP : va_P (dC, dI) vwCl [(mm, .inr (15, [.ref (d + 0), .int 0, .ref (d + 1), .int 0, .ref (d + 2), .ref (d + 3), .ref (d + 68), .ref (d + 77), .ref (d + 78), .int 0, .int 0, .ref (d + 79), .int 0, .int 0, .int 0, .ref (d + 80), .int 0, .int 0, .int 0, .int 0, .ref (d + 81), .ref (d + 82), .int (-1), .ref (d + 91), .int 0, .int 0, .ref (d + 92), .int 0, .ref (d + 93), .int 0, .ref (d + 94), .int 0, .ref (d + 95), .ref (d + 96), .ref (d + 97), .ref (d + 98), .int 0, .int 0, .ref (d + 99), .null, .null, .null, .null, .null, .ref (d + 148), .ref (d + 175), .ref (d + 176), .ref (d + 177), .int 0, .ref (d + 178), .ref (d + 179), .ref (d + 180), .ref (d + 185), .ref (d + 190), .ref (d + 191), .ref (d + 192), .ref (d + 193), .ref (d + 201), .ref (d + 209), .ref (d + 210), .ref (d + 211), .ref (d + 272), .ref (d + 273), .int 0, .ref (d + 274)])), (d + 1, .inl (aC 5, 44, .inr (.inr (.inr (.inr (zrefs (fun i => d + (595 + 130 * i)) 44)))))), (d + 81, .inl (aC 6, 12, .inr (.inr (.inr (.inr (zrefs (fun i => d + (7485 + 9 * i)) 12)))))), (d + 82, .inr (13, [.int 0, .ref (d + 83), .ref (d + 84), .int 0, .int 0, .int 0, .ref (d + 85), .ref (d + 86), .ref (d + 87), .ref (d + 88), .int 0, .ref (d + 89), .int 0, .int 0, .ref (d + 90)])), (d + 83, .inl (aC 0, 325, .inl (fun _ => 0))), (d + 84, .inl (aC 0, 325, .inl (fun _ => 0))), (d + 85, .inl (aC 0, 13, .inl (fun _ => 0))), (d + 86, .inl (aC 0, 13, .inl (fun _ => 0))), (d + 87, .inl (aC 0, 13, .inl (fun _ => 0))), (d + 88, .inl (aC 0, 13, .inl (fun _ => 0))), (d + 89, .inl (aC 0, 175, .inl (fun _ => 0))), (d + 90, .inl (aC 0, 361, .inl (fun _ => 0))), (d + 595, .inr (11, [.ref (d + 596), .int 0])), (d + 596, .inl (aC 4, 64, .inr (.inr (.inr (.inr (zrefs (fun zj => (d + 596) + (1 + 2 * zj)) 64)))))), (d + 597, .inr (14, [.ref (d + 598), .int 0])), (d + 598, .inl (aC 0, 200, .inl (fun _ => 0))), (d + 725, .inr (11, [.ref (d + 726), .int 0])), (d + 726, .inl (aC 4, 64, .inr (.inr (.inr (.inr (zrefs (fun zj => (d + 726) + (1 + 2 * zj)) 64)))))), (d + 727, .inr (14, [.ref (d + 728), .int 0])), (d + 728, .inl (aC 0, 200, .inl (fun _ => 0))), (a2, .inr (13, [.int 0, .ref (a2 + 1), .ref (a2 + 2), .int 0, .int 0, .int 0, .ref (a2 + 3), .ref (a2 + 4), .ref (a2 + 5), .ref (a2 + 6), .int 0, .ref (a2 + 7), .int 0, .int 0, .ref (a2 + 8)])), (a2 + 1, .inl (aC 0, 325, .inl (fun _ => 0))), (a2 + 2, .inl (aC 0, 325, .inl (fun _ => 0))), (a2 + 3, .inl (aC 0, 13, .inl (fun _ => 0))), (a2 + 4, .inl (aC 0, 13, .inl (fun _ => 0))), (a2 + 5, .inl (aC 0, 13, .inl (fun _ => 0))), (a2 + 6, .inl (aC 0, 13, .inl (fun _ => 0))), (a2 + 7, .inl (aC 0, 175, .inl (fun _ => 0))), (a2 + 8, .inl (aC 0, 361, .inl (fun _ => 0)))] H140145 := hP'
      have hD : va_D A [(mm, .inr (15, [.ref (d + 0), .int 0, .ref (d + 1), .int 0, .ref (d + 2), .ref (d + 3), .ref (d + 68), .ref (d + 77), .ref (d + 78), .int 0, .int 0, .ref (d + 79), .int 0, .int 0, .int 0, .ref (d + 80), .int 0, .int 0, .int 0, .int 0, .ref (d + 81), .ref (d + 82), .int (-1), .ref (d + 91), .int 0, .int 0, .ref (d + 92), .int 0, .ref (d + 93), .int 0, .ref (d + 94), .int 0, .ref (d + 95), .ref (d + 96), .ref (d + 97), .ref (d + 98), .int 0, .int 0, .ref (d + 99), .null, .null, .null, .null, .null, .ref (d + 148), .ref (d + 175), .ref (d + 176), .ref (d + 177), .int 0, .ref (d + 178), .ref (d + 179), .ref (d + 180), .ref (d + 185), .ref (d + 190), .ref (d + 191), .ref (d + 192), .ref (d + 193), .ref (d + 201), .ref (d + 209), .ref (d + 210), .ref (d + 211), .ref (d + 272), .ref (d + 273), .int 0, .ref (d + 274)])), (d + 1, .inl (aC 5, 44, .inr (.inr (.inr (.inr (zrefs (fun i => d + (595 + 130 * i)) 44)))))), (d + 81, .inl (aC 6, 12, .inr (.inr (.inr (.inr (zrefs (fun i => d + (7485 + 9 * i)) 12)))))), (d + 82, .inr (13, [.int 0, .ref (d + 83), .ref (d + 84), .int 0, .int 0, .int 0, .ref (d + 85), .ref (d + 86), .ref (d + 87), .ref (d + 88), .int 0, .ref (d + 89), .int 0, .int 0, .ref (d + 90)])), (d + 83, .inl (aC 0, 325, .inl (fun _ => 0))), (d + 84, .inl (aC 0, 325, .inl (fun _ => 0))), (d + 85, .inl (aC 0, 13, .inl (fun _ => 0))), (d + 86, .inl (aC 0, 13, .inl (fun _ => 0))), (d + 87, .inl (aC 0, 13, .inl (fun _ => 0))), (d + 88, .inl (aC 0, 13, .inl (fun _ => 0))), (d + 89, .inl (aC 0, 175, .inl (fun _ => 0))), (d + 90, .inl (aC 0, 361, .inl (fun _ => 0))), (d + 595, .inr (11, [.ref (d + 596), .int 0])), (d + 596, .inl (aC 4, 64, .inr (.inr (.inr (.inr (zrefs (fun zj => (d + 596) + (1 + 2 * zj)) 64)))))), (d + 597, .inr (14, [.ref (d + 598), .int 0])), (d + 598, .inl (aC 0, 200, .inl (fun _ => 0))), (d + 725, .inr (11, [.ref (d + 726), .int 0])), (d + 726, .inl (aC 4, 64, .inr (.inr (.inr (.inr (zrefs (fun zj => (d + 726) + (1 + 2 * zj)) 64)))))), (d + 727, .inr (14, [.ref (d + 728), .int 0])), (d + 728, .inl (aC 0, 200, .inl (fun _ => 0))), (a2, .inr (13, [.int 0, .ref (a2 + 1), .ref (a2 + 2), .int 0, .int 0, .int 0, .ref (a2 + 3), .ref (a2 + 4), .ref (a2 + 5), .ref (a2 + 6), .int 0, .ref (a2 + 7), .int 0, .int 0, .ref (a2 + 8)])), (a2 + 1, .inl (aC 0, 325, .inl (fun _ => 0))), (a2 + 2, .inl (aC 0, 325, .inl (fun _ => 0))), (a2 + 3, .inl (aC 0, 13, .inl (fun _ => 0))), (a2 + 4, .inl (aC 0, 13, .inl (fun _ => 0))), (a2 + 5, .inl (aC 0, 13, .inl (fun _ => 0))), (a2 + 6, .inl (aC 0, 13, .inl (fun _ => 0))), (a2 + 7, .inl (aC 0, 175, .inl (fun _ => 0))), (a2 + 8, .inl (aC 0, 361, .inl (fun _ => 0)))] := hD'
      have hS : va_S A s.heap H140145 L140146 := hS'
      clear hP' hD' hS'
      have hwa := hw
      clear hw
      refine lv_aload_n hx hb dL_law_641 rfl (lv_at hl 1 rfl) ?_
      refine lv_aload_n hx hb dL_law_642 rfl (lv_at hl 3 rfl) ?_
      refine lv_iload_n hx hb dL_law_643 rfl (lv_at hl 0 rfl) ?_
      show W p l e _ s m _ below meth c _ _ _ _ QQ (F0 m 644 ls [.int 0, .ref b, .ref mm, .int ra])
      refine lv_iconst (v := 1) hx hb dL_law_644 (by decide) ?_
      refine lv_iadd hx hb dL_law_645 ?_
      refine lv_topi (fun y140147 ey140147 => ?_)
      obtain rfl : y140147 = 1 := by rw [ey140147]; decide
      try clear ey140147
      refine zsld hx hb hX hbl hbA hS (zvp (by decide)) hx1 dL_law_646 ?_
      refine lv_aload_n hx hb dL_law_647 rfl (lv_at hl 3 rfl) ?_
      refine lv_iload_n hx hb dL_law_648 rfl (lv_at hl 0 rfl) ?_
      show W p l e _ s m _ below meth c _ _ _ _ QQ (F0 m 649 ls [.int 0, .ref b, .int 10, .ref mm, .int ra])
      refine lv_iconst (v := 2) hx hb dL_law_649 (by decide) ?_
      refine lv_iadd hx hb dL_law_650 ?_
      refine lv_topi (fun y140148 ey140148 => ?_)
      obtain rfl : y140148 = 2 := by rw [ey140148]; decide
      try clear ey140148
      refine zsld hx hb hX hbl hbA hS (zvp (by decide)) hx2 dL_law_651 ?_
      refine lv_aload_n hx hb dL_law_652 rfl (lv_at hl 3 rfl) ?_
      refine lv_iload_n hx hb dL_law_653 rfl (lv_at hl 0 rfl) ?_
      show W p l e _ s m _ below meth c _ _ _ _ QQ (F0 m 654 ls [.int 0, .ref b, .int x2, .int 10, .ref mm, .int ra])
      refine lv_iconst (v := 3) hx hb dL_law_654 (by decide) ?_
      refine lv_iadd hx hb dL_law_655 ?_
      refine lv_topi (fun y140149 ey140149 => ?_)
      obtain rfl : y140149 = 3 := by rw [ey140149]; decide
      try clear ey140149
      refine zsld hx hb hX hbl hbA hS (zvp (by decide)) hx3 dL_law_656 ?_
      refine lv_aload_n hx hb dL_law_657 rfl (lv_at hl 3 rfl) ?_
      refine lv_iload_n hx hb dL_law_658 rfl (lv_at hl 0 rfl) ?_
      show W p l e _ s m _ below meth c _ _ _ _ QQ (F0 m 659 ls [.int 0, .ref b, .int x3, .int x2, .int 10, .ref mm, .int ra])
      refine lv_iconst (v := 4) hx hb dL_law_659 (by decide) ?_
      refine lv_iadd hx hb dL_law_660 ?_
      refine lv_topi (fun y140150 ey140150 => ?_)
      obtain rfl : y140150 = 4 := by rw [ey140150]; decide
      try clear ey140150
      refine zsld hx hb hX hbl hbA hS (zvp (by decide)) hx4 dL_law_661 ?_
      refine zrw_i (f := fun _ => False) (B := fun _ _ => True) (k := 0) (wr := []) (wc := [(mm, .inr (15, [.ref (d + 0), .int 0, .ref (d + 1), .int 0, .ref (d + 2), .ref (d + 3), .ref (d + 68), .ref (d + 77), .ref (d + 78), .int 0, .int 0, .ref (d + 79), .int 0, .int 0, .int 0, .ref (d + 80), .int 0, .int 0, .int 0, .int 0, .ref (d + 81), .ref (d + 82), .int (-1), .ref (d + 91), .int 0, .int 0, .ref (d + 92), .int 0, .ref (d + 93), .int 0, .ref (d + 94), .int 0, .ref (d + 95), .ref (d + 96), .ref (d + 97), .ref (d + 98), .int 0, .int 0, .ref (d + 99), .null, .null, .null, .null, .null, .ref (d + 148), .ref (d + 175), .ref (d + 176), .ref (d + 177), .int 0, .ref (d + 178), .ref (d + 179), .ref (d + 180), .ref (d + 185), .ref (d + 190), .ref (d + 191), .ref (d + 192), .ref (d + 193), .ref (d + 201), .ref (d + 209), .ref (d + 210), .ref (d + 211), .ref (d + 272), .ref (d + 273), .int 0, .ref (d + 274)])), (d + 81, .inl (aC 6, 12, .inr (.inr (.inr (.inr (zrefs (fun i => d + (7485 + 9 * i)) 12)))))), (d + 1, .inl (aC 5, 44, .inr (.inr (.inr (.inr (zrefs (fun i => d + (595 + 130 * i)) 44)))))), (a2, .inr (13, [.int 0, .ref (a2 + 1), .ref (a2 + 2), .int 0, .int 0, .int 0, .ref (a2 + 3), .ref (a2 + 4), .ref (a2 + 5), .ref (a2 + 6), .int 0, .ref (a2 + 7), .int 0, .int 0, .ref (a2 + 8)])), (a2 + 1, .inl (aC 0, 325, .inl (fun _ => 0))), (a2 + 2, .inl (aC 0, 325, .inl (fun _ => 0))), (a2 + 3, .inl (aC 0, 13, .inl (fun _ => 0))), (a2 + 4, .inl (aC 0, 13, .inl (fun _ => 0))), (a2 + 5, .inl (aC 0, 13, .inl (fun _ => 0))), (a2 + 6, .inl (aC 0, 13, .inl (fun _ => 0))), (a2 + 7, .inl (aC 0, 175, .inl (fun _ => 0))), (a2 + 8, .inl (aC 0, 361, .inl (fun _ => 0))), (d + 82, .inr (13, [.int 0, .ref (d + 83), .ref (d + 84), .int 0, .int 0, .int 0, .ref (d + 85), .ref (d + 86), .ref (d + 87), .ref (d + 88), .int 0, .ref (d + 89), .int 0, .int 0, .ref (d + 90)])), (d + 83, .inl (aC 0, 325, .inl (fun _ => 0))), (d + 84, .inl (aC 0, 325, .inl (fun _ => 0))), (d + 85, .inl (aC 0, 13, .inl (fun _ => 0))), (d + 86, .inl (aC 0, 13, .inl (fun _ => 0))), (d + 87, .inl (aC 0, 13, .inl (fun _ => 0))), (d + 88, .inl (aC 0, 13, .inl (fun _ => 0))), (d + 89, .inl (aC 0, 175, .inl (fun _ => 0))), (d + 90, .inl (aC 0, 361, .inl (fun _ => 0))), (d + 595, .inr (11, [.ref (d + 596), .int 0])), (d + 596, .inl (aC 4, 64, .inr (.inr (.inr (.inr (zrefs (fun zj => (d + 596) + (1 + 2 * zj)) 64)))))), (d + 597, .inr (14, [.ref (d + 598), .int 0])), (d + 598, .inl (aC 0, 200, .inl (fun _ => 0))), (d + 725, .inr (11, [.ref (d + 726), .int 0])), (d + 726, .inl (aC 4, 64, .inr (.inr (.inr (.inr (zrefs (fun zj => (d + 726) + (1 + 2 * zj)) 64)))))), (d + 727, .inr (14, [.ref (d + 728), .int 0])), (d + 728, .inl (aC 0, 200, .inl (fun _ => 0)))]) (w1 := fun _ => []) hP hD hS hA [0, 2, 1, 20, 21, 22, 23, 24, 25, 26, 27, 28, 3, 4, 5, 6, 7, 8, 9, 10, 11, 12, 13, 14, 15, 16, 17, 18, 19] [] rfl rfl (by decide +kernel) (by decide +kernel) (va_runV (As := [.int 10, .int x2, .int x3, .int x4]) (rest := [.int ra]) ⟨hx, hb, hml, hown, hall⟩ (c_X16_change_ten l dC dI aC mm d a2 x2 x3 x4 H140145.size hk ea2 hk2) (cwV 4 hall (zgV zw_605 zw_607 zw_608 zw_812 g_X16_change rfl) rfl rfl rfl (by decide +kernel) ⟨Nat.le_of_ble_eq_true rfl, Nat.le_of_ble_eq_true rfl⟩) (zPre_V (As := [.int 10, .int x2, .int x3, .int x4]) hK hP hD [0, 2, 1, 20, 21, 22, 23, 24, 25, 26, 27, 28, 3, 4, 5, 6, 7, 8, 9, 10, 11, 12, 13, 14, 15, 16, 17, 18, 19] rfl (by decide +kernel) (ci := 15) (q0 := 0) rfl rfl) rfl rfl hl.1 rfl (lv_room (Nat.le_of_ble_eq_true rfl)) dL_law_662 ⟨Nat.le_of_ble_eq_true rfl, Nat.le_of_ble_eq_true rfl⟩) (fun rb u H140151 L140152 hw hz hk hP' hD' hS' => ?_)
      try rw [hz0] at hP'
      try rw [hz0] at hD'
      rw [hz0] at hz
      replace hz0 : H140151.size = s.heap.size + 8431 := by omega
      clear hz
      clear hP hD hS hk
      have hP : va_P (dC, dI) vwCl [] H140151 := hP'
      have hD : va_D A [] := hD'
      have hS : va_S A s.heap H140151 L140152 := hS'
      clear hP' hD' hS'
      clear L140146 H140145
      have hwb := hw
      clear hw
      refine lv_icmp_eq (tgt := 1443) hx hb dL_law_665 (by decide) (fun _ => ?_) (fun hne => absurd (hwa.trans hwb.symm) hne)
      subst hQ
      subst hAe
      exact law_tail C1 (Nat.le_of_ble_eq_true rfl) (Nat.le_of_ble_eq_true rfl) hS (lv_sub hl [0, 3] rfl)
    · have ho : zok x4 = true → ¬ x1 = 10 := fun q1 q2 => h4 ⟨q1, q2⟩
      obtain ⟨a1, ea1⟩ : ∃ q, q = bb + (1 + 6 * x2.toNatClampNeg) := ⟨_, rfl⟩
      obtain ⟨a2, ea2⟩ : ∃ q, q = d + (7485 + 9 * x2.toNatClampNeg) := ⟨_, rfl⟩
      have hn12 := zok_12 hk
      have hsl : zslot bb x2 = some a1 := by rw [ea1]; exact zslot_1 hk
      have hSl : va_P (dC, dI) vwCl (zSlotW aC a1) H := by rw [ea1]; exact hFh _ hn12
      have hTh : va_P (dC, dI) vwCl (zThW aC a2) H := by rw [ea2]; exact hFm _ hn12
      have hP : va_P (dC, dI) vwCl [(hh, .inr (10, [.ref (bb + 0), .ref (bb + 73), .ref (bb + 75), .ref (bb + 76), .ref (bb + 80), .ref (bb + 81), .ref (bb + 88), .ref (bb + 95), .ref (bb + 100), .ref (bb + 106), .int 0, .ref (bb + 107), .int 0])), (bb + 0, .inl (aC 3, 12, .inr (.inr (.inr (.inr (zrefs (fun i => bb + (1 + 6 * i)) 12)))))), (a1, .inr (5, [.int 0, .int 0, .int 0, .int 0, .int 0, .int 0, .int 0, .ref (a1 + 1), .ref (a1 + 2), .ref (a1 + 3), .ref (a1 + 4), .ref (a1 + 5)])), (bb + 73, .inr (3, [.ref (bb + 74), .int 2048, .int 0])), (bb + 74, .inl (aC 0, 131072, .inl (fun _ => 0))), (mm, .inr (15, [.ref (d + 0), .int 0, .ref (d + 1), .int 0, .ref (d + 2), .ref (d + 3), .ref (d + 68), .ref (d + 77), .ref (d + 78), .int 0, .int 0, .ref (d + 79), .int 0, .int 0, .int 0, .ref (d + 80), .int 0, .int 0, .int 0, .int 0, .ref (d + 81), .ref (d + 82), .int (-1), .ref (d + 91), .int 0, .int 0, .ref (d + 92), .int 0, .ref (d + 93), .int 0, .ref (d + 94), .int 0, .ref (d + 95), .ref (d + 96), .ref (d + 97), .ref (d + 98), .int 0, .int 0, .ref (d + 99), .null, .null, .null, .null, .null, .ref (d + 148), .ref (d + 175), .ref (d + 176), .ref (d + 177), .int 0, .ref (d + 178), .ref (d + 179), .ref (d + 180), .ref (d + 185), .ref (d + 190), .ref (d + 191), .ref (d + 192), .ref (d + 193), .ref (d + 201), .ref (d + 209), .ref (d + 210), .ref (d + 211), .ref (d + 272), .ref (d + 273), .int 0, .ref (d + 274)])), (d + 81, .inl (aC 6, 12, .inr (.inr (.inr (.inr (zrefs (fun i => d + (7485 + 9 * i)) 12)))))), (a2, .inr (13, [.int 0, .ref (a2 + 1 + 0), .ref (a2 + 1 + 1), .int 0, .int 0, .int 0, .ref (a2 + 1 + 2), .ref (a2 + 1 + 3), .ref (a2 + 1 + 4), .ref (a2 + 1 + 5), .int 0, .ref (a2 + 1 + 6), .int 0, .int 0, .ref (a2 + 1 + 7)]))] H := zP_c (hPh 0 _ rfl) (zP_c (hPh 1 _ rfl) (zP_c (hSl 0 _ rfl) (zP_c (hPh 2 _ rfl) (zP_c (hPh 3 _ rfl) (zP_c (hPm 0 _ rfl) (zP_c (hPm 15 _ rfl) (zP_c (hTh 0 _ rfl) (zP_n))))))))
      have hD : va_D A [(hh, .inr (10, [.ref (bb + 0), .ref (bb + 73), .ref (bb + 75), .ref (bb + 76), .ref (bb + 80), .ref (bb + 81), .ref (bb + 88), .ref (bb + 95), .ref (bb + 100), .ref (bb + 106), .int 0, .ref (bb + 107), .int 0])), (bb + 0, .inl (aC 3, 12, .inr (.inr (.inr (.inr (zrefs (fun i => bb + (1 + 6 * i)) 12)))))), (a1, .inr (5, [.int 0, .int 0, .int 0, .int 0, .int 0, .int 0, .int 0, .ref (a1 + 1), .ref (a1 + 2), .ref (a1 + 3), .ref (a1 + 4), .ref (a1 + 5)])), (bb + 73, .inr (3, [.ref (bb + 74), .int 2048, .int 0])), (bb + 74, .inl (aC 0, 131072, .inl (fun _ => 0))), (mm, .inr (15, [.ref (d + 0), .int 0, .ref (d + 1), .int 0, .ref (d + 2), .ref (d + 3), .ref (d + 68), .ref (d + 77), .ref (d + 78), .int 0, .int 0, .ref (d + 79), .int 0, .int 0, .int 0, .ref (d + 80), .int 0, .int 0, .int 0, .int 0, .ref (d + 81), .ref (d + 82), .int (-1), .ref (d + 91), .int 0, .int 0, .ref (d + 92), .int 0, .ref (d + 93), .int 0, .ref (d + 94), .int 0, .ref (d + 95), .ref (d + 96), .ref (d + 97), .ref (d + 98), .int 0, .int 0, .ref (d + 99), .null, .null, .null, .null, .null, .ref (d + 148), .ref (d + 175), .ref (d + 176), .ref (d + 177), .int 0, .ref (d + 178), .ref (d + 179), .ref (d + 180), .ref (d + 185), .ref (d + 190), .ref (d + 191), .ref (d + 192), .ref (d + 193), .ref (d + 201), .ref (d + 209), .ref (d + 210), .ref (d + 211), .ref (d + 272), .ref (d + 273), .int 0, .ref (d + 274)])), (d + 81, .inl (aC 6, 12, .inr (.inr (.inr (.inr (zrefs (fun i => d + (7485 + 9 * i)) 12)))))), (a2, .inr (13, [.int 0, .ref (a2 + 1 + 0), .ref (a2 + 1 + 1), .int 0, .int 0, .int 0, .ref (a2 + 1 + 2), .ref (a2 + 1 + 3), .ref (a2 + 1 + 4), .ref (a2 + 1 + 5), .int 0, .ref (a2 + 1 + 6), .int 0, .int 0, .ref (a2 + 1 + 7)]))] := zUp_D (lo := s.heap.size) hA (zUp_c (by omega) (zUp_c (by omega) (zUp_c (by omega) (zUp_c (by omega) (zUp_c (by omega) (zUp_c (by omega) (zUp_c (by omega) (zUp_c (by omega) (zUp_n)))))))))
      clear hPh hFh hPm hFm hSl hTh
      refine lv_aload_n hx hb dL_law_617 rfl (lv_at hl 2 rfl) ?_
      refine lv_aload_n hx hb dL_law_618 rfl (lv_at hl 3 rfl) ?_
      refine lv_iload_n hx hb dL_law_619 rfl (lv_at hl 0 rfl) ?_
      refine lv_iconst (v := 1) hx hb dL_law_620 (by decide) ?_
      refine lv_iadd hx hb dL_law_621 ?_
      refine lv_topi (fun y140153 ey140153 => ?_)
      obtain rfl : y140153 = 1 := by rw [ey140153]; decide
      try clear ey140153
      show W p l e _ s m _ below meth c _ _ _ _ QQ (F0 m 622 ls [.int 1, .ref b, .ref hh])
      refine zsld hx hb hX hbl hbA hS (zvp (by decide)) hx1 dL_law_622 ?_
      refine lv_aload_n hx hb dL_law_623 rfl (lv_at hl 3 rfl) ?_
      refine lv_iload_n hx hb dL_law_624 rfl (lv_at hl 0 rfl) ?_
      refine lv_iconst (v := 2) hx hb dL_law_625 (by decide) ?_
      refine lv_iadd hx hb dL_law_626 ?_
      refine lv_topi (fun y140154 ey140154 => ?_)
      obtain rfl : y140154 = 2 := by rw [ey140154]; decide
      try clear ey140154
      show W p l e _ s m _ below meth c _ _ _ _ QQ (F0 m 627 ls [.int 2, .ref b, .int x1, .ref hh])
      refine zsld hx hb hX hbl hbA hS (zvp (by decide)) hx2 dL_law_627 ?_
      refine lv_aload_n hx hb dL_law_628 rfl (lv_at hl 3 rfl) ?_
      refine lv_iload_n hx hb dL_law_629 rfl (lv_at hl 0 rfl) ?_
      refine lv_iconst (v := 3) hx hb dL_law_630 (by decide) ?_
      refine lv_iadd hx hb dL_law_631 ?_
      refine lv_topi (fun y140155 ey140155 => ?_)
      obtain rfl : y140155 = 3 := by rw [ey140155]; decide
      try clear ey140155
      show W p l e _ s m _ below meth c _ _ _ _ QQ (F0 m 632 ls [.int 3, .ref b, .int x2, .int x1, .ref hh])
      refine zsld hx hb hX hbl hbA hS (zvp (by decide)) hx3 dL_law_632 ?_
      refine lv_aload_n hx hb dL_law_633 rfl (lv_at hl 3 rfl) ?_
      refine lv_iload_n hx hb dL_law_634 rfl (lv_at hl 0 rfl) ?_
      refine lv_iconst (v := 4) hx hb dL_law_635 (by decide) ?_
      refine lv_iadd hx hb dL_law_636 ?_
      refine lv_topi (fun y140156 ey140156 => ?_)
      obtain rfl : y140156 = 4 := by rw [ey140156]; decide
      try clear ey140156
      show W p l e _ s m _ below meth c _ _ _ _ QQ (F0 m 637 ls [.int 4, .ref b, .int x3, .int x2, .int x1, .ref hh])
      refine zsld hx hb hX hbl hbA hS (zvp (by decide)) hx4 dL_law_637 ?_
      refine zrw_i (f := fun _ => False) (B := fun _ _ => True) (k := 0) (wr := [(mm, .inr (15, [.ref (d + 0), .int 0, .ref (d + 1), .int 0, .ref (d + 2), .ref (d + 3), .ref (d + 68), .ref (d + 77), .ref (d + 78), .int 0, .int 0, .ref (d + 79), .int 0, .int 0, .int 0, .ref (d + 80), .int 0, .int 0, .int 0, .int 0, .ref (d + 81), .ref (d + 82), .int (-1), .ref (d + 91), .int 0, .int 0, .ref (d + 92), .int 0, .ref (d + 93), .int 0, .ref (d + 94), .int 0, .ref (d + 95), .ref (d + 96), .ref (d + 97), .ref (d + 98), .int 0, .int 0, .ref (d + 99), .null, .null, .null, .null, .null, .ref (d + 148), .ref (d + 175), .ref (d + 176), .ref (d + 177), .int 0, .ref (d + 178), .ref (d + 179), .ref (d + 180), .ref (d + 185), .ref (d + 190), .ref (d + 191), .ref (d + 192), .ref (d + 193), .ref (d + 201), .ref (d + 209), .ref (d + 210), .ref (d + 211), .ref (d + 272), .ref (d + 273), .int 0, .ref (d + 274)])), (d + 81, .inl (aC 6, 12, .inr (.inr (.inr (.inr (zrefs (fun i => d + (7485 + 9 * i)) 12)))))), (a2, .inr (13, [.int 0, .ref (a2 + 1 + 0), .ref (a2 + 1 + 1), .int 0, .int 0, .int 0, .ref (a2 + 1 + 2), .ref (a2 + 1 + 3), .ref (a2 + 1 + 4), .ref (a2 + 1 + 5), .int 0, .ref (a2 + 1 + 6), .int 0, .int 0, .ref (a2 + 1 + 7)]))]) (wc := [(hh, .inr (10, [.ref (bb + 0), .ref (bb + 73), .ref (bb + 75), .ref (bb + 76), .ref (bb + 80), .ref (bb + 81), .ref (bb + 88), .ref (bb + 95), .ref (bb + 100), .ref (bb + 106), .int 0, .ref (bb + 107), .int 0])), (bb + 0, .inl (aC 3, 12, .inr (.inr (.inr (.inr (zrefs (fun i => bb + (1 + 6 * i)) 12)))))), (a1, .inr (5, [.int 0, .int 0, .int 0, .int 0, .int 0, .int 0, .int 0, .ref (a1 + 1), .ref (a1 + 2), .ref (a1 + 3), .ref (a1 + 4), .ref (a1 + 5)])), (bb + 73, .inr (3, [.ref (bb + 74), .int 2048, .int 0])), (bb + 74, .inl (aC 0, 131072, .inl (fun _ => 0)))]) (w1 := fun _ => []) hP hD hS hA [0, 1, 2, 3, 4] [5, 6, 7] rfl rfl (by decide +kernel) (by decide +kernel) (va_runV (As := [.int x1, .int x2, .int x3, .int x4]) (rest := []) ⟨hx, hb, hml, hown, hall⟩ (c_X11_change_in l dC dI aC hh bb a1 x1 x2 x3 x4 H.size hsl ho) (cwV 4 hall (zgV zw_601 zw_603 zw_604 zw_802 g_X11_change rfl) rfl rfl rfl (by decide +kernel) ⟨Nat.le_of_ble_eq_true rfl, Nat.le_of_ble_eq_true rfl⟩) (zPre_V (As := [.int x1, .int x2, .int x3, .int x4]) hK hP hD [0, 1, 2, 3, 4] rfl (by decide +kernel) (ci := 10) (q0 := 0) rfl rfl) rfl rfl hl.1 rfl (lv_room (Nat.le_of_ble_eq_true rfl)) dL_law_638 ⟨Nat.le_of_ble_eq_true rfl, Nat.le_of_ble_eq_true rfl⟩) (fun ra u H140157 L140158 hw hz hk hP' hD' hS' => ?_)
      try rw [hz0] at hP'
      try rw [hz0] at hD'
      rw [hz0] at hz
      replace hz0 : H140157.size = s.heap.size + 8431 := by omega
      clear hz
      clear hP hD hS hk
      have hP : va_P (dC, dI) vwCl [(mm, .inr (15, [.ref (d + 0), .int 0, .ref (d + 1), .int 0, .ref (d + 2), .ref (d + 3), .ref (d + 68), .ref (d + 77), .ref (d + 78), .int 0, .int 0, .ref (d + 79), .int 0, .int 0, .int 0, .ref (d + 80), .int 0, .int 0, .int 0, .int 0, .ref (d + 81), .ref (d + 82), .int (-1), .ref (d + 91), .int 0, .int 0, .ref (d + 92), .int 0, .ref (d + 93), .int 0, .ref (d + 94), .int 0, .ref (d + 95), .ref (d + 96), .ref (d + 97), .ref (d + 98), .int 0, .int 0, .ref (d + 99), .null, .null, .null, .null, .null, .ref (d + 148), .ref (d + 175), .ref (d + 176), .ref (d + 177), .int 0, .ref (d + 178), .ref (d + 179), .ref (d + 180), .ref (d + 185), .ref (d + 190), .ref (d + 191), .ref (d + 192), .ref (d + 193), .ref (d + 201), .ref (d + 209), .ref (d + 210), .ref (d + 211), .ref (d + 272), .ref (d + 273), .int 0, .ref (d + 274)])), (d + 81, .inl (aC 6, 12, .inr (.inr (.inr (.inr (zrefs (fun i => d + (7485 + 9 * i)) 12)))))), (a2, .inr (13, [.int 0, .ref (a2 + 1 + 0), .ref (a2 + 1 + 1), .int 0, .int 0, .int 0, .ref (a2 + 1 + 2), .ref (a2 + 1 + 3), .ref (a2 + 1 + 4), .ref (a2 + 1 + 5), .int 0, .ref (a2 + 1 + 6), .int 0, .int 0, .ref (a2 + 1 + 7)]))] H140157 := hP'
      have hD : va_D A [(mm, .inr (15, [.ref (d + 0), .int 0, .ref (d + 1), .int 0, .ref (d + 2), .ref (d + 3), .ref (d + 68), .ref (d + 77), .ref (d + 78), .int 0, .int 0, .ref (d + 79), .int 0, .int 0, .int 0, .ref (d + 80), .int 0, .int 0, .int 0, .int 0, .ref (d + 81), .ref (d + 82), .int (-1), .ref (d + 91), .int 0, .int 0, .ref (d + 92), .int 0, .ref (d + 93), .int 0, .ref (d + 94), .int 0, .ref (d + 95), .ref (d + 96), .ref (d + 97), .ref (d + 98), .int 0, .int 0, .ref (d + 99), .null, .null, .null, .null, .null, .ref (d + 148), .ref (d + 175), .ref (d + 176), .ref (d + 177), .int 0, .ref (d + 178), .ref (d + 179), .ref (d + 180), .ref (d + 185), .ref (d + 190), .ref (d + 191), .ref (d + 192), .ref (d + 193), .ref (d + 201), .ref (d + 209), .ref (d + 210), .ref (d + 211), .ref (d + 272), .ref (d + 273), .int 0, .ref (d + 274)])), (d + 81, .inl (aC 6, 12, .inr (.inr (.inr (.inr (zrefs (fun i => d + (7485 + 9 * i)) 12)))))), (a2, .inr (13, [.int 0, .ref (a2 + 1 + 0), .ref (a2 + 1 + 1), .int 0, .int 0, .int 0, .ref (a2 + 1 + 2), .ref (a2 + 1 + 3), .ref (a2 + 1 + 4), .ref (a2 + 1 + 5), .int 0, .ref (a2 + 1 + 6), .int 0, .int 0, .ref (a2 + 1 + 7)]))] := hD'
      have hS : va_S A s.heap H140157 L140158 := hS'
      clear hP' hD' hS'
      have hwa := hw
      clear hw
      refine lv_aload_n hx hb dL_law_641 rfl (lv_at hl 1 rfl) ?_
      refine lv_aload_n hx hb dL_law_642 rfl (lv_at hl 3 rfl) ?_
      refine lv_iload_n hx hb dL_law_643 rfl (lv_at hl 0 rfl) ?_
      show W p l e _ s m _ below meth c _ _ _ _ QQ (F0 m 644 ls [.int 0, .ref b, .ref mm, .int ra])
      refine lv_iconst (v := 1) hx hb dL_law_644 (by decide) ?_
      refine lv_iadd hx hb dL_law_645 ?_
      refine lv_topi (fun y140159 ey140159 => ?_)
      obtain rfl : y140159 = 1 := by rw [ey140159]; decide
      try clear ey140159
      refine zsld hx hb hX hbl hbA hS (zvp (by decide)) hx1 dL_law_646 ?_
      refine lv_aload_n hx hb dL_law_647 rfl (lv_at hl 3 rfl) ?_
      refine lv_iload_n hx hb dL_law_648 rfl (lv_at hl 0 rfl) ?_
      show W p l e _ s m _ below meth c _ _ _ _ QQ (F0 m 649 ls [.int 0, .ref b, .int x1, .ref mm, .int ra])
      refine lv_iconst (v := 2) hx hb dL_law_649 (by decide) ?_
      refine lv_iadd hx hb dL_law_650 ?_
      refine lv_topi (fun y140160 ey140160 => ?_)
      obtain rfl : y140160 = 2 := by rw [ey140160]; decide
      try clear ey140160
      refine zsld hx hb hX hbl hbA hS (zvp (by decide)) hx2 dL_law_651 ?_
      refine lv_aload_n hx hb dL_law_652 rfl (lv_at hl 3 rfl) ?_
      refine lv_iload_n hx hb dL_law_653 rfl (lv_at hl 0 rfl) ?_
      show W p l e _ s m _ below meth c _ _ _ _ QQ (F0 m 654 ls [.int 0, .ref b, .int x2, .int x1, .ref mm, .int ra])
      refine lv_iconst (v := 3) hx hb dL_law_654 (by decide) ?_
      refine lv_iadd hx hb dL_law_655 ?_
      refine lv_topi (fun y140161 ey140161 => ?_)
      obtain rfl : y140161 = 3 := by rw [ey140161]; decide
      try clear ey140161
      refine zsld hx hb hX hbl hbA hS (zvp (by decide)) hx3 dL_law_656 ?_
      refine lv_aload_n hx hb dL_law_657 rfl (lv_at hl 3 rfl) ?_
      refine lv_iload_n hx hb dL_law_658 rfl (lv_at hl 0 rfl) ?_
      show W p l e _ s m _ below meth c _ _ _ _ QQ (F0 m 659 ls [.int 0, .ref b, .int x3, .int x2, .int x1, .ref mm, .int ra])
      refine lv_iconst (v := 4) hx hb dL_law_659 (by decide) ?_
      refine lv_iadd hx hb dL_law_660 ?_
      refine lv_topi (fun y140162 ey140162 => ?_)
      obtain rfl : y140162 = 4 := by rw [ey140162]; decide
      try clear ey140162
      refine zsld hx hb hX hbl hbA hS (zvp (by decide)) hx4 dL_law_661 ?_
      refine zrw_i (f := fun _ => False) (B := fun _ _ => True) (k := 0) (wr := []) (wc := [(mm, .inr (15, [.ref (d + 0), .int 0, .ref (d + 1), .int 0, .ref (d + 2), .ref (d + 3), .ref (d + 68), .ref (d + 77), .ref (d + 78), .int 0, .int 0, .ref (d + 79), .int 0, .int 0, .int 0, .ref (d + 80), .int 0, .int 0, .int 0, .int 0, .ref (d + 81), .ref (d + 82), .int (-1), .ref (d + 91), .int 0, .int 0, .ref (d + 92), .int 0, .ref (d + 93), .int 0, .ref (d + 94), .int 0, .ref (d + 95), .ref (d + 96), .ref (d + 97), .ref (d + 98), .int 0, .int 0, .ref (d + 99), .null, .null, .null, .null, .null, .ref (d + 148), .ref (d + 175), .ref (d + 176), .ref (d + 177), .int 0, .ref (d + 178), .ref (d + 179), .ref (d + 180), .ref (d + 185), .ref (d + 190), .ref (d + 191), .ref (d + 192), .ref (d + 193), .ref (d + 201), .ref (d + 209), .ref (d + 210), .ref (d + 211), .ref (d + 272), .ref (d + 273), .int 0, .ref (d + 274)])), (d + 81, .inl (aC 6, 12, .inr (.inr (.inr (.inr (zrefs (fun i => d + (7485 + 9 * i)) 12)))))), (a2, .inr (13, [.int 0, .ref (a2 + 1 + 0), .ref (a2 + 1 + 1), .int 0, .int 0, .int 0, .ref (a2 + 1 + 2), .ref (a2 + 1 + 3), .ref (a2 + 1 + 4), .ref (a2 + 1 + 5), .int 0, .ref (a2 + 1 + 6), .int 0, .int 0, .ref (a2 + 1 + 7)]))]) (w1 := fun _ => []) hP hD hS hA [0, 1, 2] [] rfl rfl (by decide +kernel) (by decide +kernel) (va_runV (As := [.int x1, .int x2, .int x3, .int x4]) (rest := [.int ra]) ⟨hx, hb, hml, hown, hall⟩ (c_X16_change_in l dC dI aC mm d a2 x1 x2 x3 x4 H140157.size hk ea2 ho) (cwV 4 hall (zgV zw_605 zw_607 zw_608 zw_812 g_X16_change rfl) rfl rfl rfl (by decide +kernel) ⟨Nat.le_of_ble_eq_true rfl, Nat.le_of_ble_eq_true rfl⟩) (zPre_V (As := [.int x1, .int x2, .int x3, .int x4]) hK hP hD [0, 1, 2] rfl (by decide +kernel) (ci := 15) (q0 := 0) rfl rfl) rfl rfl hl.1 rfl (lv_room (Nat.le_of_ble_eq_true rfl)) dL_law_662 ⟨Nat.le_of_ble_eq_true rfl, Nat.le_of_ble_eq_true rfl⟩) (fun rb u H140163 L140164 hw hz hk hP' hD' hS' => ?_)
      try rw [hz0] at hP'
      try rw [hz0] at hD'
      rw [hz0] at hz
      replace hz0 : H140163.size = s.heap.size + 8431 := by omega
      clear hz
      clear hP hD hS hk
      have hP : va_P (dC, dI) vwCl [] H140163 := hP'
      have hD : va_D A [] := hD'
      have hS : va_S A s.heap H140163 L140164 := hS'
      clear hP' hD' hS'
      clear L140158 H140157
      have hwb := hw
      clear hw
      refine lv_icmp_eq (tgt := 1443) hx hb dL_law_665 (by decide) (fun _ => ?_) (fun hne => absurd (hwa.trans hwb.symm) hne)
      subst hQ
      subst hAe
      exact law_tail C1 (Nat.le_of_ble_eq_true rfl) (Nat.le_of_ble_eq_true rfl) hS (lv_sub hl [0, 3] rfl)
  · have hP : va_P (dC, dI) vwCl [(hh, .inr (10, [.ref (bb + 0), .ref (bb + 73), .ref (bb + 75), .ref (bb + 76), .ref (bb + 80), .ref (bb + 81), .ref (bb + 88), .ref (bb + 95), .ref (bb + 100), .ref (bb + 106), .int 0, .ref (bb + 107), .int 0])), (bb + 0, .inl (aC 3, 12, .inr (.inr (.inr (.inr (zrefs (fun i => bb + (1 + 6 * i)) 12)))))), (mm, .inr (15, [.ref (d + 0), .int 0, .ref (d + 1), .int 0, .ref (d + 2), .ref (d + 3), .ref (d + 68), .ref (d + 77), .ref (d + 78), .int 0, .int 0, .ref (d + 79), .int 0, .int 0, .int 0, .ref (d + 80), .int 0, .int 0, .int 0, .int 0, .ref (d + 81), .ref (d + 82), .int (-1), .ref (d + 91), .int 0, .int 0, .ref (d + 92), .int 0, .ref (d + 93), .int 0, .ref (d + 94), .int 0, .ref (d + 95), .ref (d + 96), .ref (d + 97), .ref (d + 98), .int 0, .int 0, .ref (d + 99), .null, .null, .null, .null, .null, .ref (d + 148), .ref (d + 175), .ref (d + 176), .ref (d + 177), .int 0, .ref (d + 178), .ref (d + 179), .ref (d + 180), .ref (d + 185), .ref (d + 190), .ref (d + 191), .ref (d + 192), .ref (d + 193), .ref (d + 201), .ref (d + 209), .ref (d + 210), .ref (d + 211), .ref (d + 272), .ref (d + 273), .int 0, .ref (d + 274)])), (d + 81, .inl (aC 6, 12, .inr (.inr (.inr (.inr (zrefs (fun i => d + (7485 + 9 * i)) 12))))))] H := zP_c (hPh 0 _ rfl) (zP_c (hPh 1 _ rfl) (zP_c (hPm 0 _ rfl) (zP_c (hPm 15 _ rfl) (zP_n))))
    have hD : va_D A [(hh, .inr (10, [.ref (bb + 0), .ref (bb + 73), .ref (bb + 75), .ref (bb + 76), .ref (bb + 80), .ref (bb + 81), .ref (bb + 88), .ref (bb + 95), .ref (bb + 100), .ref (bb + 106), .int 0, .ref (bb + 107), .int 0])), (bb + 0, .inl (aC 3, 12, .inr (.inr (.inr (.inr (zrefs (fun i => bb + (1 + 6 * i)) 12)))))), (mm, .inr (15, [.ref (d + 0), .int 0, .ref (d + 1), .int 0, .ref (d + 2), .ref (d + 3), .ref (d + 68), .ref (d + 77), .ref (d + 78), .int 0, .int 0, .ref (d + 79), .int 0, .int 0, .int 0, .ref (d + 80), .int 0, .int 0, .int 0, .int 0, .ref (d + 81), .ref (d + 82), .int (-1), .ref (d + 91), .int 0, .int 0, .ref (d + 92), .int 0, .ref (d + 93), .int 0, .ref (d + 94), .int 0, .ref (d + 95), .ref (d + 96), .ref (d + 97), .ref (d + 98), .int 0, .int 0, .ref (d + 99), .null, .null, .null, .null, .null, .ref (d + 148), .ref (d + 175), .ref (d + 176), .ref (d + 177), .int 0, .ref (d + 178), .ref (d + 179), .ref (d + 180), .ref (d + 185), .ref (d + 190), .ref (d + 191), .ref (d + 192), .ref (d + 193), .ref (d + 201), .ref (d + 209), .ref (d + 210), .ref (d + 211), .ref (d + 272), .ref (d + 273), .int 0, .ref (d + 274)])), (d + 81, .inl (aC 6, 12, .inr (.inr (.inr (.inr (zrefs (fun i => d + (7485 + 9 * i)) 12))))))] := zUp_D (lo := s.heap.size) hA (zUp_c (by omega) (zUp_c (by omega) (zUp_c (by omega) (zUp_c (by omega) (zUp_n)))))
    clear hPh hFh hPm hFm
    refine lv_aload_n hx hb dL_law_617 rfl (lv_at hl 2 rfl) ?_
    refine lv_aload_n hx hb dL_law_618 rfl (lv_at hl 3 rfl) ?_
    refine lv_iload_n hx hb dL_law_619 rfl (lv_at hl 0 rfl) ?_
    refine lv_iconst (v := 1) hx hb dL_law_620 (by decide) ?_
    refine lv_iadd hx hb dL_law_621 ?_
    refine lv_topi (fun y140165 ey140165 => ?_)
    obtain rfl : y140165 = 1 := by rw [ey140165]; decide
    try clear ey140165
    show W p l e _ s m _ below meth c _ _ _ _ QQ (F0 m 622 ls [.int 1, .ref b, .ref hh])
    refine zsld hx hb hX hbl hbA hS (zvp (by decide)) hx1 dL_law_622 ?_
    refine lv_aload_n hx hb dL_law_623 rfl (lv_at hl 3 rfl) ?_
    refine lv_iload_n hx hb dL_law_624 rfl (lv_at hl 0 rfl) ?_
    refine lv_iconst (v := 2) hx hb dL_law_625 (by decide) ?_
    refine lv_iadd hx hb dL_law_626 ?_
    refine lv_topi (fun y140166 ey140166 => ?_)
    obtain rfl : y140166 = 2 := by rw [ey140166]; decide
    try clear ey140166
    show W p l e _ s m _ below meth c _ _ _ _ QQ (F0 m 627 ls [.int 2, .ref b, .int x1, .ref hh])
    refine zsld hx hb hX hbl hbA hS (zvp (by decide)) hx2 dL_law_627 ?_
    refine lv_aload_n hx hb dL_law_628 rfl (lv_at hl 3 rfl) ?_
    refine lv_iload_n hx hb dL_law_629 rfl (lv_at hl 0 rfl) ?_
    refine lv_iconst (v := 3) hx hb dL_law_630 (by decide) ?_
    refine lv_iadd hx hb dL_law_631 ?_
    refine lv_topi (fun y140167 ey140167 => ?_)
    obtain rfl : y140167 = 3 := by rw [ey140167]; decide
    try clear ey140167
    show W p l e _ s m _ below meth c _ _ _ _ QQ (F0 m 632 ls [.int 3, .ref b, .int x2, .int x1, .ref hh])
    refine zsld hx hb hX hbl hbA hS (zvp (by decide)) hx3 dL_law_632 ?_
    refine lv_aload_n hx hb dL_law_633 rfl (lv_at hl 3 rfl) ?_
    refine lv_iload_n hx hb dL_law_634 rfl (lv_at hl 0 rfl) ?_
    refine lv_iconst (v := 4) hx hb dL_law_635 (by decide) ?_
    refine lv_iadd hx hb dL_law_636 ?_
    refine lv_topi (fun y140168 ey140168 => ?_)
    obtain rfl : y140168 = 4 := by rw [ey140168]; decide
    try clear ey140168
    show W p l e _ s m _ below meth c _ _ _ _ QQ (F0 m 637 ls [.int 4, .ref b, .int x3, .int x2, .int x1, .ref hh])
    refine zsld hx hb hX hbl hbA hS (zvp (by decide)) hx4 dL_law_637 ?_
    refine zro_i hS hA (va_runV (As := [.int x1, .int x2, .int x3, .int x4]) (rest := []) ⟨hx, hb, hml, hown, hall⟩ (c_X11_change_out l dC dI aC hh bb x1 x2 x3 x4 H.size (zslot_0 hk)) (cwV 4 hall (zgV zw_601 zw_603 zw_604 zw_802 g_X11_change rfl) rfl rfl rfl (by decide +kernel) ⟨Nat.le_of_ble_eq_true rfl, Nat.le_of_ble_eq_true rfl⟩) (zPre_V (As := [.int x1, .int x2, .int x3, .int x4]) hK hP hD [0, 1] rfl (by decide +kernel) (ci := 10) (q0 := 0) rfl rfl) rfl rfl hl.1 rfl (lv_room (Nat.le_of_ble_eq_true rfl)) dL_law_638 ⟨Nat.le_of_ble_eq_true rfl, Nat.le_of_ble_eq_true rfl⟩) (fun ra L140169 hw hS' => ?_)
    clear hS
    have hS := hS'
    clear hS'
    have hwa := hw
    clear hw
    refine lv_aload_n hx hb dL_law_641 rfl (lv_at hl 1 rfl) ?_
    refine lv_aload_n hx hb dL_law_642 rfl (lv_at hl 3 rfl) ?_
    refine lv_iload_n hx hb dL_law_643 rfl (lv_at hl 0 rfl) ?_
    show W p l e _ s m _ below meth c _ _ _ _ QQ (F0 m 644 ls [.int 0, .ref b, .ref mm, .int ra])
    refine lv_iconst (v := 1) hx hb dL_law_644 (by decide) ?_
    refine lv_iadd hx hb dL_law_645 ?_
    refine lv_topi (fun y140170 ey140170 => ?_)
    obtain rfl : y140170 = 1 := by rw [ey140170]; decide
    try clear ey140170
    refine zsld hx hb hX hbl hbA hS (zvp (by decide)) hx1 dL_law_646 ?_
    refine lv_aload_n hx hb dL_law_647 rfl (lv_at hl 3 rfl) ?_
    refine lv_iload_n hx hb dL_law_648 rfl (lv_at hl 0 rfl) ?_
    show W p l e _ s m _ below meth c _ _ _ _ QQ (F0 m 649 ls [.int 0, .ref b, .int x1, .ref mm, .int ra])
    refine lv_iconst (v := 2) hx hb dL_law_649 (by decide) ?_
    refine lv_iadd hx hb dL_law_650 ?_
    refine lv_topi (fun y140171 ey140171 => ?_)
    obtain rfl : y140171 = 2 := by rw [ey140171]; decide
    try clear ey140171
    refine zsld hx hb hX hbl hbA hS (zvp (by decide)) hx2 dL_law_651 ?_
    refine lv_aload_n hx hb dL_law_652 rfl (lv_at hl 3 rfl) ?_
    refine lv_iload_n hx hb dL_law_653 rfl (lv_at hl 0 rfl) ?_
    show W p l e _ s m _ below meth c _ _ _ _ QQ (F0 m 654 ls [.int 0, .ref b, .int x2, .int x1, .ref mm, .int ra])
    refine lv_iconst (v := 3) hx hb dL_law_654 (by decide) ?_
    refine lv_iadd hx hb dL_law_655 ?_
    refine lv_topi (fun y140172 ey140172 => ?_)
    obtain rfl : y140172 = 3 := by rw [ey140172]; decide
    try clear ey140172
    refine zsld hx hb hX hbl hbA hS (zvp (by decide)) hx3 dL_law_656 ?_
    refine lv_aload_n hx hb dL_law_657 rfl (lv_at hl 3 rfl) ?_
    refine lv_iload_n hx hb dL_law_658 rfl (lv_at hl 0 rfl) ?_
    show W p l e _ s m _ below meth c _ _ _ _ QQ (F0 m 659 ls [.int 0, .ref b, .int x3, .int x2, .int x1, .ref mm, .int ra])
    refine lv_iconst (v := 4) hx hb dL_law_659 (by decide) ?_
    refine lv_iadd hx hb dL_law_660 ?_
    refine lv_topi (fun y140173 ey140173 => ?_)
    obtain rfl : y140173 = 4 := by rw [ey140173]; decide
    try clear ey140173
    refine zsld hx hb hX hbl hbA hS (zvp (by decide)) hx4 dL_law_661 ?_
    refine zro_i hS hA (va_runV (As := [.int x1, .int x2, .int x3, .int x4]) (rest := [.int ra]) ⟨hx, hb, hml, hown, hall⟩ (c_X16_change_out l dC dI aC mm d x1 x2 x3 x4 H.size hk) (cwV 4 hall (zgV zw_605 zw_607 zw_608 zw_812 g_X16_change rfl) rfl rfl rfl (by decide +kernel) ⟨Nat.le_of_ble_eq_true rfl, Nat.le_of_ble_eq_true rfl⟩) (zPre_V (As := [.int x1, .int x2, .int x3, .int x4]) hK hP hD [2, 3] rfl (by decide +kernel) (ci := 15) (q0 := 0) rfl rfl) rfl rfl hl.1 rfl (lv_room (Nat.le_of_ble_eq_true rfl)) dL_law_662 ⟨Nat.le_of_ble_eq_true rfl, Nat.le_of_ble_eq_true rfl⟩) (fun rb L140174 hw hS' => ?_)
    clear hS
    have hS := hS'
    clear hS'
    have hwb := hw
    clear hw
    refine lv_icmp_eq (tgt := 1443) hx hb dL_law_665 (by decide) (fun _ => ?_) (fun hne => absurd (hwa.trans hwb.symm) hne)
    subst hQ
    subst hAe
    exact law_tail C1 (Nat.le_of_ble_eq_true rfl) (Nat.le_of_ble_eq_true rfl) hS (lv_sub hl [0, 3] rfl)

set_option maxHeartbeats 4000000 in
set_option maxRecDepth 100000 in
theorem law_value {p : Program} {l : Launch} {e : Env} {s : State} {m : MethodId} {below : List Frame} {meth : Method} {c : Code} {b : Nat} {xs : Nat → Int32} {H : Heap} {locs : List Loc} {ls : Array Slot} {dC : Nat → ClassId} {dI : Nat → Nat → Nat} {aC : Nat → ClassId} {hh bb mm d : Nat} (C0 : lw_At p s m meth c b 6 xs) (hK : zK (dC, dI) aC s) (hR : zReady s H dC dI aC hh bb mm d) (hS : va_S (fun q => s.heap.size ≤ q) s.heap H locs) (hl : lv_has ls 4 [(3, .int 0), (2, .ref mm), (1, .ref hh), (0, .ref b)]) : W p l e room_1 s m #[Value.ref b] below meth c H locs 8431 1660372 (lw_Z below #[Value.ref b] s) (F0 m 670 ls []) := by
  have C1 := C0
  obtain ⟨hx, hb, hr, hml, hown0, hts, hX, hbl, hlocks, hgv⟩ := C0
  obtain ⟨hPh, hFh, hPm, hFm, ez1, ez2, ez3, ez4, hz0⟩ := hR
  have hown : s.vm.findClass RL = some m.cls := hown0
  have hall : ∀ w ∈ zAll, w.before #[Value.ref b] s = true := fun w h => hts w (zAll_in w h)
  have hbA : ¬ (fun q : Nat => s.heap.size ≤ q) b := Nat.not_le.mpr hbl
  generalize hAe : (fun q : Nat => s.heap.size ≤ q) = A at hS hbA
  have hA : ∀ q : Nat, s.heap.size ≤ q → A q := fun q h => by rw [← hAe]; exact h
  generalize hQ : lw_Z below #[Value.ref b] s = QQ
  obtain ⟨x1, hx1⟩ : ∃ y, xs (1 : Int32).toNatClampNeg = y := ⟨_, rfl⟩
  obtain ⟨x2, hx2⟩ : ∃ y, xs (2 : Int32).toNatClampNeg = y := ⟨_, rfl⟩
  obtain ⟨x3, hx3⟩ : ∃ y, xs (3 : Int32).toNatClampNeg = y := ⟨_, rfl⟩
  by_cases hk : zok x1 = true
  · obtain ⟨a1, ea1⟩ : ∃ q, q = bb + (1 + 6 * x1.toNatClampNeg) := ⟨_, rfl⟩
    obtain ⟨a2, ea2⟩ : ∃ q, q = d + (7485 + 9 * x1.toNatClampNeg) := ⟨_, rfl⟩
    have hn12 := zok_12 hk
    have hsl : zslot bb x1 = some a1 := by rw [ea1]; exact zslot_1 hk
    have hSl : va_P (dC, dI) vwCl (zSlotW aC a1) H := by rw [ea1]; exact hFh _ hn12
    have hTh : va_P (dC, dI) vwCl (zThW aC a2) H := by rw [ea2]; exact hFm _ hn12
    have hP : va_P (dC, dI) vwCl [(hh, .inr (10, [.ref (bb + 0), .ref (bb + 73), .ref (bb + 75), .ref (bb + 76), .ref (bb + 80), .ref (bb + 81), .ref (bb + 88), .ref (bb + 95), .ref (bb + 100), .ref (bb + 106), .int 0, .ref (bb + 107), .int 0])), (bb + 0, .inl (aC 3, 12, .inr (.inr (.inr (.inr (zrefs (fun i => bb + (1 + 6 * i)) 12)))))), (a1, .inr (5, [.int 0, .int 0, .int 0, .int 0, .int 0, .int 0, .int 0, .ref (a1 + 1), .ref (a1 + 2), .ref (a1 + 3), .ref (a1 + 4), .ref (a1 + 5)])), (mm, .inr (15, [.ref (d + 0), .int 0, .ref (d + 1), .int 0, .ref (d + 2), .ref (d + 3), .ref (d + 68), .ref (d + 77), .ref (d + 78), .int 0, .int 0, .ref (d + 79), .int 0, .int 0, .int 0, .ref (d + 80), .int 0, .int 0, .int 0, .int 0, .ref (d + 81), .ref (d + 82), .int (-1), .ref (d + 91), .int 0, .int 0, .ref (d + 92), .int 0, .ref (d + 93), .int 0, .ref (d + 94), .int 0, .ref (d + 95), .ref (d + 96), .ref (d + 97), .ref (d + 98), .int 0, .int 0, .ref (d + 99), .null, .null, .null, .null, .null, .ref (d + 148), .ref (d + 175), .ref (d + 176), .ref (d + 177), .int 0, .ref (d + 178), .ref (d + 179), .ref (d + 180), .ref (d + 185), .ref (d + 190), .ref (d + 191), .ref (d + 192), .ref (d + 193), .ref (d + 201), .ref (d + 209), .ref (d + 210), .ref (d + 211), .ref (d + 272), .ref (d + 273), .int 0, .ref (d + 274)])), (d + 81, .inl (aC 6, 12, .inr (.inr (.inr (.inr (zrefs (fun i => d + (7485 + 9 * i)) 12)))))), (a2, .inr (13, [.int 0, .ref (a2 + 1 + 0), .ref (a2 + 1 + 1), .int 0, .int 0, .int 0, .ref (a2 + 1 + 2), .ref (a2 + 1 + 3), .ref (a2 + 1 + 4), .ref (a2 + 1 + 5), .int 0, .ref (a2 + 1 + 6), .int 0, .int 0, .ref (a2 + 1 + 7)]))] H := zP_c (hPh 0 _ rfl) (zP_c (hPh 1 _ rfl) (zP_c (hSl 0 _ rfl) (zP_c (hPm 0 _ rfl) (zP_c (hPm 15 _ rfl) (zP_c (hTh 0 _ rfl) (zP_n))))))
    have hD : va_D A [(hh, .inr (10, [.ref (bb + 0), .ref (bb + 73), .ref (bb + 75), .ref (bb + 76), .ref (bb + 80), .ref (bb + 81), .ref (bb + 88), .ref (bb + 95), .ref (bb + 100), .ref (bb + 106), .int 0, .ref (bb + 107), .int 0])), (bb + 0, .inl (aC 3, 12, .inr (.inr (.inr (.inr (zrefs (fun i => bb + (1 + 6 * i)) 12)))))), (a1, .inr (5, [.int 0, .int 0, .int 0, .int 0, .int 0, .int 0, .int 0, .ref (a1 + 1), .ref (a1 + 2), .ref (a1 + 3), .ref (a1 + 4), .ref (a1 + 5)])), (mm, .inr (15, [.ref (d + 0), .int 0, .ref (d + 1), .int 0, .ref (d + 2), .ref (d + 3), .ref (d + 68), .ref (d + 77), .ref (d + 78), .int 0, .int 0, .ref (d + 79), .int 0, .int 0, .int 0, .ref (d + 80), .int 0, .int 0, .int 0, .int 0, .ref (d + 81), .ref (d + 82), .int (-1), .ref (d + 91), .int 0, .int 0, .ref (d + 92), .int 0, .ref (d + 93), .int 0, .ref (d + 94), .int 0, .ref (d + 95), .ref (d + 96), .ref (d + 97), .ref (d + 98), .int 0, .int 0, .ref (d + 99), .null, .null, .null, .null, .null, .ref (d + 148), .ref (d + 175), .ref (d + 176), .ref (d + 177), .int 0, .ref (d + 178), .ref (d + 179), .ref (d + 180), .ref (d + 185), .ref (d + 190), .ref (d + 191), .ref (d + 192), .ref (d + 193), .ref (d + 201), .ref (d + 209), .ref (d + 210), .ref (d + 211), .ref (d + 272), .ref (d + 273), .int 0, .ref (d + 274)])), (d + 81, .inl (aC 6, 12, .inr (.inr (.inr (.inr (zrefs (fun i => d + (7485 + 9 * i)) 12)))))), (a2, .inr (13, [.int 0, .ref (a2 + 1 + 0), .ref (a2 + 1 + 1), .int 0, .int 0, .int 0, .ref (a2 + 1 + 2), .ref (a2 + 1 + 3), .ref (a2 + 1 + 4), .ref (a2 + 1 + 5), .int 0, .ref (a2 + 1 + 6), .int 0, .int 0, .ref (a2 + 1 + 7)]))] := zUp_D (lo := s.heap.size) hA (zUp_c (by omega) (zUp_c (by omega) (zUp_c (by omega) (zUp_c (by omega) (zUp_c (by omega) (zUp_c (by omega) (zUp_n)))))))
    clear hPh hFh hPm hFm hSl hTh
    refine lv_aload_n hx hb dL_law_670 rfl (lv_at hl 2 rfl) ?_
    refine lv_aload_n hx hb dL_law_671 rfl (lv_at hl 3 rfl) ?_
    refine lv_iload_n hx hb dL_law_672 rfl (lv_at hl 0 rfl) ?_
    refine lv_iconst (v := 1) hx hb dL_law_673 (by decide) ?_
    refine lv_iadd hx hb dL_law_674 ?_
    refine lv_topi (fun y140175 ey140175 => ?_)
    obtain rfl : y140175 = 1 := by rw [ey140175]; decide
    try clear ey140175
    show W p l e _ s m _ below meth c _ _ _ _ QQ (F0 m 675 ls [.int 1, .ref b, .ref hh])
    refine zsld hx hb hX hbl hbA hS (zvp (by decide)) hx1 dL_law_675 ?_
    refine lv_aload_n hx hb dL_law_676 rfl (lv_at hl 3 rfl) ?_
    refine lv_iload_n hx hb dL_law_677 rfl (lv_at hl 0 rfl) ?_
    refine lv_iconst (v := 2) hx hb dL_law_678 (by decide) ?_
    refine lv_iadd hx hb dL_law_679 ?_
    refine lv_topi (fun y140176 ey140176 => ?_)
    obtain rfl : y140176 = 2 := by rw [ey140176]; decide
    try clear ey140176
    show W p l e _ s m _ below meth c _ _ _ _ QQ (F0 m 680 ls [.int 2, .ref b, .int x1, .ref hh])
    refine zsld hx hb hX hbl hbA hS (zvp (by decide)) hx2 dL_law_680 ?_
    refine lv_aload_n hx hb dL_law_681 rfl (lv_at hl 3 rfl) ?_
    refine lv_iload_n hx hb dL_law_682 rfl (lv_at hl 0 rfl) ?_
    refine lv_iconst (v := 3) hx hb dL_law_683 (by decide) ?_
    refine lv_iadd hx hb dL_law_684 ?_
    refine lv_topi (fun y140177 ey140177 => ?_)
    obtain rfl : y140177 = 3 := by rw [ey140177]; decide
    try clear ey140177
    show W p l e _ s m _ below meth c _ _ _ _ QQ (F0 m 685 ls [.int 3, .ref b, .int x2, .int x1, .ref hh])
    refine zsld hx hb hX hbl hbA hS (zvp (by decide)) hx3 dL_law_685 ?_
    refine zro_i hS hA (va_runV (As := [.int x1, .int x2, .int x3]) (rest := []) ⟨hx, hb, hml, hown, hall⟩ (c_X11_value_in l dC dI aC hh bb a1 x1 x2 x3 H.size hsl) (cwV 3 hall (zgV zw_609 zw_611 zw_612 zw_802 g_X11_value rfl) rfl rfl rfl (by decide +kernel) ⟨Nat.le_of_ble_eq_true rfl, Nat.le_of_ble_eq_true rfl⟩) (zPre_V (As := [.int x1, .int x2, .int x3]) hK hP hD [0, 1, 2] rfl (by decide +kernel) (ci := 10) (q0 := 0) rfl rfl) rfl rfl hl.1 rfl (lv_room (Nat.le_of_ble_eq_true rfl)) dL_law_686 ⟨Nat.le_of_ble_eq_true rfl, Nat.le_of_ble_eq_true rfl⟩) (fun ra L140178 hw hS' => ?_)
    clear hS
    have hS := hS'
    clear hS'
    have hwa := hw
    clear hw
    refine lv_aload_n hx hb dL_law_689 rfl (lv_at hl 1 rfl) ?_
    refine lv_aload_n hx hb dL_law_690 rfl (lv_at hl 3 rfl) ?_
    refine lv_iload_n hx hb dL_law_691 rfl (lv_at hl 0 rfl) ?_
    show W p l e _ s m _ below meth c _ _ _ _ QQ (F0 m 692 ls [.int 0, .ref b, .ref mm, .int ra])
    refine lv_iconst (v := 1) hx hb dL_law_692 (by decide) ?_
    refine lv_iadd hx hb dL_law_693 ?_
    refine lv_topi (fun y140179 ey140179 => ?_)
    obtain rfl : y140179 = 1 := by rw [ey140179]; decide
    try clear ey140179
    refine zsld hx hb hX hbl hbA hS (zvp (by decide)) hx1 dL_law_694 ?_
    refine lv_aload_n hx hb dL_law_695 rfl (lv_at hl 3 rfl) ?_
    refine lv_iload_n hx hb dL_law_696 rfl (lv_at hl 0 rfl) ?_
    show W p l e _ s m _ below meth c _ _ _ _ QQ (F0 m 697 ls [.int 0, .ref b, .int x1, .ref mm, .int ra])
    refine lv_iconst (v := 2) hx hb dL_law_697 (by decide) ?_
    refine lv_iadd hx hb dL_law_698 ?_
    refine lv_topi (fun y140180 ey140180 => ?_)
    obtain rfl : y140180 = 2 := by rw [ey140180]; decide
    try clear ey140180
    refine zsld hx hb hX hbl hbA hS (zvp (by decide)) hx2 dL_law_699 ?_
    refine lv_aload_n hx hb dL_law_700 rfl (lv_at hl 3 rfl) ?_
    refine lv_iload_n hx hb dL_law_701 rfl (lv_at hl 0 rfl) ?_
    show W p l e _ s m _ below meth c _ _ _ _ QQ (F0 m 702 ls [.int 0, .ref b, .int x2, .int x1, .ref mm, .int ra])
    refine lv_iconst (v := 3) hx hb dL_law_702 (by decide) ?_
    refine lv_iadd hx hb dL_law_703 ?_
    refine lv_topi (fun y140181 ey140181 => ?_)
    obtain rfl : y140181 = 3 := by rw [ey140181]; decide
    try clear ey140181
    refine zsld hx hb hX hbl hbA hS (zvp (by decide)) hx3 dL_law_704 ?_
    refine zro_i hS hA (va_runV (As := [.int x1, .int x2, .int x3]) (rest := [.int ra]) ⟨hx, hb, hml, hown, hall⟩ (c_X16_value_in l dC dI aC mm d a2 x1 x2 x3 H.size hk ea2) (cwV 3 hall (zgV zw_613 zw_615 zw_616 zw_812 g_X16_value rfl) rfl rfl rfl (by decide +kernel) ⟨Nat.le_of_ble_eq_true rfl, Nat.le_of_ble_eq_true rfl⟩) (zPre_V (As := [.int x1, .int x2, .int x3]) hK hP hD [3, 4, 5] rfl (by decide +kernel) (ci := 15) (q0 := 0) rfl rfl) rfl rfl hl.1 rfl (lv_room (Nat.le_of_ble_eq_true rfl)) dL_law_705 ⟨Nat.le_of_ble_eq_true rfl, Nat.le_of_ble_eq_true rfl⟩) (fun rb L140182 hw hS' => ?_)
    clear hS
    have hS := hS'
    clear hS'
    have hwb := hw
    clear hw
    refine lv_icmp_eq (tgt := 1443) hx hb dL_law_708 (by decide) (fun _ => ?_) (fun hne => absurd (hwa.trans hwb.symm) hne)
    subst hQ
    subst hAe
    exact law_tail C1 (Nat.le_of_ble_eq_true rfl) (Nat.le_of_ble_eq_true rfl) hS (lv_sub hl [0, 3] rfl)
  · have hP : va_P (dC, dI) vwCl [(hh, .inr (10, [.ref (bb + 0), .ref (bb + 73), .ref (bb + 75), .ref (bb + 76), .ref (bb + 80), .ref (bb + 81), .ref (bb + 88), .ref (bb + 95), .ref (bb + 100), .ref (bb + 106), .int 0, .ref (bb + 107), .int 0])), (bb + 0, .inl (aC 3, 12, .inr (.inr (.inr (.inr (zrefs (fun i => bb + (1 + 6 * i)) 12)))))), (mm, .inr (15, [.ref (d + 0), .int 0, .ref (d + 1), .int 0, .ref (d + 2), .ref (d + 3), .ref (d + 68), .ref (d + 77), .ref (d + 78), .int 0, .int 0, .ref (d + 79), .int 0, .int 0, .int 0, .ref (d + 80), .int 0, .int 0, .int 0, .int 0, .ref (d + 81), .ref (d + 82), .int (-1), .ref (d + 91), .int 0, .int 0, .ref (d + 92), .int 0, .ref (d + 93), .int 0, .ref (d + 94), .int 0, .ref (d + 95), .ref (d + 96), .ref (d + 97), .ref (d + 98), .int 0, .int 0, .ref (d + 99), .null, .null, .null, .null, .null, .ref (d + 148), .ref (d + 175), .ref (d + 176), .ref (d + 177), .int 0, .ref (d + 178), .ref (d + 179), .ref (d + 180), .ref (d + 185), .ref (d + 190), .ref (d + 191), .ref (d + 192), .ref (d + 193), .ref (d + 201), .ref (d + 209), .ref (d + 210), .ref (d + 211), .ref (d + 272), .ref (d + 273), .int 0, .ref (d + 274)])), (d + 81, .inl (aC 6, 12, .inr (.inr (.inr (.inr (zrefs (fun i => d + (7485 + 9 * i)) 12))))))] H := zP_c (hPh 0 _ rfl) (zP_c (hPh 1 _ rfl) (zP_c (hPm 0 _ rfl) (zP_c (hPm 15 _ rfl) (zP_n))))
    have hD : va_D A [(hh, .inr (10, [.ref (bb + 0), .ref (bb + 73), .ref (bb + 75), .ref (bb + 76), .ref (bb + 80), .ref (bb + 81), .ref (bb + 88), .ref (bb + 95), .ref (bb + 100), .ref (bb + 106), .int 0, .ref (bb + 107), .int 0])), (bb + 0, .inl (aC 3, 12, .inr (.inr (.inr (.inr (zrefs (fun i => bb + (1 + 6 * i)) 12)))))), (mm, .inr (15, [.ref (d + 0), .int 0, .ref (d + 1), .int 0, .ref (d + 2), .ref (d + 3), .ref (d + 68), .ref (d + 77), .ref (d + 78), .int 0, .int 0, .ref (d + 79), .int 0, .int 0, .int 0, .ref (d + 80), .int 0, .int 0, .int 0, .int 0, .ref (d + 81), .ref (d + 82), .int (-1), .ref (d + 91), .int 0, .int 0, .ref (d + 92), .int 0, .ref (d + 93), .int 0, .ref (d + 94), .int 0, .ref (d + 95), .ref (d + 96), .ref (d + 97), .ref (d + 98), .int 0, .int 0, .ref (d + 99), .null, .null, .null, .null, .null, .ref (d + 148), .ref (d + 175), .ref (d + 176), .ref (d + 177), .int 0, .ref (d + 178), .ref (d + 179), .ref (d + 180), .ref (d + 185), .ref (d + 190), .ref (d + 191), .ref (d + 192), .ref (d + 193), .ref (d + 201), .ref (d + 209), .ref (d + 210), .ref (d + 211), .ref (d + 272), .ref (d + 273), .int 0, .ref (d + 274)])), (d + 81, .inl (aC 6, 12, .inr (.inr (.inr (.inr (zrefs (fun i => d + (7485 + 9 * i)) 12))))))] := zUp_D (lo := s.heap.size) hA (zUp_c (by omega) (zUp_c (by omega) (zUp_c (by omega) (zUp_c (by omega) (zUp_n)))))
    clear hPh hFh hPm hFm
    refine lv_aload_n hx hb dL_law_670 rfl (lv_at hl 2 rfl) ?_
    refine lv_aload_n hx hb dL_law_671 rfl (lv_at hl 3 rfl) ?_
    refine lv_iload_n hx hb dL_law_672 rfl (lv_at hl 0 rfl) ?_
    refine lv_iconst (v := 1) hx hb dL_law_673 (by decide) ?_
    refine lv_iadd hx hb dL_law_674 ?_
    refine lv_topi (fun y140183 ey140183 => ?_)
    obtain rfl : y140183 = 1 := by rw [ey140183]; decide
    try clear ey140183
    show W p l e _ s m _ below meth c _ _ _ _ QQ (F0 m 675 ls [.int 1, .ref b, .ref hh])
    refine zsld hx hb hX hbl hbA hS (zvp (by decide)) hx1 dL_law_675 ?_
    refine lv_aload_n hx hb dL_law_676 rfl (lv_at hl 3 rfl) ?_
    refine lv_iload_n hx hb dL_law_677 rfl (lv_at hl 0 rfl) ?_
    refine lv_iconst (v := 2) hx hb dL_law_678 (by decide) ?_
    refine lv_iadd hx hb dL_law_679 ?_
    refine lv_topi (fun y140184 ey140184 => ?_)
    obtain rfl : y140184 = 2 := by rw [ey140184]; decide
    try clear ey140184
    show W p l e _ s m _ below meth c _ _ _ _ QQ (F0 m 680 ls [.int 2, .ref b, .int x1, .ref hh])
    refine zsld hx hb hX hbl hbA hS (zvp (by decide)) hx2 dL_law_680 ?_
    refine lv_aload_n hx hb dL_law_681 rfl (lv_at hl 3 rfl) ?_
    refine lv_iload_n hx hb dL_law_682 rfl (lv_at hl 0 rfl) ?_
    refine lv_iconst (v := 3) hx hb dL_law_683 (by decide) ?_
    refine lv_iadd hx hb dL_law_684 ?_
    refine lv_topi (fun y140185 ey140185 => ?_)
    obtain rfl : y140185 = 3 := by rw [ey140185]; decide
    try clear ey140185
    show W p l e _ s m _ below meth c _ _ _ _ QQ (F0 m 685 ls [.int 3, .ref b, .int x2, .int x1, .ref hh])
    refine zsld hx hb hX hbl hbA hS (zvp (by decide)) hx3 dL_law_685 ?_
    refine zro_i hS hA (va_runV (As := [.int x1, .int x2, .int x3]) (rest := []) ⟨hx, hb, hml, hown, hall⟩ (c_X11_value_out l dC dI aC hh bb x1 x2 x3 H.size (zslot_0 hk)) (cwV 3 hall (zgV zw_609 zw_611 zw_612 zw_802 g_X11_value rfl) rfl rfl rfl (by decide +kernel) ⟨Nat.le_of_ble_eq_true rfl, Nat.le_of_ble_eq_true rfl⟩) (zPre_V (As := [.int x1, .int x2, .int x3]) hK hP hD [0, 1] rfl (by decide +kernel) (ci := 10) (q0 := 0) rfl rfl) rfl rfl hl.1 rfl (lv_room (Nat.le_of_ble_eq_true rfl)) dL_law_686 ⟨Nat.le_of_ble_eq_true rfl, Nat.le_of_ble_eq_true rfl⟩) (fun ra L140186 hw hS' => ?_)
    clear hS
    have hS := hS'
    clear hS'
    have hwa := hw
    clear hw
    refine lv_aload_n hx hb dL_law_689 rfl (lv_at hl 1 rfl) ?_
    refine lv_aload_n hx hb dL_law_690 rfl (lv_at hl 3 rfl) ?_
    refine lv_iload_n hx hb dL_law_691 rfl (lv_at hl 0 rfl) ?_
    show W p l e _ s m _ below meth c _ _ _ _ QQ (F0 m 692 ls [.int 0, .ref b, .ref mm, .int ra])
    refine lv_iconst (v := 1) hx hb dL_law_692 (by decide) ?_
    refine lv_iadd hx hb dL_law_693 ?_
    refine lv_topi (fun y140187 ey140187 => ?_)
    obtain rfl : y140187 = 1 := by rw [ey140187]; decide
    try clear ey140187
    refine zsld hx hb hX hbl hbA hS (zvp (by decide)) hx1 dL_law_694 ?_
    refine lv_aload_n hx hb dL_law_695 rfl (lv_at hl 3 rfl) ?_
    refine lv_iload_n hx hb dL_law_696 rfl (lv_at hl 0 rfl) ?_
    show W p l e _ s m _ below meth c _ _ _ _ QQ (F0 m 697 ls [.int 0, .ref b, .int x1, .ref mm, .int ra])
    refine lv_iconst (v := 2) hx hb dL_law_697 (by decide) ?_
    refine lv_iadd hx hb dL_law_698 ?_
    refine lv_topi (fun y140188 ey140188 => ?_)
    obtain rfl : y140188 = 2 := by rw [ey140188]; decide
    try clear ey140188
    refine zsld hx hb hX hbl hbA hS (zvp (by decide)) hx2 dL_law_699 ?_
    refine lv_aload_n hx hb dL_law_700 rfl (lv_at hl 3 rfl) ?_
    refine lv_iload_n hx hb dL_law_701 rfl (lv_at hl 0 rfl) ?_
    show W p l e _ s m _ below meth c _ _ _ _ QQ (F0 m 702 ls [.int 0, .ref b, .int x2, .int x1, .ref mm, .int ra])
    refine lv_iconst (v := 3) hx hb dL_law_702 (by decide) ?_
    refine lv_iadd hx hb dL_law_703 ?_
    refine lv_topi (fun y140189 ey140189 => ?_)
    obtain rfl : y140189 = 3 := by rw [ey140189]; decide
    try clear ey140189
    refine zsld hx hb hX hbl hbA hS (zvp (by decide)) hx3 dL_law_704 ?_
    refine zro_i hS hA (va_runV (As := [.int x1, .int x2, .int x3]) (rest := [.int ra]) ⟨hx, hb, hml, hown, hall⟩ (c_X16_value_out l dC dI aC mm d x1 x2 x3 H.size hk) (cwV 3 hall (zgV zw_613 zw_615 zw_616 zw_812 g_X16_value rfl) rfl rfl rfl (by decide +kernel) ⟨Nat.le_of_ble_eq_true rfl, Nat.le_of_ble_eq_true rfl⟩) (zPre_V (As := [.int x1, .int x2, .int x3]) hK hP hD [2, 3] rfl (by decide +kernel) (ci := 15) (q0 := 0) rfl rfl) rfl rfl hl.1 rfl (lv_room (Nat.le_of_ble_eq_true rfl)) dL_law_705 ⟨Nat.le_of_ble_eq_true rfl, Nat.le_of_ble_eq_true rfl⟩) (fun rb L140190 hw hS' => ?_)
    clear hS
    have hS := hS'
    clear hS'
    have hwb := hw
    clear hw
    refine lv_icmp_eq (tgt := 1443) hx hb dL_law_708 (by decide) (fun _ => ?_) (fun hne => absurd (hwa.trans hwb.symm) hne)
    subst hQ
    subst hAe
    exact law_tail C1 (Nat.le_of_ble_eq_true rfl) (Nat.le_of_ble_eq_true rfl) hS (lv_sub hl [0, 3] rfl)
