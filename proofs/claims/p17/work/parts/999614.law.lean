theorem dL_law_462 : decode cL_law 462 = .ok (.aload_n 1, 1) := by decide +kernel
theorem dL_law_463 : decode cL_law 463 = .ok (.aload_n 0, 1) := by decide +kernel
theorem dL_law_464 : decode cL_law 464 = .ok (.iload 4, 2) := by decide +kernel
theorem dL_law_466 : decode cL_law 466 = .ok (.iconst 1, 1) := by decide +kernel
theorem dL_law_467 : decode cL_law 467 = .ok (.iadd, 1) := by decide +kernel
theorem dL_law_468 : decode cL_law 468 = .ok (.iaload, 1) := by decide +kernel
theorem dL_law_469 : decode cL_law 469 = .ok (.invokevirtual 52, 3) := by decide +kernel
theorem dL_law_472 : decode cL_law 472 = .ok (.pop, 1) := by decide +kernel
theorem dL_law_473 : decode cL_law 473 = .ok (.aload_n 2, 1) := by decide +kernel
theorem dL_law_474 : decode cL_law 474 = .ok (.aload_n 0, 1) := by decide +kernel
theorem dL_law_475 : decode cL_law 475 = .ok (.iload 4, 2) := by decide +kernel
theorem dL_law_477 : decode cL_law 477 = .ok (.iconst 1, 1) := by decide +kernel
theorem dL_law_478 : decode cL_law 478 = .ok (.iadd, 1) := by decide +kernel
theorem dL_law_479 : decode cL_law 479 = .ok (.iaload, 1) := by decide +kernel
theorem dL_law_480 : decode cL_law 480 = .ok (.invokevirtual 55, 3) := by decide +kernel
theorem dL_law_483 : decode cL_law 483 = .ok (.pop, 1) := by decide +kernel
theorem dL_law_484 : decode cL_law 484 = .ok (.goto 865, 3) := by decide +kernel
theorem dL_law_487 : decode cL_law 487 = .ok (.aload_n 1, 1) := by decide +kernel
theorem dL_law_488 : decode cL_law 488 = .ok (.aload_n 0, 1) := by decide +kernel
theorem dL_law_489 : decode cL_law 489 = .ok (.iload 4, 2) := by decide +kernel
theorem dL_law_491 : decode cL_law 491 = .ok (.iconst 1, 1) := by decide +kernel
theorem dL_law_492 : decode cL_law 492 = .ok (.iadd, 1) := by decide +kernel
theorem dL_law_493 : decode cL_law 493 = .ok (.iaload, 1) := by decide +kernel
theorem dL_law_494 : decode cL_law 494 = .ok (.invokevirtual 56, 3) := by decide +kernel
theorem dL_law_497 : decode cL_law 497 = .ok (.pop, 1) := by decide +kernel
theorem dL_law_498 : decode cL_law 498 = .ok (.aload_n 2, 1) := by decide +kernel
theorem dL_law_499 : decode cL_law 499 = .ok (.aload_n 0, 1) := by decide +kernel
theorem dL_law_500 : decode cL_law 500 = .ok (.iload 4, 2) := by decide +kernel
theorem dL_law_502 : decode cL_law 502 = .ok (.iconst 1, 1) := by decide +kernel
theorem dL_law_503 : decode cL_law 503 = .ok (.iadd, 1) := by decide +kernel
theorem dL_law_504 : decode cL_law 504 = .ok (.iaload, 1) := by decide +kernel
theorem dL_law_505 : decode cL_law 505 = .ok (.invokevirtual 59, 3) := by decide +kernel
theorem dL_law_508 : decode cL_law 508 = .ok (.pop, 1) := by decide +kernel
theorem dL_law_509 : decode cL_law 509 = .ok (.goto 840, 3) := by decide +kernel
theorem dL_law_512 : decode cL_law 512 = .ok (.aload_n 1, 1) := by decide +kernel
theorem dL_law_513 : decode cL_law 513 = .ok (.aload_n 0, 1) := by decide +kernel
theorem dL_law_514 : decode cL_law 514 = .ok (.iload 4, 2) := by decide +kernel
theorem dL_law_516 : decode cL_law 516 = .ok (.iconst 1, 1) := by decide +kernel
theorem dL_law_517 : decode cL_law 517 = .ok (.iadd, 1) := by decide +kernel
theorem dL_law_518 : decode cL_law 518 = .ok (.iaload, 1) := by decide +kernel
theorem dL_law_519 : decode cL_law 519 = .ok (.aload_n 0, 1) := by decide +kernel
theorem dL_law_520 : decode cL_law 520 = .ok (.iload 4, 2) := by decide +kernel
theorem dL_law_522 : decode cL_law 522 = .ok (.iconst 2, 1) := by decide +kernel
theorem dL_law_523 : decode cL_law 523 = .ok (.iadd, 1) := by decide +kernel
theorem dL_law_524 : decode cL_law 524 = .ok (.iaload, 1) := by decide +kernel
theorem dL_law_525 : decode cL_law 525 = .ok (.aload_n 0, 1) := by decide +kernel
theorem dL_law_526 : decode cL_law 526 = .ok (.iload 4, 2) := by decide +kernel
theorem dL_law_528 : decode cL_law 528 = .ok (.iconst 3, 1) := by decide +kernel
theorem dL_law_529 : decode cL_law 529 = .ok (.iadd, 1) := by decide +kernel
theorem dL_law_530 : decode cL_law 530 = .ok (.iaload, 1) := by decide +kernel
theorem dL_law_531 : decode cL_law 531 = .ok (.invokevirtual 60, 3) := by decide +kernel
theorem dL_law_534 : decode cL_law 534 = .ok (.pop, 1) := by decide +kernel
theorem dL_law_535 : decode cL_law 535 = .ok (.aload_n 2, 1) := by decide +kernel
theorem dL_law_536 : decode cL_law 536 = .ok (.aload_n 0, 1) := by decide +kernel
theorem dL_law_537 : decode cL_law 537 = .ok (.iload 4, 2) := by decide +kernel
theorem dL_law_539 : decode cL_law 539 = .ok (.iconst 1, 1) := by decide +kernel
theorem dL_law_540 : decode cL_law 540 = .ok (.iadd, 1) := by decide +kernel
theorem dL_law_541 : decode cL_law 541 = .ok (.iaload, 1) := by decide +kernel
theorem dL_law_542 : decode cL_law 542 = .ok (.aload_n 0, 1) := by decide +kernel
theorem dL_law_543 : decode cL_law 543 = .ok (.iload 4, 2) := by decide +kernel
theorem dL_law_545 : decode cL_law 545 = .ok (.iconst 2, 1) := by decide +kernel
theorem dL_law_546 : decode cL_law 546 = .ok (.iadd, 1) := by decide +kernel
theorem dL_law_547 : decode cL_law 547 = .ok (.iaload, 1) := by decide +kernel
theorem dL_law_548 : decode cL_law 548 = .ok (.aload_n 0, 1) := by decide +kernel
theorem dL_law_549 : decode cL_law 549 = .ok (.iload 4, 2) := by decide +kernel
theorem dL_law_551 : decode cL_law 551 = .ok (.iconst 3, 1) := by decide +kernel
theorem dL_law_552 : decode cL_law 552 = .ok (.iadd, 1) := by decide +kernel
theorem dL_law_553 : decode cL_law 553 = .ok (.iaload, 1) := by decide +kernel
theorem dL_law_554 : decode cL_law 554 = .ok (.invokevirtual 64, 3) := by decide +kernel
theorem dL_law_557 : decode cL_law 557 = .ok (.pop, 1) := by decide +kernel
theorem dL_law_558 : decode cL_law 558 = .ok (.goto 791, 3) := by decide +kernel
theorem dL_law_561 : decode cL_law 561 = .ok (.aload_n 1, 1) := by decide +kernel
theorem dL_law_562 : decode cL_law 562 = .ok (.invokevirtual 65, 3) := by decide +kernel
theorem dL_law_565 : decode cL_law 565 = .ok (.pop, 1) := by decide +kernel
theorem dL_law_566 : decode cL_law 566 = .ok (.aload_n 2, 1) := by decide +kernel
theorem dL_law_567 : decode cL_law 567 = .ok (.invokevirtual 69, 3) := by decide +kernel
theorem dL_law_570 : decode cL_law 570 = .ok (.pop, 1) := by decide +kernel
theorem dL_law_571 : decode cL_law 571 = .ok (.goto 778, 3) := by decide +kernel
theorem dL_law_574 : decode cL_law 574 = .ok (.aload_n 1, 1) := by decide +kernel
theorem dL_law_575 : decode cL_law 575 = .ok (.aload_n 0, 1) := by decide +kernel
theorem dL_law_576 : decode cL_law 576 = .ok (.iload 4, 2) := by decide +kernel
theorem dL_law_578 : decode cL_law 578 = .ok (.iconst 1, 1) := by decide +kernel
theorem dL_law_579 : decode cL_law 579 = .ok (.iadd, 1) := by decide +kernel
theorem dL_law_580 : decode cL_law 580 = .ok (.iaload, 1) := by decide +kernel
theorem dL_law_581 : decode cL_law 581 = .ok (.invokevirtual 70, 3) := by decide +kernel
theorem dL_law_584 : decode cL_law 584 = .ok (.pop, 1) := by decide +kernel
theorem dL_law_585 : decode cL_law 585 = .ok (.aload_n 2, 1) := by decide +kernel
theorem dL_law_586 : decode cL_law 586 = .ok (.aload_n 0, 1) := by decide +kernel
theorem dL_law_587 : decode cL_law 587 = .ok (.iload 4, 2) := by decide +kernel
theorem dL_law_589 : decode cL_law 589 = .ok (.iconst 1, 1) := by decide +kernel
theorem dL_law_590 : decode cL_law 590 = .ok (.iadd, 1) := by decide +kernel
theorem dL_law_591 : decode cL_law 591 = .ok (.iaload, 1) := by decide +kernel
theorem dL_law_592 : decode cL_law 592 = .ok (.invokevirtual 73, 3) := by decide +kernel
theorem dL_law_595 : decode cL_law 595 = .ok (.pop, 1) := by decide +kernel
theorem dL_law_596 : decode cL_law 596 = .ok (.goto 753, 3) := by decide +kernel
theorem dL_law_599 : decode cL_law 599 = .ok (.aload_n 1, 1) := by decide +kernel
theorem dL_law_600 : decode cL_law 600 = .ok (.aload_n 0, 1) := by decide +kernel
theorem dL_law_601 : decode cL_law 601 = .ok (.iload 4, 2) := by decide +kernel
theorem dL_law_603 : decode cL_law 603 = .ok (.iconst 1, 1) := by decide +kernel
theorem dL_law_604 : decode cL_law 604 = .ok (.iadd, 1) := by decide +kernel
theorem dL_law_605 : decode cL_law 605 = .ok (.iaload, 1) := by decide +kernel
theorem dL_law_606 : decode cL_law 606 = .ok (.aload_n 0, 1) := by decide +kernel
theorem dL_law_607 : decode cL_law 607 = .ok (.iload 4, 2) := by decide +kernel
theorem dL_law_609 : decode cL_law 609 = .ok (.iconst 2, 1) := by decide +kernel
theorem dL_law_610 : decode cL_law 610 = .ok (.iadd, 1) := by decide +kernel
theorem dL_law_611 : decode cL_law 611 = .ok (.iaload, 1) := by decide +kernel
theorem dL_law_612 : decode cL_law 612 = .ok (.i2l, 1) := by decide +kernel
theorem dL_law_613 : decode cL_law 613 = .ok (.bipush 32, 2) := by decide +kernel
theorem dL_law_615 : decode cL_law 615 = .ok (.lshl, 1) := by decide +kernel
theorem dL_law_616 : decode cL_law 616 = .ok (.aload_n 0, 1) := by decide +kernel
theorem dL_law_617 : decode cL_law 617 = .ok (.iload 4, 2) := by decide +kernel
theorem dL_law_619 : decode cL_law 619 = .ok (.iconst 3, 1) := by decide +kernel
theorem dL_law_620 : decode cL_law 620 = .ok (.iadd, 1) := by decide +kernel
theorem dL_law_621 : decode cL_law 621 = .ok (.iaload, 1) := by decide +kernel
theorem dL_law_622 : decode cL_law 622 = .ok (.i2l, 1) := by decide +kernel
theorem dL_law_623 : decode cL_law 623 = .ok (.ldc2_w 74, 3) := by decide +kernel
theorem dL_law_626 : decode cL_law 626 = .ok (.land, 1) := by decide +kernel
theorem dL_law_627 : decode cL_law 627 = .ok (.lor, 1) := by decide +kernel
theorem dL_law_628 : decode cL_law 628 = .ok (.invokevirtual 76, 3) := by decide +kernel
theorem dL_law_631 : decode cL_law 631 = .ok (.pop, 1) := by decide +kernel
theorem dL_law_632 : decode cL_law 632 = .ok (.aload_n 2, 1) := by decide +kernel
theorem dL_law_633 : decode cL_law 633 = .ok (.aload_n 0, 1) := by decide +kernel
theorem dL_law_634 : decode cL_law 634 = .ok (.iload 4, 2) := by decide +kernel
theorem dL_law_636 : decode cL_law 636 = .ok (.iconst 1, 1) := by decide +kernel
theorem dL_law_637 : decode cL_law 637 = .ok (.iadd, 1) := by decide +kernel
theorem dL_law_638 : decode cL_law 638 = .ok (.iaload, 1) := by decide +kernel
theorem dL_law_639 : decode cL_law 639 = .ok (.aload_n 0, 1) := by decide +kernel
theorem dL_law_640 : decode cL_law 640 = .ok (.iload 4, 2) := by decide +kernel
theorem dL_law_642 : decode cL_law 642 = .ok (.iconst 2, 1) := by decide +kernel
theorem dL_law_643 : decode cL_law 643 = .ok (.iadd, 1) := by decide +kernel
theorem dL_law_644 : decode cL_law 644 = .ok (.iaload, 1) := by decide +kernel
theorem dL_law_645 : decode cL_law 645 = .ok (.i2l, 1) := by decide +kernel
theorem dL_law_646 : decode cL_law 646 = .ok (.bipush 32, 2) := by decide +kernel
theorem dL_law_648 : decode cL_law 648 = .ok (.lshl, 1) := by decide +kernel
theorem dL_law_649 : decode cL_law 649 = .ok (.aload_n 0, 1) := by decide +kernel
theorem dL_law_650 : decode cL_law 650 = .ok (.iload 4, 2) := by decide +kernel
theorem dL_law_652 : decode cL_law 652 = .ok (.iconst 3, 1) := by decide +kernel
theorem dL_law_653 : decode cL_law 653 = .ok (.iadd, 1) := by decide +kernel
theorem dL_law_654 : decode cL_law 654 = .ok (.iaload, 1) := by decide +kernel
theorem dL_law_655 : decode cL_law 655 = .ok (.i2l, 1) := by decide +kernel
theorem dL_law_656 : decode cL_law 656 = .ok (.ldc2_w 74, 3) := by decide +kernel
theorem dL_law_659 : decode cL_law 659 = .ok (.land, 1) := by decide +kernel
theorem dL_law_660 : decode cL_law 660 = .ok (.lor, 1) := by decide +kernel
theorem dL_law_661 : decode cL_law 661 = .ok (.invokevirtual 80, 3) := by decide +kernel
theorem dL_law_664 : decode cL_law 664 = .ok (.pop, 1) := by decide +kernel
theorem dL_law_665 : decode cL_law 665 = .ok (.goto 684, 3) := by decide +kernel
theorem wl_4_82 : (.methodLink RL 52 yX11_drought : Cond) ∈ sg_tbl := tb_4 _ (List.mem_of_getElem? (i := 82) (by decide +kernel)) (by decide +kernel)
theorem wl_8_81 : (.methodLink RL 55 yX12_drought : Cond) ∈ sg_tbl := tb_8 _ (List.mem_of_getElem? (i := 81) (by decide +kernel)) (by decide +kernel)
theorem wl_4_86 : (.methodLink RL 56 yX11_grow : Cond) ∈ sg_tbl := tb_4 _ (List.mem_of_getElem? (i := 86) (by decide +kernel)) (by decide +kernel)
theorem wl_8_86 : (.methodLink RL 59 yX12_grow : Cond) ∈ sg_tbl := tb_8 _ (List.mem_of_getElem? (i := 86) (by decide +kernel)) (by decide +kernel)
theorem wl_4_181 : (.methodLink RL 60 yX11_cut : Cond) ∈ sg_tbl := tb_4 _ (List.mem_of_getElem? (i := 181) (by decide +kernel)) (by decide +kernel)
theorem wl_8_113 : (.methodLink RL 64 yX12_cut : Cond) ∈ sg_tbl := tb_8 _ (List.mem_of_getElem? (i := 113) (by decide +kernel)) (by decide +kernel)
theorem wl_4_185 : (.methodLink RL 65 yX11_sit : Cond) ∈ sg_tbl := tb_4 _ (List.mem_of_getElem? (i := 185) (by decide +kernel)) (by decide +kernel)
theorem wl_8_129 : (.methodLink RL 69 yX12_sit : Cond) ∈ sg_tbl := tb_8 _ (List.mem_of_getElem? (i := 129) (by decide +kernel)) (by decide +kernel)
theorem wl_4_189 : (.methodLink RL 70 yX11_mole : Cond) ∈ sg_tbl := tb_4 _ (List.mem_of_getElem? (i := 189) (by decide +kernel)) (by decide +kernel)
theorem wl_8_136 : (.methodLink RL 73 yX12_mole : Cond) ∈ sg_tbl := tb_8 _ (List.mem_of_getElem? (i := 136) (by decide +kernel)) (by decide +kernel)
theorem wl_9_162 : (.constantLong RL 74 (4294967295) : Cond) ∈ sg_tbl := tb_9 _ (List.mem_of_getElem? (i := 162) (by decide +kernel)) (by decide +kernel)
theorem wl_4_194 : (.methodLink RL 76 yX11_games : Cond) ∈ sg_tbl := tb_4 _ (List.mem_of_getElem? (i := 194) (by decide +kernel)) (by decide +kernel)
theorem wl_8_147 : (.methodLink RL 80 yX12_games : Cond) ∈ sg_tbl := tb_8 _ (List.mem_of_getElem? (i := 147) (by decide +kernel)) (by decide +kernel)
section
variable {p : Program} {l : Launch} {e : Env} {R : Room} {s : State} {m : MethodId} {args : Array Value} {below : List Frame} {meth : Method} {c : Code} {H : Heap} {locs : List Loc} {cells slots : Nat} {Q : State → Prop} {cc : ByteArray} {nL pc : Nat} {ls : Array Slot} {rest : List Value} {own : String} {D : va_G} {A : Nat → Prop} {tys : List (ClassId × FieldType)} {ad ks : List Nat} {P : sgPm} {H0 : Heap} {index : Nat} {base : Nat} {st0 : List Value} {a : Nat}

set_option maxHeartbeats 8000000 in
set_option maxRecDepth 100000 in
theorem law_case_7 {p : Program} {l : Launch} {e : Env} {s : State} {m : MethodId} {below : List Frame} {meth : Method} {c : Code} {b L : Nat} {xs : Nat → Int32} {D : va_G} (C : lwC p l e s m below meth c b L xs) {n : Nat} {P : sgPm} {tys : List (ClassId × FieldType)} {ad ks : List Nat} {xx mm oq : Nat} {H : Heap} {locs : List Loc} (hW : lwV D n P tys ad ks xx mm oq s H) (hS : va_S (fun q : Nat => s.heap.size ≤ q) s.heap H locs) {i : Int32} (hi0 : 0 ≤ i.toInt) (hi6 : i.toInt + 6 ≤ L) (hn : n ≤ 511) {ls : Array Slot} (hl : lv_has ls 7 [(4, .int i), (3, .ref oq), (2, .ref mm), (1, .ref xx), (0, .ref b)]) {cells slots : Nat} (hc : cells + 4 ≤ 601024) (hs : slots + 8300 ≤ 7293034) {Q : State → Prop}
    (kk : ∀ (P1 : sgPm) (tys1 : List (ClassId × FieldType)) (ad1 ks1 : List Nat) (H1 : Heap) (locs1 : List Loc) (ls1 : Array Slot), lwV D (n + 1) P1 tys1 ad1 ks1 xx mm oq s H1 → va_S (fun q : Nat => s.heap.size ≤ q) s.heap H1 locs1 → lv_has ls1 7 [(4, .int i), (3, .ref oq), (2, .ref mm), (1, .ref xx), (0, .ref b)] → W p l e room_1 s m #[.ref b] below meth c H1 locs1 (cells + 4) (slots + 8300) Q (F0 m 1349 ls1 [])) :
    W p l e room_1 s m #[.ref b] below meth c H locs cells slots Q (F0 m 462 ls []) := by
  obtain ⟨X, hC, hX, hbl, hL⟩ := C
  obtain ⟨hK, hG, hxx, hmm, hoq, hpin, hN0, hinv, hgl⟩ := id hW
  have hp10 := hpin
  have hb : s.heap.size ≤ s.heap.size := Nat.le_refl _
  have hbA : ¬ (fun q : Nat => s.heap.size ≤ q) b := Nat.not_le.mpr hbl
  have lwr : cells ≤ room_1.cells ∧ slots ≤ room_1.slots := ⟨by show cells ≤ 601024; omega, by show slots ≤ 7293034; omega⟩
  have lwr1 : cells + 1 ≤ room_1.cells ∧ slots + 8256 ≤ room_1.slots := ⟨by show cells + 1 ≤ 601024; omega, by show slots + 8256 ≤ 7293034; omega⟩
  have lwr2 : cells + 1 ≤ room_1.cells ∧ slots + 4096 ≤ room_1.slots := ⟨by show cells + 1 ≤ 601024; omega, by show slots + 4096 ≤ 7293034; omega⟩
  have hgi := hgl.1.1
  have hgg := hgl.2.1
  have hpk := hm_pk hgl.2
  have hl0 := sgInv_l1 hinv
  have hby := sgInv_b1 hinv
  refine lv_aload_n X.1 X.2.1 dL_law_462 rfl (lv_at hl 3 rfl) ?_
  refine lv_aload_n X.1 X.2.1 dL_law_463 rfl (lv_at hl 4 rfl) ?_
  refine lv_iload X.1 X.2.1 dL_law_464 (lv_at hl 0 rfl) ?_
  refine lv_iconst (v := 1) X.1 X.2.1 dL_law_466 (by decide +kernel) ?_
  refine lv_iadd X.1 X.2.1 dL_law_467 ?_
  refine lv_topi (fun f1 ef1 => ?_)
  refine va_sld (i := f1) X.1 X.2.1 hX hbl hbA hS (lw_ix ef1 hi0 hi6 hL (by decide +kernel)) dL_law_468 ?_
  refine ca_X11_drought X hK hG hC hS hb xx hxx (xs f1.toNatClampNeg) wl_4_82 hl.1 (rest := []) rfl (Nat.le_of_ble_eq_true rfl) ⟨Nat.le_of_ble_eq_true rfl, Nat.le_of_ble_eq_true rfl⟩ lwr dL_law_469 (fun f3 tf3 H locs htf3 hf3 hWf3 hS => ?_)
  obtain ⟨d1, hBf3⟩ := sgDr1_of (B := fun P1 => sgB (KT P1) D vwCl _ tys ad ks _) hWf3
  have hG := hBf3.2.2.2
  rw [htf3] at hG
  refine lv_pop X.1 X.2.1 dL_law_472 rfl ?_
  refine lv_aload_n X.1 X.2.1 dL_law_473 rfl (lv_at hl 2 rfl) ?_
  refine lv_aload_n X.1 X.2.1 dL_law_474 rfl (lv_at hl 4 rfl) ?_
  refine lv_iload X.1 X.2.1 dL_law_475 (lv_at hl 0 rfl) ?_
  refine lv_iconst (v := 1) X.1 X.2.1 dL_law_477 (by decide +kernel) ?_
  refine lv_iadd X.1 X.2.1 dL_law_478 ?_
  refine lv_topi (fun f4 ef4 => ?_)
  refine va_sld (i := f4) X.1 X.2.1 hX hbl hbA hS (lw_ix ef4 hi0 hi6 hL (by decide +kernel)) dL_law_479 ?_
  refine ca_X12_drought X hK hG hC hS hb mm hmm (xs f4.toNatClampNeg) wl_8_81 hl.1 (rest := []) rfl (Nat.le_of_ble_eq_true rfl) ⟨Nat.le_of_ble_eq_true rfl, Nat.le_of_ble_eq_true rfl⟩ lwr dL_law_480 (fun f6 tf6 H locs htf6 hf6 hWf6 hS => ?_)
  obtain ⟨d2, hBf6⟩ := sgDr2_of (B := fun P1 => sgB (KT P1) D vwCl _ tys ad ks _) hWf6
  have hG := hBf6.2.2.2
  rw [htf6] at hG
  refine lv_pop X.1 X.2.1 dL_law_483 rfl ?_
  refine lv_goto (tgt := 1349) X.1 X.2.1 dL_law_484 (by decide) ?_
  refine W.widen (k := cells + 4) (n := slots + 8300) (by omega) (by omega) ?_
  exact kk _ _ _ _ _ _ _ (lwV_next hW hK hG hpin (Nat.le_add_right _ _) (sgMo.rf _ _) (sgInv_of hinv rfl rfl rfl rfl rfl) (sgHx_of hgl rfl rfl rfl rfl rfl rfl)) hS (lv_sub hl [0, 1, 2, 3, 4] rfl)

set_option maxHeartbeats 8000000 in
set_option maxRecDepth 100000 in
theorem law_case_8 {p : Program} {l : Launch} {e : Env} {s : State} {m : MethodId} {below : List Frame} {meth : Method} {c : Code} {b L : Nat} {xs : Nat → Int32} {D : va_G} (C : lwC p l e s m below meth c b L xs) {n : Nat} {P : sgPm} {tys : List (ClassId × FieldType)} {ad ks : List Nat} {xx mm oq : Nat} {H : Heap} {locs : List Loc} (hW : lwV D n P tys ad ks xx mm oq s H) (hS : va_S (fun q : Nat => s.heap.size ≤ q) s.heap H locs) {i : Int32} (hi0 : 0 ≤ i.toInt) (hi6 : i.toInt + 6 ≤ L) (hn : n ≤ 511) {ls : Array Slot} (hl : lv_has ls 7 [(4, .int i), (3, .ref oq), (2, .ref mm), (1, .ref xx), (0, .ref b)]) {cells slots : Nat} (hc : cells + 4 ≤ 601024) (hs : slots + 8300 ≤ 7293034) {Q : State → Prop}
    (kk : ∀ (P1 : sgPm) (tys1 : List (ClassId × FieldType)) (ad1 ks1 : List Nat) (H1 : Heap) (locs1 : List Loc) (ls1 : Array Slot), lwV D (n + 1) P1 tys1 ad1 ks1 xx mm oq s H1 → va_S (fun q : Nat => s.heap.size ≤ q) s.heap H1 locs1 → lv_has ls1 7 [(4, .int i), (3, .ref oq), (2, .ref mm), (1, .ref xx), (0, .ref b)] → W p l e room_1 s m #[.ref b] below meth c H1 locs1 (cells + 4) (slots + 8300) Q (F0 m 1349 ls1 [])) :
    W p l e room_1 s m #[.ref b] below meth c H locs cells slots Q (F0 m 487 ls []) := by
  obtain ⟨X, hC, hX, hbl, hL⟩ := C
  obtain ⟨hK, hG, hxx, hmm, hoq, hpin, hN0, hinv, hgl⟩ := id hW
  have hp10 := hpin
  have hb : s.heap.size ≤ s.heap.size := Nat.le_refl _
  have hbA : ¬ (fun q : Nat => s.heap.size ≤ q) b := Nat.not_le.mpr hbl
  have lwr : cells ≤ room_1.cells ∧ slots ≤ room_1.slots := ⟨by show cells ≤ 601024; omega, by show slots ≤ 7293034; omega⟩
  have lwr1 : cells + 1 ≤ room_1.cells ∧ slots + 8256 ≤ room_1.slots := ⟨by show cells + 1 ≤ 601024; omega, by show slots + 8256 ≤ 7293034; omega⟩
  have lwr2 : cells + 1 ≤ room_1.cells ∧ slots + 4096 ≤ room_1.slots := ⟨by show cells + 1 ≤ 601024; omega, by show slots + 4096 ≤ 7293034; omega⟩
  have hgi := hgl.1.1
  have hgg := hgl.2.1
  have hpk := hm_pk hgl.2
  have hl0 := sgInv_l1 hinv
  have hby := sgInv_b1 hinv
  refine lv_aload_n X.1 X.2.1 dL_law_487 rfl (lv_at hl 3 rfl) ?_
  refine lv_aload_n X.1 X.2.1 dL_law_488 rfl (lv_at hl 4 rfl) ?_
  refine lv_iload X.1 X.2.1 dL_law_489 (lv_at hl 0 rfl) ?_
  refine lv_iconst (v := 1) X.1 X.2.1 dL_law_491 (by decide +kernel) ?_
  refine lv_iadd X.1 X.2.1 dL_law_492 ?_
  refine lv_topi (fun f1 ef1 => ?_)
  refine va_sld (i := f1) X.1 X.2.1 hX hbl hbA hS (lw_ix ef1 hi0 hi6 hL (by decide +kernel)) dL_law_493 ?_
  refine ca_X11_grow X hK hG hC hS hb xx hxx (xs f1.toNatClampNeg) wl_4_86 hl.1 (rest := []) rfl (Nat.le_of_ble_eq_true rfl) ⟨Nat.le_of_ble_eq_true rfl, Nat.le_of_ble_eq_true rfl⟩ lwr dL_law_494 (fun f3 H locs hf3 hG hS => ?_)
  refine lv_pop X.1 X.2.1 dL_law_497 rfl ?_
  refine lv_aload_n X.1 X.2.1 dL_law_498 rfl (lv_at hl 2 rfl) ?_
  refine lv_aload_n X.1 X.2.1 dL_law_499 rfl (lv_at hl 4 rfl) ?_
  refine lv_iload X.1 X.2.1 dL_law_500 (lv_at hl 0 rfl) ?_
  refine lv_iconst (v := 1) X.1 X.2.1 dL_law_502 (by decide +kernel) ?_
  refine lv_iadd X.1 X.2.1 dL_law_503 ?_
  refine lv_topi (fun f4 ef4 => ?_)
  refine va_sld (i := f4) X.1 X.2.1 hX hbl hbA hS (lw_ix ef4 hi0 hi6 hL (by decide +kernel)) dL_law_504 ?_
  rcases Bool.eq_false_or_eq_true P.2.2.2.2.1 with hp4 | hp4
  · refine ca_X12_grow_1 X hK hG hC hS hb hp4 hp10 mm hmm (xs f4.toNatClampNeg) wl_8_86 hl.1 (rest := []) rfl (Nat.le_of_ble_eq_true rfl) ⟨Nat.le_of_ble_eq_true rfl, Nat.le_of_ble_eq_true rfl⟩ lwr dL_law_505 (fun f6 H locs hf6 hG hS => ?_)
    refine lv_pop X.1 X.2.1 dL_law_508 rfl ?_
    refine lv_goto (tgt := 1349) X.1 X.2.1 dL_law_509 (by decide) ?_
    refine W.widen (k := cells + 4) (n := slots + 8300) (by omega) (by omega) ?_
    exact kk _ _ _ _ _ _ _ (lwV_next hW hK hG hpin (Nat.le_add_right _ _) (sgMo.rf _ _) hinv hgl) hS (lv_sub hl [0, 1, 2, 3, 4] rfl)
  · refine ca_X12_grow_0 X hK hG hC hS hb hp4 mm hmm (xs f4.toNatClampNeg) wl_8_86 hl.1 (rest := []) rfl (Nat.le_of_ble_eq_true rfl) ⟨Nat.le_of_ble_eq_true rfl, Nat.le_of_ble_eq_true rfl⟩ lwr dL_law_505 (fun f7 H locs hf7 hG hS => ?_)
    refine lv_pop X.1 X.2.1 dL_law_508 rfl ?_
    refine lv_goto (tgt := 1349) X.1 X.2.1 dL_law_509 (by decide) ?_
    refine W.widen (k := cells + 4) (n := slots + 8300) (by omega) (by omega) ?_
    exact kk _ _ _ _ _ _ _ (lwV_next hW hK hG hpin (Nat.le_add_right _ _) (sgMo.rf _ _) hinv hgl) hS (lv_sub hl [0, 1, 2, 3, 4] rfl)

set_option maxHeartbeats 8000000 in
set_option maxRecDepth 100000 in
theorem law_case_9 {p : Program} {l : Launch} {e : Env} {s : State} {m : MethodId} {below : List Frame} {meth : Method} {c : Code} {b L : Nat} {xs : Nat → Int32} {D : va_G} (C : lwC p l e s m below meth c b L xs) {n : Nat} {P : sgPm} {tys : List (ClassId × FieldType)} {ad ks : List Nat} {xx mm oq : Nat} {H : Heap} {locs : List Loc} (hW : lwV D n P tys ad ks xx mm oq s H) (hS : va_S (fun q : Nat => s.heap.size ≤ q) s.heap H locs) {i : Int32} (hi0 : 0 ≤ i.toInt) (hi6 : i.toInt + 6 ≤ L) (hn : n ≤ 511) {ls : Array Slot} (hl : lv_has ls 7 [(4, .int i), (3, .ref oq), (2, .ref mm), (1, .ref xx), (0, .ref b)]) {cells slots : Nat} (hc : cells + 4 ≤ 601024) (hs : slots + 8300 ≤ 7293034) {Q : State → Prop}
    (kk : ∀ (P1 : sgPm) (tys1 : List (ClassId × FieldType)) (ad1 ks1 : List Nat) (H1 : Heap) (locs1 : List Loc) (ls1 : Array Slot), lwV D (n + 1) P1 tys1 ad1 ks1 xx mm oq s H1 → va_S (fun q : Nat => s.heap.size ≤ q) s.heap H1 locs1 → lv_has ls1 7 [(4, .int i), (3, .ref oq), (2, .ref mm), (1, .ref xx), (0, .ref b)] → W p l e room_1 s m #[.ref b] below meth c H1 locs1 (cells + 4) (slots + 8300) Q (F0 m 1349 ls1 [])) :
    W p l e room_1 s m #[.ref b] below meth c H locs cells slots Q (F0 m 512 ls []) := by
  obtain ⟨X, hC, hX, hbl, hL⟩ := C
  obtain ⟨hK, hG, hxx, hmm, hoq, hpin, hN0, hinv, hgl⟩ := id hW
  have hp10 := hpin
  have hb : s.heap.size ≤ s.heap.size := Nat.le_refl _
  have hbA : ¬ (fun q : Nat => s.heap.size ≤ q) b := Nat.not_le.mpr hbl
  have lwr : cells ≤ room_1.cells ∧ slots ≤ room_1.slots := ⟨by show cells ≤ 601024; omega, by show slots ≤ 7293034; omega⟩
  have lwr1 : cells + 1 ≤ room_1.cells ∧ slots + 8256 ≤ room_1.slots := ⟨by show cells + 1 ≤ 601024; omega, by show slots + 8256 ≤ 7293034; omega⟩
  have lwr2 : cells + 1 ≤ room_1.cells ∧ slots + 4096 ≤ room_1.slots := ⟨by show cells + 1 ≤ 601024; omega, by show slots + 4096 ≤ 7293034; omega⟩
  have hgi := hgl.1.1
  have hgg := hgl.2.1
  have hpk := hm_pk hgl.2
  have hl0 := sgInv_l1 hinv
  have hby := sgInv_b1 hinv
  refine lv_aload_n X.1 X.2.1 dL_law_512 rfl (lv_at hl 3 rfl) ?_
  refine lv_aload_n X.1 X.2.1 dL_law_513 rfl (lv_at hl 4 rfl) ?_
  refine lv_iload X.1 X.2.1 dL_law_514 (lv_at hl 0 rfl) ?_
  refine lv_iconst (v := 1) X.1 X.2.1 dL_law_516 (by decide +kernel) ?_
  refine lv_iadd X.1 X.2.1 dL_law_517 ?_
  refine lv_topi (fun f1 ef1 => ?_)
  refine va_sld (i := f1) X.1 X.2.1 hX hbl hbA hS (lw_ix ef1 hi0 hi6 hL (by decide +kernel)) dL_law_518 ?_
  refine lv_aload_n X.1 X.2.1 dL_law_519 rfl (lv_at hl 4 rfl) ?_
  refine lv_iload X.1 X.2.1 dL_law_520 (lv_at hl 0 rfl) ?_
  refine lv_iconst (v := 2) X.1 X.2.1 dL_law_522 (by decide +kernel) ?_
  refine lv_iadd X.1 X.2.1 dL_law_523 ?_
  refine lv_topi (fun f3 ef3 => ?_)
  refine va_sld (i := f3) X.1 X.2.1 hX hbl hbA hS (lw_ix ef3 hi0 hi6 hL (by decide +kernel)) dL_law_524 ?_
  refine lv_aload_n X.1 X.2.1 dL_law_525 rfl (lv_at hl 4 rfl) ?_
  refine lv_iload X.1 X.2.1 dL_law_526 (lv_at hl 0 rfl) ?_
  refine lv_iconst (v := 3) X.1 X.2.1 dL_law_528 (by decide +kernel) ?_
  refine lv_iadd X.1 X.2.1 dL_law_529 ?_
  refine lv_topi (fun f5 ef5 => ?_)
  refine va_sld (i := f5) X.1 X.2.1 hX hbl hbA hS (lw_ix ef5 hi0 hi6 hL (by decide +kernel)) dL_law_530 ?_
  refine ca_X11_cut X hK hG hC hS hb xx hxx (xs f1.toNatClampNeg) (xs f3.toNatClampNeg) (xs f5.toNatClampNeg) wl_4_181 hl.1 (rest := []) rfl (Nat.le_of_ble_eq_true rfl) ⟨Nat.le_of_ble_eq_true rfl, Nat.le_of_ble_eq_true rfl⟩ lwr dL_law_531 (fun f7 H locs hf7 hG hS => ?_)
  refine lv_pop X.1 X.2.1 dL_law_534 rfl ?_
  refine lv_aload_n X.1 X.2.1 dL_law_535 rfl (lv_at hl 2 rfl) ?_
  refine lv_aload_n X.1 X.2.1 dL_law_536 rfl (lv_at hl 4 rfl) ?_
  refine lv_iload X.1 X.2.1 dL_law_537 (lv_at hl 0 rfl) ?_
  refine lv_iconst (v := 1) X.1 X.2.1 dL_law_539 (by decide +kernel) ?_
  refine lv_iadd X.1 X.2.1 dL_law_540 ?_
  refine lv_topi (fun f8 ef8 => ?_)
  refine va_sld (i := f8) X.1 X.2.1 hX hbl hbA hS (lw_ix ef8 hi0 hi6 hL (by decide +kernel)) dL_law_541 ?_
  refine lv_aload_n X.1 X.2.1 dL_law_542 rfl (lv_at hl 4 rfl) ?_
  refine lv_iload X.1 X.2.1 dL_law_543 (lv_at hl 0 rfl) ?_
  refine lv_iconst (v := 2) X.1 X.2.1 dL_law_545 (by decide +kernel) ?_
  refine lv_iadd X.1 X.2.1 dL_law_546 ?_
  refine lv_topi (fun f10 ef10 => ?_)
  refine va_sld (i := f10) X.1 X.2.1 hX hbl hbA hS (lw_ix ef10 hi0 hi6 hL (by decide +kernel)) dL_law_547 ?_
  refine lv_aload_n X.1 X.2.1 dL_law_548 rfl (lv_at hl 4 rfl) ?_
  refine lv_iload X.1 X.2.1 dL_law_549 (lv_at hl 0 rfl) ?_
  refine lv_iconst (v := 3) X.1 X.2.1 dL_law_551 (by decide +kernel) ?_
  refine lv_iadd X.1 X.2.1 dL_law_552 ?_
  refine lv_topi (fun f12 ef12 => ?_)
  refine va_sld (i := f12) X.1 X.2.1 hX hbl hbA hS (lw_ix ef12 hi0 hi6 hL (by decide +kernel)) dL_law_553 ?_
  rcases Bool.eq_false_or_eq_true P.2.2.2.2.1 with hp4 | hp4
  · refine ca_X12_cut_1 X hK hG hC hS hb hp4 hp10 mm hmm (xs f8.toNatClampNeg) (xs f10.toNatClampNeg) (xs f12.toNatClampNeg) (show sgN P + 1 ≤ 1000000000 from by omega) wl_8_113 hl.1 (rest := []) rfl (Nat.le_of_ble_eq_true rfl) ⟨Nat.le_of_ble_eq_true rfl, Nat.le_of_ble_eq_true rfl⟩ lwr dL_law_554 (fun f14 tf14 H locs htf14 hf14 hWf14 hS => ?_)
    have hG : sgG (KT (sgAt P (sgN P + 1))) D vwCl _ tys ad ks _ := hWf14.2.2.2
    rw [htf14] at hG
    refine lv_pop X.1 X.2.1 dL_law_557 rfl ?_
    refine lv_goto (tgt := 1349) X.1 X.2.1 dL_law_558 (by decide) ?_
    refine W.widen (k := cells + 4) (n := slots + 8300) (by omega) (by omega) ?_
    exact kk _ _ _ _ _ _ _ (lwV_next hW hK hG hpin (show (sgN P + 1) ≤ sgN P + 432000 from by omega) (sgMo.rf _ _) (sgInv_of hinv rfl rfl rfl rfl rfl) (sgHx_of hgl rfl rfl rfl rfl rfl rfl)) hS (lv_sub hl [0, 1, 2, 3, 4] rfl)
  · refine ca_X12_cut_0 X hK hG hC hS hb hp4 mm hmm (xs f8.toNatClampNeg) (xs f10.toNatClampNeg) (xs f12.toNatClampNeg) wl_8_113 hl.1 (rest := []) rfl (Nat.le_of_ble_eq_true rfl) ⟨Nat.le_of_ble_eq_true rfl, Nat.le_of_ble_eq_true rfl⟩ lwr dL_law_554 (fun f15 H locs hf15 hG hS => ?_)
    refine lv_pop X.1 X.2.1 dL_law_557 rfl ?_
    refine lv_goto (tgt := 1349) X.1 X.2.1 dL_law_558 (by decide) ?_
    refine W.widen (k := cells + 4) (n := slots + 8300) (by omega) (by omega) ?_
    exact kk _ _ _ _ _ _ _ (lwV_next hW hK hG hpin (Nat.le_add_right _ _) (sgMo.rf _ _) hinv hgl) hS (lv_sub hl [0, 1, 2, 3, 4] rfl)

set_option maxHeartbeats 8000000 in
set_option maxRecDepth 100000 in
theorem law_case_10 {p : Program} {l : Launch} {e : Env} {s : State} {m : MethodId} {below : List Frame} {meth : Method} {c : Code} {b L : Nat} {xs : Nat → Int32} {D : va_G} (C : lwC p l e s m below meth c b L xs) {n : Nat} {P : sgPm} {tys : List (ClassId × FieldType)} {ad ks : List Nat} {xx mm oq : Nat} {H : Heap} {locs : List Loc} (hW : lwV D n P tys ad ks xx mm oq s H) (hS : va_S (fun q : Nat => s.heap.size ≤ q) s.heap H locs) {i : Int32} (hi0 : 0 ≤ i.toInt) (hi6 : i.toInt + 6 ≤ L) (hn : n ≤ 511) {ls : Array Slot} (hl : lv_has ls 7 [(4, .int i), (3, .ref oq), (2, .ref mm), (1, .ref xx), (0, .ref b)]) {cells slots : Nat} (hc : cells + 4 ≤ 601024) (hs : slots + 8300 ≤ 7293034) {Q : State → Prop}
    (kk : ∀ (P1 : sgPm) (tys1 : List (ClassId × FieldType)) (ad1 ks1 : List Nat) (H1 : Heap) (locs1 : List Loc) (ls1 : Array Slot), lwV D (n + 1) P1 tys1 ad1 ks1 xx mm oq s H1 → va_S (fun q : Nat => s.heap.size ≤ q) s.heap H1 locs1 → lv_has ls1 7 [(4, .int i), (3, .ref oq), (2, .ref mm), (1, .ref xx), (0, .ref b)] → W p l e room_1 s m #[.ref b] below meth c H1 locs1 (cells + 4) (slots + 8300) Q (F0 m 1349 ls1 [])) :
    W p l e room_1 s m #[.ref b] below meth c H locs cells slots Q (F0 m 561 ls []) := by
  obtain ⟨X, hC, hX, hbl, hL⟩ := C
  obtain ⟨hK, hG, hxx, hmm, hoq, hpin, hN0, hinv, hgl⟩ := id hW
  have hp10 := hpin
  have hb : s.heap.size ≤ s.heap.size := Nat.le_refl _
  have hbA : ¬ (fun q : Nat => s.heap.size ≤ q) b := Nat.not_le.mpr hbl
  have lwr : cells ≤ room_1.cells ∧ slots ≤ room_1.slots := ⟨by show cells ≤ 601024; omega, by show slots ≤ 7293034; omega⟩
  have lwr1 : cells + 1 ≤ room_1.cells ∧ slots + 8256 ≤ room_1.slots := ⟨by show cells + 1 ≤ 601024; omega, by show slots + 8256 ≤ 7293034; omega⟩
  have lwr2 : cells + 1 ≤ room_1.cells ∧ slots + 4096 ≤ room_1.slots := ⟨by show cells + 1 ≤ 601024; omega, by show slots + 4096 ≤ 7293034; omega⟩
  have hgi := hgl.1.1
  have hgg := hgl.2.1
  have hpk := hm_pk hgl.2
  have hl0 := sgInv_l1 hinv
  have hby := sgInv_b1 hinv
  refine lv_aload_n X.1 X.2.1 dL_law_561 rfl (lv_at hl 3 rfl) ?_
  refine ca_X11_sit X hK hG hC hS hb xx hxx wl_4_185 hl.1 (rest := []) rfl (Nat.le_of_ble_eq_true rfl) ⟨Nat.le_of_ble_eq_true rfl, Nat.le_of_ble_eq_true rfl⟩ lwr dL_law_562 (fun f1 H locs hf1 hG hS => ?_)
  refine lv_pop X.1 X.2.1 dL_law_565 rfl ?_
  refine lv_aload_n X.1 X.2.1 dL_law_566 rfl (lv_at hl 2 rfl) ?_
  rcases Bool.eq_false_or_eq_true P.2.2.2.2.1 with hp4 | hp4
  · refine ca_X12_sit_1 X hK hG hC hS hb hp4 mm hmm (show sgN P + 1 ≤ 1000000000 from by omega) wl_8_129 hl.1 (rest := []) rfl (Nat.le_of_ble_eq_true rfl) ⟨Nat.le_of_ble_eq_true rfl, Nat.le_of_ble_eq_true rfl⟩ lwr dL_law_567 (fun f2 tf2 H locs htf2 hf2 hWf2 hS => ?_)
    have hG : sgG (KT (sgAt P (sgN P + 1))) D vwCl _ tys ad ks _ := hWf2.2.2.2
    rw [htf2] at hG
    refine lv_pop X.1 X.2.1 dL_law_570 rfl ?_
    refine lv_goto (tgt := 1349) X.1 X.2.1 dL_law_571 (by decide) ?_
    refine W.widen (k := cells + 4) (n := slots + 8300) (by omega) (by omega) ?_
    exact kk _ _ _ _ _ _ _ (lwV_next hW hK hG hpin (show (sgN P + 1) ≤ sgN P + 432000 from by omega) (sgMo.rf _ _) (sgInv_of hinv rfl rfl rfl rfl rfl) (sgHx_of hgl rfl rfl rfl rfl rfl rfl)) hS (lv_sub hl [0, 1, 2, 3, 4] rfl)
  · refine ca_X12_sit_0 X hK hG hC hS hb hp4 mm hmm wl_8_129 hl.1 (rest := []) rfl (Nat.le_of_ble_eq_true rfl) ⟨Nat.le_of_ble_eq_true rfl, Nat.le_of_ble_eq_true rfl⟩ lwr dL_law_567 (fun f3 H locs hf3 hG hS => ?_)
    refine lv_pop X.1 X.2.1 dL_law_570 rfl ?_
    refine lv_goto (tgt := 1349) X.1 X.2.1 dL_law_571 (by decide) ?_
    refine W.widen (k := cells + 4) (n := slots + 8300) (by omega) (by omega) ?_
    exact kk _ _ _ _ _ _ _ (lwV_next hW hK hG hpin (Nat.le_add_right _ _) (sgMo.rf _ _) hinv hgl) hS (lv_sub hl [0, 1, 2, 3, 4] rfl)

set_option maxHeartbeats 8000000 in
set_option maxRecDepth 100000 in
theorem law_case_11 {p : Program} {l : Launch} {e : Env} {s : State} {m : MethodId} {below : List Frame} {meth : Method} {c : Code} {b L : Nat} {xs : Nat → Int32} {D : va_G} (C : lwC p l e s m below meth c b L xs) {n : Nat} {P : sgPm} {tys : List (ClassId × FieldType)} {ad ks : List Nat} {xx mm oq : Nat} {H : Heap} {locs : List Loc} (hW : lwV D n P tys ad ks xx mm oq s H) (hS : va_S (fun q : Nat => s.heap.size ≤ q) s.heap H locs) {i : Int32} (hi0 : 0 ≤ i.toInt) (hi6 : i.toInt + 6 ≤ L) (hn : n ≤ 511) {ls : Array Slot} (hl : lv_has ls 7 [(4, .int i), (3, .ref oq), (2, .ref mm), (1, .ref xx), (0, .ref b)]) {cells slots : Nat} (hc : cells + 4 ≤ 601024) (hs : slots + 8300 ≤ 7293034) {Q : State → Prop}
    (kk : ∀ (P1 : sgPm) (tys1 : List (ClassId × FieldType)) (ad1 ks1 : List Nat) (H1 : Heap) (locs1 : List Loc) (ls1 : Array Slot), lwV D (n + 1) P1 tys1 ad1 ks1 xx mm oq s H1 → va_S (fun q : Nat => s.heap.size ≤ q) s.heap H1 locs1 → lv_has ls1 7 [(4, .int i), (3, .ref oq), (2, .ref mm), (1, .ref xx), (0, .ref b)] → W p l e room_1 s m #[.ref b] below meth c H1 locs1 (cells + 4) (slots + 8300) Q (F0 m 1349 ls1 [])) :
    W p l e room_1 s m #[.ref b] below meth c H locs cells slots Q (F0 m 574 ls []) := by
  obtain ⟨X, hC, hX, hbl, hL⟩ := C
  obtain ⟨hK, hG, hxx, hmm, hoq, hpin, hN0, hinv, hgl⟩ := id hW
  have hp10 := hpin
  have hb : s.heap.size ≤ s.heap.size := Nat.le_refl _
  have hbA : ¬ (fun q : Nat => s.heap.size ≤ q) b := Nat.not_le.mpr hbl
  have lwr : cells ≤ room_1.cells ∧ slots ≤ room_1.slots := ⟨by show cells ≤ 601024; omega, by show slots ≤ 7293034; omega⟩
  have lwr1 : cells + 1 ≤ room_1.cells ∧ slots + 8256 ≤ room_1.slots := ⟨by show cells + 1 ≤ 601024; omega, by show slots + 8256 ≤ 7293034; omega⟩
  have lwr2 : cells + 1 ≤ room_1.cells ∧ slots + 4096 ≤ room_1.slots := ⟨by show cells + 1 ≤ 601024; omega, by show slots + 4096 ≤ 7293034; omega⟩
  have hgi := hgl.1.1
  have hgg := hgl.2.1
  have hpk := hm_pk hgl.2
  have hl0 := sgInv_l1 hinv
  have hby := sgInv_b1 hinv
  refine lv_aload_n X.1 X.2.1 dL_law_574 rfl (lv_at hl 3 rfl) ?_
  refine lv_aload_n X.1 X.2.1 dL_law_575 rfl (lv_at hl 4 rfl) ?_
  refine lv_iload X.1 X.2.1 dL_law_576 (lv_at hl 0 rfl) ?_
  refine lv_iconst (v := 1) X.1 X.2.1 dL_law_578 (by decide +kernel) ?_
  refine lv_iadd X.1 X.2.1 dL_law_579 ?_
  refine lv_topi (fun f1 ef1 => ?_)
  refine va_sld (i := f1) X.1 X.2.1 hX hbl hbA hS (lw_ix ef1 hi0 hi6 hL (by decide +kernel)) dL_law_580 ?_
  refine ca_X11_mole X hK hG hC hS hb xx hxx (xs f1.toNatClampNeg) wl_4_189 hl.1 (rest := []) rfl (Nat.le_of_ble_eq_true rfl) ⟨Nat.le_of_ble_eq_true rfl, Nat.le_of_ble_eq_true rfl⟩ lwr dL_law_581 (fun f3 H locs hf3 hG hS => ?_)
  refine lv_pop X.1 X.2.1 dL_law_584 rfl ?_
  refine lv_aload_n X.1 X.2.1 dL_law_585 rfl (lv_at hl 2 rfl) ?_
  refine lv_aload_n X.1 X.2.1 dL_law_586 rfl (lv_at hl 4 rfl) ?_
  refine lv_iload X.1 X.2.1 dL_law_587 (lv_at hl 0 rfl) ?_
  refine lv_iconst (v := 1) X.1 X.2.1 dL_law_589 (by decide +kernel) ?_
  refine lv_iadd X.1 X.2.1 dL_law_590 ?_
  refine lv_topi (fun f4 ef4 => ?_)
  refine va_sld (i := f4) X.1 X.2.1 hX hbl hbA hS (lw_ix ef4 hi0 hi6 hL (by decide +kernel)) dL_law_591 ?_
  rcases Bool.eq_false_or_eq_true P.2.2.2.2.1 with hp4 | hp4
  · refine ca_X12_mole_1 X hK hG hC hS hb hp4 hp10 mm hmm (xs f4.toNatClampNeg) wl_8_136 hl.1 (rest := []) rfl (Nat.le_of_ble_eq_true rfl) ⟨Nat.le_of_ble_eq_true rfl, Nat.le_of_ble_eq_true rfl⟩ lwr dL_law_592 (fun f6 H locs hf6 hG hS => ?_)
    refine lv_pop X.1 X.2.1 dL_law_595 rfl ?_
    refine lv_goto (tgt := 1349) X.1 X.2.1 dL_law_596 (by decide) ?_
    refine W.widen (k := cells + 4) (n := slots + 8300) (by omega) (by omega) ?_
    exact kk _ _ _ _ _ _ _ (lwV_next hW hK hG hpin (Nat.le_add_right _ _) (sgMo.rf _ _) hinv hgl) hS (lv_sub hl [0, 1, 2, 3, 4] rfl)
  · refine ca_X12_mole_0 X hK hG hC hS hb hp4 mm hmm (xs f4.toNatClampNeg) wl_8_136 hl.1 (rest := []) rfl (Nat.le_of_ble_eq_true rfl) ⟨Nat.le_of_ble_eq_true rfl, Nat.le_of_ble_eq_true rfl⟩ lwr dL_law_592 (fun f7 H locs hf7 hG hS => ?_)
    refine lv_pop X.1 X.2.1 dL_law_595 rfl ?_
    refine lv_goto (tgt := 1349) X.1 X.2.1 dL_law_596 (by decide) ?_
    refine W.widen (k := cells + 4) (n := slots + 8300) (by omega) (by omega) ?_
    exact kk _ _ _ _ _ _ _ (lwV_next hW hK hG hpin (Nat.le_add_right _ _) (sgMo.rf _ _) hinv hgl) hS (lv_sub hl [0, 1, 2, 3, 4] rfl)

set_option maxHeartbeats 8000000 in
set_option maxRecDepth 100000 in
theorem law_case_12 {p : Program} {l : Launch} {e : Env} {s : State} {m : MethodId} {below : List Frame} {meth : Method} {c : Code} {b L : Nat} {xs : Nat → Int32} {D : va_G} (C : lwC p l e s m below meth c b L xs) {n : Nat} {P : sgPm} {tys : List (ClassId × FieldType)} {ad ks : List Nat} {xx mm oq : Nat} {H : Heap} {locs : List Loc} (hW : lwV D n P tys ad ks xx mm oq s H) (hS : va_S (fun q : Nat => s.heap.size ≤ q) s.heap H locs) {i : Int32} (hi0 : 0 ≤ i.toInt) (hi6 : i.toInt + 6 ≤ L) (hn : n ≤ 511) {ls : Array Slot} (hl : lv_has ls 7 [(4, .int i), (3, .ref oq), (2, .ref mm), (1, .ref xx), (0, .ref b)]) {cells slots : Nat} (hc : cells + 4 ≤ 601024) (hs : slots + 8300 ≤ 7293034) {Q : State → Prop}
    (kk : ∀ (P1 : sgPm) (tys1 : List (ClassId × FieldType)) (ad1 ks1 : List Nat) (H1 : Heap) (locs1 : List Loc) (ls1 : Array Slot), lwV D (n + 1) P1 tys1 ad1 ks1 xx mm oq s H1 → va_S (fun q : Nat => s.heap.size ≤ q) s.heap H1 locs1 → lv_has ls1 7 [(4, .int i), (3, .ref oq), (2, .ref mm), (1, .ref xx), (0, .ref b)] → W p l e room_1 s m #[.ref b] below meth c H1 locs1 (cells + 4) (slots + 8300) Q (F0 m 1349 ls1 [])) :
    W p l e room_1 s m #[.ref b] below meth c H locs cells slots Q (F0 m 599 ls []) := by
  obtain ⟨X, hC, hX, hbl, hL⟩ := C
  obtain ⟨hK, hG, hxx, hmm, hoq, hpin, hN0, hinv, hgl⟩ := id hW
  have hp10 := hpin
  have hb : s.heap.size ≤ s.heap.size := Nat.le_refl _
  have hbA : ¬ (fun q : Nat => s.heap.size ≤ q) b := Nat.not_le.mpr hbl
  have lwr : cells ≤ room_1.cells ∧ slots ≤ room_1.slots := ⟨by show cells ≤ 601024; omega, by show slots ≤ 7293034; omega⟩
  have lwr1 : cells + 1 ≤ room_1.cells ∧ slots + 8256 ≤ room_1.slots := ⟨by show cells + 1 ≤ 601024; omega, by show slots + 8256 ≤ 7293034; omega⟩
  have lwr2 : cells + 1 ≤ room_1.cells ∧ slots + 4096 ≤ room_1.slots := ⟨by show cells + 1 ≤ 601024; omega, by show slots + 4096 ≤ 7293034; omega⟩
  have hgi := hgl.1.1
  have hgg := hgl.2.1
  have hpk := hm_pk hgl.2
  have hl0 := sgInv_l1 hinv
  have hby := sgInv_b1 hinv
  refine lv_aload_n X.1 X.2.1 dL_law_599 rfl (lv_at hl 3 rfl) ?_
  refine lv_aload_n X.1 X.2.1 dL_law_600 rfl (lv_at hl 4 rfl) ?_
  refine lv_iload X.1 X.2.1 dL_law_601 (lv_at hl 0 rfl) ?_
  refine lv_iconst (v := 1) X.1 X.2.1 dL_law_603 (by decide +kernel) ?_
  refine lv_iadd X.1 X.2.1 dL_law_604 ?_
  refine lv_topi (fun f1 ef1 => ?_)
  refine va_sld (i := f1) X.1 X.2.1 hX hbl hbA hS (lw_ix ef1 hi0 hi6 hL (by decide +kernel)) dL_law_605 ?_
  refine lv_aload_n X.1 X.2.1 dL_law_606 rfl (lv_at hl 4 rfl) ?_
  refine lv_iload X.1 X.2.1 dL_law_607 (lv_at hl 0 rfl) ?_
  refine lv_iconst (v := 2) X.1 X.2.1 dL_law_609 (by decide +kernel) ?_
  refine lv_iadd X.1 X.2.1 dL_law_610 ?_
  refine lv_topi (fun f3 ef3 => ?_)
  refine va_sld (i := f3) X.1 X.2.1 hX hbl hbA hS (lw_ix ef3 hi0 hi6 hL (by decide +kernel)) dL_law_611 ?_
  obtain ⟨g5, eg5⟩ : ∃ y : Int64, y = ((xs f3.toNatClampNeg) : Int32).toInt64 := ⟨_, rfl⟩
  refine lv_i2l (v := g5) X.1 X.2.1 dL_law_612 eg5.symm ?_
  refine lv_bipush (v := 32) X.1 X.2.1 dL_law_613 (by decide +kernel) ?_
  obtain ⟨g6, eg6⟩ : ∃ y : Int64, y = (g5 : Int64) <<< ((32 : Int32).toInt64 &&& 63) := ⟨_, rfl⟩
  refine lv_lshl (v := g6) X.1 X.2.1 dL_law_615 eg6.symm ?_
  refine lv_aload_n X.1 X.2.1 dL_law_616 rfl (lv_at hl 4 rfl) ?_
  refine lv_iload X.1 X.2.1 dL_law_617 (lv_at hl 0 rfl) ?_
  refine lv_iconst (v := 3) X.1 X.2.1 dL_law_619 (by decide +kernel) ?_
  refine lv_iadd X.1 X.2.1 dL_law_620 ?_
  refine lv_topi (fun f7 ef7 => ?_)
  refine va_sld (i := f7) X.1 X.2.1 hX hbl hbA hS (lw_ix ef7 hi0 hi6 hL (by decide +kernel)) dL_law_621 ?_
  obtain ⟨g9, eg9⟩ : ∃ y : Int64, y = ((xs f7.toNatClampNeg) : Int32).toInt64 := ⟨_, rfl⟩
  refine lv_i2l (v := g9) X.1 X.2.1 dL_law_622 eg9.symm ?_
  refine lv_ldc2 X.1 X.2.1 X.2.2.2.1 (X.2.2.2.2 _ wl_9_162) dL_law_623 ?_
  refine lv_land X.1 X.2.1 dL_law_626 ?_
  refine lv_topl (fun g10 eg10 => ?_)
  refine lv_lor X.1 X.2.1 dL_law_627 ?_
  refine lv_topl (fun g11 eg11 => ?_)
  refine ca_X11_games X hK hG hC hS hb xx hxx (xs f1.toNatClampNeg) g11 wl_4_194 hl.1 (rest := []) rfl (Nat.le_of_ble_eq_true rfl) ⟨Nat.le_of_ble_eq_true rfl, Nat.le_of_ble_eq_true rfl⟩ lwr dL_law_628 (fun f12 H locs hf12 hG hS => ?_)
  refine lv_pop X.1 X.2.1 dL_law_631 rfl ?_
  refine lv_aload_n X.1 X.2.1 dL_law_632 rfl (lv_at hl 2 rfl) ?_
  refine lv_aload_n X.1 X.2.1 dL_law_633 rfl (lv_at hl 4 rfl) ?_
  refine lv_iload X.1 X.2.1 dL_law_634 (lv_at hl 0 rfl) ?_
  refine lv_iconst (v := 1) X.1 X.2.1 dL_law_636 (by decide +kernel) ?_
  refine lv_iadd X.1 X.2.1 dL_law_637 ?_
  refine lv_topi (fun f13 ef13 => ?_)
  refine va_sld (i := f13) X.1 X.2.1 hX hbl hbA hS (lw_ix ef13 hi0 hi6 hL (by decide +kernel)) dL_law_638 ?_
  refine lv_aload_n X.1 X.2.1 dL_law_639 rfl (lv_at hl 4 rfl) ?_
  refine lv_iload X.1 X.2.1 dL_law_640 (lv_at hl 0 rfl) ?_
  refine lv_iconst (v := 2) X.1 X.2.1 dL_law_642 (by decide +kernel) ?_
  refine lv_iadd X.1 X.2.1 dL_law_643 ?_
  refine lv_topi (fun f15 ef15 => ?_)
  refine va_sld (i := f15) X.1 X.2.1 hX hbl hbA hS (lw_ix ef15 hi0 hi6 hL (by decide +kernel)) dL_law_644 ?_
  obtain ⟨g17, eg17⟩ : ∃ y : Int64, y = ((xs f15.toNatClampNeg) : Int32).toInt64 := ⟨_, rfl⟩
  refine lv_i2l (v := g17) X.1 X.2.1 dL_law_645 eg17.symm ?_
  refine lv_bipush (v := 32) X.1 X.2.1 dL_law_646 (by decide +kernel) ?_
  obtain ⟨g18, eg18⟩ : ∃ y : Int64, y = (g17 : Int64) <<< ((32 : Int32).toInt64 &&& 63) := ⟨_, rfl⟩
  refine lv_lshl (v := g18) X.1 X.2.1 dL_law_648 eg18.symm ?_
  refine lv_aload_n X.1 X.2.1 dL_law_649 rfl (lv_at hl 4 rfl) ?_
  refine lv_iload X.1 X.2.1 dL_law_650 (lv_at hl 0 rfl) ?_
  refine lv_iconst (v := 3) X.1 X.2.1 dL_law_652 (by decide +kernel) ?_
  refine lv_iadd X.1 X.2.1 dL_law_653 ?_
  refine lv_topi (fun f19 ef19 => ?_)
  refine va_sld (i := f19) X.1 X.2.1 hX hbl hbA hS (lw_ix ef19 hi0 hi6 hL (by decide +kernel)) dL_law_654 ?_
  obtain ⟨g21, eg21⟩ : ∃ y : Int64, y = ((xs f19.toNatClampNeg) : Int32).toInt64 := ⟨_, rfl⟩
  refine lv_i2l (v := g21) X.1 X.2.1 dL_law_655 eg21.symm ?_
  refine lv_ldc2 X.1 X.2.1 X.2.2.2.1 (X.2.2.2.2 _ wl_9_162) dL_law_656 ?_
  refine lv_land X.1 X.2.1 dL_law_659 ?_
  refine lv_topl (fun g22 eg22 => ?_)
  refine lv_lor X.1 X.2.1 dL_law_660 ?_
  refine lv_topl (fun g23 eg23 => ?_)
  rcases Bool.eq_false_or_eq_true P.2.2.2.2.1 with hp4 | hp4
  · refine ca_X12_games_1 X hK hG hC hS hb hp4 hp10 mm hmm (xs f13.toNatClampNeg) g23 (show sgN P + 90 ≤ 1000000000 from by omega) wl_8_147 hl.1 (rest := []) rfl (Nat.le_of_ble_eq_true rfl) ⟨Nat.le_of_ble_eq_true rfl, Nat.le_of_ble_eq_true rfl⟩ lwr dL_law_661 (fun f24 tf24 H locs htf24 hf24 hWf24 hS => ?_)
    have hG : sgG (KT (sgAt P (sgN P + 90))) D vwCl _ tys ad ks _ := hWf24.2.2.2
    rw [htf24] at hG
    refine lv_pop X.1 X.2.1 dL_law_664 rfl ?_
    refine lv_goto (tgt := 1349) X.1 X.2.1 dL_law_665 (by decide) ?_
    refine W.widen (k := cells + 4) (n := slots + 8300) (by omega) (by omega) ?_
    exact kk _ _ _ _ _ _ _ (lwV_next hW hK hG hpin (show (sgN P + 90) ≤ sgN P + 432000 from by omega) (sgMo.rf _ _) (sgInv_of hinv rfl rfl rfl rfl rfl) (sgHx_of hgl rfl rfl rfl rfl rfl rfl)) hS (lv_sub hl [0, 1, 2, 3, 4] rfl)
  · refine ca_X12_games_0 X hK hG hC hS hb hp4 mm hmm (xs f13.toNatClampNeg) g23 wl_8_147 hl.1 (rest := []) rfl (Nat.le_of_ble_eq_true rfl) ⟨Nat.le_of_ble_eq_true rfl, Nat.le_of_ble_eq_true rfl⟩ lwr dL_law_661 (fun f25 H locs hf25 hG hS => ?_)
    refine lv_pop X.1 X.2.1 dL_law_664 rfl ?_
    refine lv_goto (tgt := 1349) X.1 X.2.1 dL_law_665 (by decide) ?_
    refine W.widen (k := cells + 4) (n := slots + 8300) (by omega) (by omega) ?_
    exact kk _ _ _ _ _ _ _ (lwV_next hW hK hG hpin (Nat.le_add_right _ _) (sgMo.rf _ _) hinv hgl) hS (lv_sub hl [0, 1, 2, 3, 4] rfl)
end
