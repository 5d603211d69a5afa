/-! The law: cases run walk why open -/
section
variable {G : ac_G} {M : ac_M} {h : ac_H} {ad : Nat → Nat} {o : Nat} {md : Nat → Nat} {m : Nat} {b L u i : Nat} {xs : Nat → Int32} {k n : Nat}
theorem law_run (Z : lz G M ad o md b L u xs) (I : li ad o md u m h) (hm : m < 1000) (hi : i + 7 ≤ L) (hk : k + 7 ≤ 4000) (hn : n + 932 ≤ 500000) (kk : lk G M ad o md b u i m k n) (l5 l6 l7 : Value) : aw G 8 M 551 [.ref b, .ref (ad 0), .ref o, .ref u, .int (nI i), l5, l6, l7] [] h k n := by
  obtain ⟨C, B, hst, hX, hbl, hbA, hL, ua, um⟩ := Z
  obtain ⟨s, w, J, hu⟩ := I
  obtain ⟨fs9, ho⟩ := gJ_om J
  have uo : o ≠ u := fun z => um (by rw [← z]; exact List.mem_cons_self)
  have x1 : vp_in (nI i + 1) L ∧ (nI i + 1).toNatClampNeg = i + 1 := lx (j := 1) (by omega) hL
  have x2 : vp_in (nI i + 2) L ∧ (nI i + 2).toNatClampNeg = i + 2 := lx (j := 2) (by omega) hL
  refine aw_aload_n C dL_law_551 rfl rfl (q := 552) rfl ?_
  refine aw_aload_n C dL_law_552 rfl rfl (q := 553) rfl ?_
  refine aw_iload C dL_law_553 rfl (q := 555) rfl ?_
  refine aw_iconst (v := 1) C dL_law_555 (by decide) (q := 556) rfl ?_
  refine aw_iadd C dL_law_556 (q := 557) rfl ?_
  refine aw_sld (j := i + 1) C dL_law_557 hX hbl hbA x1 (q := 558) rfl ?_
  refine aw_i2l C dL_law_558 (q := 559) rfl ?_
  refine aw_bipush (v := 32) C dL_law_559 (by decide) (q := 561) rfl ?_
  refine aw_lshl C dL_law_561 (q := 562) rfl ?_
  refine aw_aload_n C dL_law_562 rfl rfl (q := 563) rfl ?_
  refine aw_iload C dL_law_563 rfl (q := 565) rfl ?_
  refine aw_iconst (v := 2) C dL_law_565 (by decide) (q := 566) rfl ?_
  refine aw_iadd C dL_law_566 (q := 567) rfl ?_
  refine aw_sld (j := i + 2) C dL_law_567 hX hbl hbA x2 (q := 568) rfl ?_
  refine aw_i2l C dL_law_568 (q := 569) rfl ?_
  refine lcL_84 C dL_law_569 (q := 572) rfl ?_
  refine aw_land C dL_law_572 (q := 573) rfl ?_
  refine aw_lor C dL_law_573 (q := 574) rfl ?_
  refine aw_aload_n C dL_law_574 rfl rfl (q := 575) rfl ?_
  refine csL_run (As := [.ref (ad 0), .long ((((xs (i + 1)).toInt64) <<< ((32 : Int32).toInt64 &&& 63)) ||| (((xs (i + 2)).toInt64) &&& 4294967295)), .ref u]) (rest := []) C B dL_law_575 (w_run J (((((xs (i + 1)).toInt64) <<< ((32 : Int32).toInt64 &&& 63)) ||| (((xs (i + 2)).toInt64) &&& 4294967295))) u hu ua G M.2.1 hst 0) rfl rfl (Nat.le_of_ble_eq_true rfl) (by omega) (by omega) (by omega) (q := 578) rfl (fun r h1 hr => ?_)
  obtain ⟨kc, rfl, kp1, v, w1, hu1, ⟨Q, hM, hQ⟩, hlo⟩ := hr
  show aw G 8 M 578 [.ref b, .ref (ad 0), .ref o, .ref u, .int (nI i), l5, l6, l7] [.int kc] h1 (k + 1) (n + 6)
  have ho1 := kp1 o _ ho (gJ_oa J) uo
  refine aw_istore (ls' := [.ref b, .ref (ad 0), .ref o, .ref u, .int (nI i), .int kc, l6, l7]) C dL_law_578 (by decide) rfl (q := 580) rfl ?_
  refine aw_aload_n C dL_law_580 rfl rfl (q := 581) rfl ?_
  refine aw_aload_n C dL_law_581 rfl rfl (q := 582) rfl ?_
  refine aw_iload C dL_law_582 rfl (q := 584) rfl ?_
  refine aw_iconst (v := 1) C dL_law_584 (by decide) (q := 585) rfl ?_
  refine aw_iadd C dL_law_585 (q := 586) rfl ?_
  refine aw_sld (j := i + 1) C dL_law_586 hX hbl hbA x1 (q := 587) rfl ?_
  refine aw_i2l C dL_law_587 (q := 588) rfl ?_
  refine aw_bipush (v := 32) C dL_law_588 (by decide) (q := 590) rfl ?_
  refine aw_lshl C dL_law_590 (q := 591) rfl ?_
  refine aw_aload_n C dL_law_591 rfl rfl (q := 592) rfl ?_
  refine aw_iload C dL_law_592 rfl (q := 594) rfl ?_
  refine aw_iconst (v := 2) C dL_law_594 (by decide) (q := 595) rfl ?_
  refine aw_iadd C dL_law_595 (q := 596) rfl ?_
  refine aw_sld (j := i + 2) C dL_law_596 hX hbl hbA x2 (q := 597) rfl ?_
  refine aw_i2l C dL_law_597 (q := 598) rfl ?_
  refine lcL_84 C dL_law_598 (q := 601) rfl ?_
  refine aw_land C dL_law_601 (q := 602) rfl ?_
  refine aw_lor C dL_law_602 (q := 603) rfl ?_
  refine cvL_107_9 (As := [.long ((((xs (i + 1)).toInt64) <<< ((32 : Int32).toInt64 &&& 63)) ||| (((xs (i + 2)).toInt64) &&& 4294967295))]) (rest := []) C B dL_law_603 ho1 (hM G M.2.1 0) rfl rfl (Nat.le_of_ble_eq_true rfl) (by omega) (by omega) (by omega) (q := 606) rfl (fun r2 h2 hr2 => ?_)
  obtain ⟨hv, ⟨bv, rfl⟩, s2, J2, hcode, kp2⟩ := hQ r2 h2 hr2
  show aw G 8 M 606 [.ref b, .ref (ad 0), .ref o, .ref u, .int (nI i), .int kc, l6, l7] [.int bv] h2 (k + 1 + 0) (n + 6 + 0)
  have hu2 := kp2 u _ hu1 um
  refine aw_istore (ls' := [.ref b, .ref (ad 0), .ref o, .ref u, .int (nI i), .int kc, .int bv, l7]) C dL_law_606 (by decide) rfl (q := 608) rfl ?_
  refine aw_aload_n C dL_law_608 rfl rfl (q := 609) rfl ?_
  refine cvL_81_9 (As := []) (rest := []) C B dL_law_609 J2.2.2.2.1.1 (m_thrown G M.2.1 o md J2.2.1 h2 0 s2 J2.2.2.2.1) rfl rfl (Nat.le_of_ble_eq_true rfl) (by omega) (by omega) (by omega) (q := 612) rfl (fun r3 h3 hr3 => ?_)
  obtain ⟨rfl, rfl⟩ := hr3
  show aw G 8 M 612 [.ref b, .ref (ad 0), .ref o, .ref u, .int (nI i), .int kc, .int bv, l7] [.int (s2.1 0)] h3 (k + 1 + 0 + 0) (n + 6 + 0 + 0)
  refine aw_iload C dL_law_612 rfl (q := 614) rfl ?_
  refine aw_icmp_eq (t := 619) (q := 617) C dL_law_614 (by decide) rfl (fun c1 => ?_) (fun c1 => absurd hcode c1)
  refine aw_iload C dL_law_619 rfl (q := 621) rfl ?_
  have fin : aw G 8 M 636 [.ref b, .ref (ad 0), .ref o, .ref u, .int (nI i), .int kc, .int bv, l7] [] h3 (k + 1 + 0 + 0) (n + 6 + 0 + 0) := by
    refine aw_goto (q := 1194) C dL_law_636 (by decide) ?_
    exact kk h3 _ _ _ _ _ ⟨s2, w1, J2, hu2⟩ (by omega) (by omega)
  refine aw_if_ne (t := 636) (q := 624) C dL_law_621 (by decide) rfl (fun _ => fin) (fun c2 => ?_)
  have hw : w1 0 = bv.toInt64 := by
    have e1 := hlo c2
    rw [← hv c2] at e1
    exact (Option.some.inj e1).symm
  refine aw_aload_n C dL_law_624 rfl rfl (q := 625) rfl ?_
  refine aw_iconst (v := 0) C dL_law_625 (by decide) (q := 626) rfl ?_
  refine ay_lald (N := 1) (j := 0) C dL_law_626 hu2 vin0 (by decide) (q := 627) rfl ?_
  refine aw_iload C dL_law_627 rfl (q := 629) rfl ?_
  refine aw_i2l C dL_law_629 (q := 630) rfl ?_
  refine aw_lcmp C dL_law_630 (q := 631) rfl ?_
  exact aw_if_eq (t := 636) (q := 634) C dL_law_631 (by decide) rfl (fun _ => fin) (fun c3 => absurd ((lg_cmp_eq _ _).mpr hw) c3)
theorem law_walk (Z : lz G M ad o md b L u xs) (I : li ad o md u m h) (hm : m < 1000) (hi : i + 7 ≤ L) (hk : k + 7 ≤ 4000) (hn : n + 932 ≤ 500000) (kk : lk G M ad o md b u i m k n) (l5 l6 l7 : Value) : aw G 8 M 639 [.ref b, .ref (ad 0), .ref o, .ref u, .int (nI i), l5, l6, l7] [] h k n := by
  obtain ⟨C, B, hst, hX, hbl, hbA, hL, ua, um⟩ := Z
  obtain ⟨s, w, J, hu⟩ := I
  obtain ⟨fs9, ho⟩ := gJ_om J
  have uo : o ≠ u := fun z => um (by rw [← z]; exact List.mem_cons_self)
  have x1 : vp_in (nI i + 1) L ∧ (nI i + 1).toNatClampNeg = i + 1 := lx (j := 1) (by omega) hL
  have x2 : vp_in (nI i + 2) L ∧ (nI i + 2).toNatClampNeg = i + 2 := lx (j := 2) (by omega) hL
  refine aw_aload_n C dL_law_639 rfl rfl (q := 640) rfl ?_
  refine aw_aload_n C dL_law_640 rfl rfl (q := 641) rfl ?_
  refine aw_iload C dL_law_641 rfl (q := 643) rfl ?_
  refine aw_iconst (v := 1) C dL_law_643 (by decide) (q := 644) rfl ?_
  refine aw_iadd C dL_law_644 (q := 645) rfl ?_
  refine aw_sld (j := i + 1) C dL_law_645 hX hbl hbA x1 (q := 646) rfl ?_
  refine aw_i2l C dL_law_646 (q := 647) rfl ?_
  refine aw_bipush (v := 32) C dL_law_647 (by decide) (q := 649) rfl ?_
  refine aw_lshl C dL_law_649 (q := 650) rfl ?_
  refine aw_aload_n C dL_law_650 rfl rfl (q := 651) rfl ?_
  refine aw_iload C dL_law_651 rfl (q := 653) rfl ?_
  refine aw_iconst (v := 2) C dL_law_653 (by decide) (q := 654) rfl ?_
  refine aw_iadd C dL_law_654 (q := 655) rfl ?_
  refine aw_sld (j := i + 2) C dL_law_655 hX hbl hbA x2 (q := 656) rfl ?_
  refine aw_i2l C dL_law_656 (q := 657) rfl ?_
  refine lcL_84 C dL_law_657 (q := 660) rfl ?_
  refine aw_land C dL_law_660 (q := 661) rfl ?_
  refine aw_lor C dL_law_661 (q := 662) rfl ?_
  refine aw_aload_n C dL_law_662 rfl rfl (q := 663) rfl ?_
  refine csL_walk (As := [.ref (ad 0), .long ((((xs (i + 1)).toInt64) <<< ((32 : Int32).toInt64 &&& 63)) ||| (((xs (i + 2)).toInt64) &&& 4294967295)), .ref u]) (rest := []) C B dL_law_663 (w_walk J (((((xs (i + 1)).toInt64) <<< ((32 : Int32).toInt64 &&& 63)) ||| (((xs (i + 2)).toInt64) &&& 4294967295))) u hu ua G M.2.1 hst 0) rfl rfl (Nat.le_of_ble_eq_true rfl) (by omega) (by omega) (by omega) (q := 666) rfl (fun r h1 hr => ?_)
  obtain ⟨kc, rfl, kp1, v, w1, hu1, ⟨Q, hM, hQ⟩, hlo⟩ := hr
  show aw G 8 M 666 [.ref b, .ref (ad 0), .ref o, .ref u, .int (nI i), l5, l6, l7] [.int kc] h1 (k + 1) (n + 6)
  have ho1 := kp1 o _ ho (gJ_oa J) uo
  refine aw_istore (ls' := [.ref b, .ref (ad 0), .ref o, .ref u, .int (nI i), .int kc, l6, l7]) C dL_law_666 (by decide) rfl (q := 668) rfl ?_
  refine aw_aload_n C dL_law_668 rfl rfl (q := 669) rfl ?_
  refine aw_aload_n C dL_law_669 rfl rfl (q := 670) rfl ?_
  refine aw_iload C dL_law_670 rfl (q := 672) rfl ?_
  refine aw_iconst (v := 1) C dL_law_672 (by decide) (q := 673) rfl ?_
  refine aw_iadd C dL_law_673 (q := 674) rfl ?_
  refine aw_sld (j := i + 1) C dL_law_674 hX hbl hbA x1 (q := 675) rfl ?_
  refine aw_i2l C dL_law_675 (q := 676) rfl ?_
  refine aw_bipush (v := 32) C dL_law_676 (by decide) (q := 678) rfl ?_
  refine aw_lshl C dL_law_678 (q := 679) rfl ?_
  refine aw_aload_n C dL_law_679 rfl rfl (q := 680) rfl ?_
  refine aw_iload C dL_law_680 rfl (q := 682) rfl ?_
  refine aw_iconst (v := 2) C dL_law_682 (by decide) (q := 683) rfl ?_
  refine aw_iadd C dL_law_683 (q := 684) rfl ?_
  refine aw_sld (j := i + 2) C dL_law_684 hX hbl hbA x2 (q := 685) rfl ?_
  refine aw_i2l C dL_law_685 (q := 686) rfl ?_
  refine lcL_84 C dL_law_686 (q := 689) rfl ?_
  refine aw_land C dL_law_689 (q := 690) rfl ?_
  refine aw_lor C dL_law_690 (q := 691) rfl ?_
  refine cvL_110_9 (As := [.long ((((xs (i + 1)).toInt64) <<< ((32 : Int32).toInt64 &&& 63)) ||| (((xs (i + 2)).toInt64) &&& 4294967295))]) (rest := []) C B dL_law_691 ho1 (hM G M.2.1 0) rfl rfl (Nat.le_of_ble_eq_true rfl) (by omega) (by omega) (by omega) (q := 694) rfl (fun r2 h2 hr2 => ?_)
  obtain ⟨hv, ⟨bv, rfl⟩, s2, J2, hcode, kp2⟩ := hQ r2 h2 hr2
  show aw G 8 M 694 [.ref b, .ref (ad 0), .ref o, .ref u, .int (nI i), .int kc, l6, l7] [.int bv] h2 (k + 1 + 0) (n + 6 + 0)
  have hu2 := kp2 u _ hu1 um
  refine aw_istore (ls' := [.ref b, .ref (ad 0), .ref o, .ref u, .int (nI i), .int kc, .int bv, l7]) C dL_law_694 (by decide) rfl (q := 696) rfl ?_
  refine aw_aload_n C dL_law_696 rfl rfl (q := 697) rfl ?_
  refine cvL_81_9 (As := []) (rest := []) C B dL_law_697 J2.2.2.2.1.1 (m_thrown G M.2.1 o md J2.2.1 h2 0 s2 J2.2.2.2.1) rfl rfl (Nat.le_of_ble_eq_true rfl) (by omega) (by omega) (by omega) (q := 700) rfl (fun r3 h3 hr3 => ?_)
  obtain ⟨rfl, rfl⟩ := hr3
  show aw G 8 M 700 [.ref b, .ref (ad 0), .ref o, .ref u, .int (nI i), .int kc, .int bv, l7] [.int (s2.1 0)] h3 (k + 1 + 0 + 0) (n + 6 + 0 + 0)
  refine aw_iload C dL_law_700 rfl (q := 702) rfl ?_
  refine aw_icmp_eq (t := 707) (q := 705) C dL_law_702 (by decide) rfl (fun c1 => ?_) (fun c1 => absurd hcode c1)
  refine aw_iload C dL_law_707 rfl (q := 709) rfl ?_
  have fin : aw G 8 M 724 [.ref b, .ref (ad 0), .ref o, .ref u, .int (nI i), .int kc, .int bv, l7] [] h3 (k + 1 + 0 + 0) (n + 6 + 0 + 0) := by
    refine aw_goto (q := 1194) C dL_law_724 (by decide) ?_
    exact kk h3 _ _ _ _ _ ⟨s2, w1, J2, hu2⟩ (by omega) (by omega)
  refine aw_if_ne (t := 724) (q := 712) C dL_law_709 (by decide) rfl (fun _ => fin) (fun c2 => ?_)
  have hw : w1 0 = bv.toInt64 := by
    have e1 := hlo c2
    rw [← hv c2] at e1
    exact (Option.some.inj e1).symm
  refine aw_aload_n C dL_law_712 rfl rfl (q := 713) rfl ?_
  refine aw_iconst (v := 0) C dL_law_713 (by decide) (q := 714) rfl ?_
  refine ay_lald (N := 1) (j := 0) C dL_law_714 hu2 vin0 (by decide) (q := 715) rfl ?_
  refine aw_iload C dL_law_715 rfl (q := 717) rfl ?_
  refine aw_i2l C dL_law_717 (q := 718) rfl ?_
  refine aw_lcmp C dL_law_718 (q := 719) rfl ?_
  exact aw_if_eq (t := 724) (q := 722) C dL_law_719 (by decide) rfl (fun _ => fin) (fun c3 => absurd ((lg_cmp_eq _ _).mpr hw) c3)
theorem law_why (Z : lz G M ad o md b L u xs) (I : li ad o md u m h) (hm : m < 1000) (hi : i + 7 ≤ L) (hk : k + 7 ≤ 4000) (hn : n + 932 ≤ 500000) (kk : lk G M ad o md b u i m k n) (l5 l6 l7 : Value) : aw G 8 M 727 [.ref b, .ref (ad 0), .ref o, .ref u, .int (nI i), l5, l6, l7] [] h k n := by
  obtain ⟨C, B, hst, hX, hbl, hbA, hL, ua, um⟩ := Z
  obtain ⟨s, w, J, hu⟩ := I
  obtain ⟨fs9, ho⟩ := gJ_om J
  have uo : o ≠ u := fun z => um (by rw [← z]; exact List.mem_cons_self)
  have x1 : vp_in (nI i + 1) L ∧ (nI i + 1).toNatClampNeg = i + 1 := lx (j := 1) (by omega) hL
  have x2 : vp_in (nI i + 2) L ∧ (nI i + 2).toNatClampNeg = i + 2 := lx (j := 2) (by omega) hL
  refine aw_aload_n C dL_law_727 rfl rfl (q := 728) rfl ?_
  refine aw_aload_n C dL_law_728 rfl rfl (q := 729) rfl ?_
  refine aw_iload C dL_law_729 rfl (q := 731) rfl ?_
  refine aw_iconst (v := 1) C dL_law_731 (by decide) (q := 732) rfl ?_
  refine aw_iadd C dL_law_732 (q := 733) rfl ?_
  refine aw_sld (j := i + 1) C dL_law_733 hX hbl hbA x1 (q := 734) rfl ?_
  refine aw_aload_n C dL_law_734 rfl rfl (q := 735) rfl ?_
  refine aw_iload C dL_law_735 rfl (q := 737) rfl ?_
  refine aw_iconst (v := 2) C dL_law_737 (by decide) (q := 738) rfl ?_
  refine aw_iadd C dL_law_738 (q := 739) rfl ?_
  refine aw_sld (j := i + 2) C dL_law_739 hX hbl hbA x2 (q := 740) rfl ?_
  refine aw_aload_n C dL_law_740 rfl rfl (q := 741) rfl ?_
  refine csL_why (As := [.ref (ad 0), .int (xs (i + 1)), .int (xs (i + 2)), .ref u]) (rest := []) C B dL_law_741 (w_why J ((xs (i + 1))) ((xs (i + 2))) u hu ua G M.2.1 hst 0) rfl rfl (Nat.le_of_ble_eq_true rfl) (by omega) (by omega) (by omega) (q := 744) rfl (fun r h1 hr => ?_)
  obtain ⟨kc, rfl, kp1, v, w1, hu1, ⟨Q, hM, hQ⟩, hlo⟩ := hr
  show aw G 8 M 744 [.ref b, .ref (ad 0), .ref o, .ref u, .int (nI i), l5, l6, l7] [.int kc] h1 (k + 1) (n + 6)
  have ho1 := kp1 o _ ho (gJ_oa J) uo
  refine aw_istore (ls' := [.ref b, .ref (ad 0), .ref o, .ref u, .int (nI i), .int kc, l6, l7]) C dL_law_744 (by decide) rfl (q := 746) rfl ?_
  refine aw_aload_n C dL_law_746 rfl rfl (q := 747) rfl ?_
  refine aw_aload_n C dL_law_747 rfl rfl (q := 748) rfl ?_
  refine aw_iload C dL_law_748 rfl (q := 750) rfl ?_
  refine aw_iconst (v := 1) C dL_law_750 (by decide) (q := 751) rfl ?_
  refine aw_iadd C dL_law_751 (q := 752) rfl ?_
  refine aw_sld (j := i + 1) C dL_law_752 hX hbl hbA x1 (q := 753) rfl ?_
  refine aw_aload_n C dL_law_753 rfl rfl (q := 754) rfl ?_
  refine aw_iload C dL_law_754 rfl (q := 756) rfl ?_
  refine aw_iconst (v := 2) C dL_law_756 (by decide) (q := 757) rfl ?_
  refine aw_iadd C dL_law_757 (q := 758) rfl ?_
  refine aw_sld (j := i + 2) C dL_law_758 hX hbl hbA x2 (q := 759) rfl ?_
  refine cvL_114_9 (As := [.int (xs (i + 1)), .int (xs (i + 2))]) (rest := []) C B dL_law_759 ho1 (hM G M.2.1 0) rfl rfl (Nat.le_of_ble_eq_true rfl) (by omega) (by omega) (by omega) (q := 762) rfl (fun r2 h2 hr2 => ?_)
  obtain ⟨hv, ⟨bv, rfl⟩, s2, J2, hcode, kp2⟩ := hQ r2 h2 hr2
  show aw G 8 M 762 [.ref b, .ref (ad 0), .ref o, .ref u, .int (nI i), .int kc, l6, l7] [.int bv] h2 (k + 1 + 0) (n + 6 + 0)
  have hu2 := kp2 u _ hu1 um
  refine aw_istore (ls' := [.ref b, .ref (ad 0), .ref o, .ref u, .int (nI i), .int kc, .int bv, l7]) C dL_law_762 (by decide) rfl (q := 764) rfl ?_
  refine aw_aload_n C dL_law_764 rfl rfl (q := 765) rfl ?_
  refine cvL_81_9 (As := []) (rest := []) C B dL_law_765 J2.2.2.2.1.1 (m_thrown G M.2.1 o md J2.2.1 h2 0 s2 J2.2.2.2.1) rfl rfl (Nat.le_of_ble_eq_true rfl) (by omega) (by omega) (by omega) (q := 768) rfl (fun r3 h3 hr3 => ?_)
  obtain ⟨rfl, rfl⟩ := hr3
  show aw G 8 M 768 [.ref b, .ref (ad 0), .ref o, .ref u, .int (nI i), .int kc, .int bv, l7] [.int (s2.1 0)] h3 (k + 1 + 0 + 0) (n + 6 + 0 + 0)
  refine aw_iload C dL_law_768 rfl (q := 770) rfl ?_
  refine aw_icmp_eq (t := 775) (q := 773) C dL_law_770 (by decide) rfl (fun c1 => ?_) (fun c1 => absurd hcode c1)
  refine aw_iload C dL_law_775 rfl (q := 777) rfl ?_
  have fin : aw G 8 M 792 [.ref b, .ref (ad 0), .ref o, .ref u, .int (nI i), .int kc, .int bv, l7] [] h3 (k + 1 + 0 + 0) (n + 6 + 0 + 0) := by
    refine aw_goto (q := 1194) C dL_law_792 (by decide) ?_
    exact kk h3 _ _ _ _ _ ⟨s2, w1, J2, hu2⟩ (by omega) (by omega)
  refine aw_if_ne (t := 792) (q := 780) C dL_law_777 (by decide) rfl (fun _ => fin) (fun c2 => ?_)
  have hw : w1 0 = bv.toInt64 := by
    have e1 := hlo c2
    rw [← hv c2] at e1
    exact (Option.some.inj e1).symm
  refine aw_aload_n C dL_law_780 rfl rfl (q := 781) rfl ?_
  refine aw_iconst (v := 0) C dL_law_781 (by decide) (q := 782) rfl ?_
  refine ay_lald (N := 1) (j := 0) C dL_law_782 hu2 vin0 (by decide) (q := 783) rfl ?_
  refine aw_iload C dL_law_783 rfl (q := 785) rfl ?_
  refine aw_i2l C dL_law_785 (q := 786) rfl ?_
  refine aw_lcmp C dL_law_786 (q := 787) rfl ?_
  exact aw_if_eq (t := 792) (q := 790) C dL_law_787 (by decide) rfl (fun _ => fin) (fun c3 => absurd ((lg_cmp_eq _ _).mpr hw) c3)
theorem law_open (Z : lz G M ad o md b L u xs) (I : li ad o md u m h) (hm : m < 1000) (hi : i + 7 ≤ L) (hk : k + 7 ≤ 4000) (hn : n + 932 ≤ 500000) (kk : lk G M ad o md b u i m k n) (l5 l6 l7 : Value) : aw G 8 M 795 [.ref b, .ref (ad 0), .ref o, .ref u, .int (nI i), l5, l6, l7] [] h k n := by
  obtain ⟨C, B, hst, hX, hbl, hbA, hL, ua, um⟩ := Z
  obtain ⟨s, w, J, hu⟩ := I
  obtain ⟨fs9, ho⟩ := gJ_om J
  have uo : o ≠ u := fun z => um (by rw [← z]; exact List.mem_cons_self)
  have x1 : vp_in (nI i + 1) L ∧ (nI i + 1).toNatClampNeg = i + 1 := lx (j := 1) (by omega) hL
  have x2 : vp_in (nI i + 2) L ∧ (nI i + 2).toNatClampNeg = i + 2 := lx (j := 2) (by omega) hL
  refine aw_aload_n C dL_law_795 rfl rfl (q := 796) rfl ?_
  refine aw_aload_n C dL_law_796 rfl rfl (q := 797) rfl ?_
  refine aw_iload C dL_law_797 rfl (q := 799) rfl ?_
  refine aw_iconst (v := 1) C dL_law_799 (by decide) (q := 800) rfl ?_
  refine aw_iadd C dL_law_800 (q := 801) rfl ?_
  refine aw_sld (j := i + 1) C dL_law_801 hX hbl hbA x1 (q := 802) rfl ?_
  refine aw_aload_n C dL_law_802 rfl rfl (q := 803) rfl ?_
  refine aw_iload C dL_law_803 rfl (q := 805) rfl ?_
  refine aw_iconst (v := 2) C dL_law_805 (by decide) (q := 806) rfl ?_
  refine aw_iadd C dL_law_806 (q := 807) rfl ?_
  refine aw_sld (j := i + 2) C dL_law_807 hX hbl hbA x2 (q := 808) rfl ?_
  refine aw_aload_n C dL_law_808 rfl rfl (q := 809) rfl ?_
  refine csL_open (As := [.ref (ad 0), .int (xs (i + 1)), .int (xs (i + 2)), .ref u]) (rest := []) C B dL_law_809 (w_open J ((xs (i + 1))) ((xs (i + 2))) u hu ua G M.2.1 hst 0) rfl rfl (Nat.le_of_ble_eq_true rfl) (by omega) (by omega) (by omega) (q := 812) rfl (fun r h1 hr => ?_)
  obtain ⟨kc, rfl, kp1, v, w1, hu1, ⟨Q, hM, hQ⟩, hlo⟩ := hr
  show aw G 8 M 812 [.ref b, .ref (ad 0), .ref o, .ref u, .int (nI i), l5, l6, l7] [.int kc] h1 (k + 1) (n + 6)
  have ho1 := kp1 o _ ho (gJ_oa J) uo
  refine aw_istore (ls' := [.ref b, .ref (ad 0), .ref o, .ref u, .int (nI i), .int kc, l6, l7]) C dL_law_812 (by decide) rfl (q := 814) rfl ?_
  refine aw_aload_n C dL_law_814 rfl rfl (q := 815) rfl ?_
  refine aw_aload_n C dL_law_815 rfl rfl (q := 816) rfl ?_
  refine aw_iload C dL_law_816 rfl (q := 818) rfl ?_
  refine aw_iconst (v := 1) C dL_law_818 (by decide) (q := 819) rfl ?_
  refine aw_iadd C dL_law_819 (q := 820) rfl ?_
  refine aw_sld (j := i + 1) C dL_law_820 hX hbl hbA x1 (q := 821) rfl ?_
  refine aw_aload_n C dL_law_821 rfl rfl (q := 822) rfl ?_
  refine aw_iload C dL_law_822 rfl (q := 824) rfl ?_
  refine aw_iconst (v := 2) C dL_law_824 (by decide) (q := 825) rfl ?_
  refine aw_iadd C dL_law_825 (q := 826) rfl ?_
  refine aw_sld (j := i + 2) C dL_law_826 hX hbl hbA x2 (q := 827) rfl ?_
  refine cvL_117_9 (As := [.int (xs (i + 1)), .int (xs (i + 2))]) (rest := []) C B dL_law_827 ho1 (hM G M.2.1 0) rfl rfl (Nat.le_of_ble_eq_true rfl) (by omega) (by omega) (by omega) (q := 830) rfl (fun r2 h2 hr2 => ?_)
  obtain ⟨hv, ⟨bv, rfl⟩, s2, J2, hcode, kp2⟩ := hQ r2 h2 hr2
  show aw G 8 M 830 [.ref b, .ref (ad 0), .ref o, .ref u, .int (nI i), .int kc, l6, l7] [.int bv] h2 (k + 1 + 0) (n + 6 + 0)
  have hu2 := kp2 u _ hu1 um
  refine aw_istore (ls' := [.ref b, .ref (ad 0), .ref o, .ref u, .int (nI i), .int kc, .int bv, l7]) C dL_law_830 (by decide) rfl (q := 832) rfl ?_
  refine aw_aload_n C dL_law_832 rfl rfl (q := 833) rfl ?_
  refine cvL_81_9 (As := []) (rest := []) C B dL_law_833 J2.2.2.2.1.1 (m_thrown G M.2.1 o md J2.2.1 h2 0 s2 J2.2.2.2.1) rfl rfl (Nat.le_of_ble_eq_true rfl) (by omega) (by omega) (by omega) (q := 836) rfl (fun r3 h3 hr3 => ?_)
  obtain ⟨rfl, rfl⟩ := hr3
  show aw G 8 M 836 [.ref b, .ref (ad 0), .ref o, .ref u, .int (nI i), .int kc, .int bv, l7] [.int (s2.1 0)] h3 (k + 1 + 0 + 0) (n + 6 + 0 + 0)
  refine aw_iload C dL_law_836 rfl (q := 838) rfl ?_
  refine aw_icmp_eq (t := 843) (q := 841) C dL_law_838 (by decide) rfl (fun c1 => ?_) (fun c1 => absurd hcode c1)
  refine aw_iload C dL_law_843 rfl (q := 845) rfl ?_
  have fin : aw G 8 M 860 [.ref b, .ref (ad 0), .ref o, .ref u, .int (nI i), .int kc, .int bv, l7] [] h3 (k + 1 + 0 + 0) (n + 6 + 0 + 0) := by
    refine aw_goto (q := 1194) C dL_law_860 (by decide) ?_
    exact kk h3 _ _ _ _ _ ⟨s2, w1, J2, hu2⟩ (by omega) (by omega)
  refine aw_if_ne (t := 860) (q := 848) C dL_law_845 (by decide) rfl (fun _ => fin) (fun c2 => ?_)
  have hw : w1 0 = bv.toInt64 := by
    have e1 := hlo c2
    rw [← hv c2] at e1
    exact (Option.some.inj e1).symm
  refine aw_aload_n C dL_law_848 rfl rfl (q := 849) rfl ?_
  refine aw_iconst (v := 0) C dL_law_849 (by decide) (q := 850) rfl ?_
  refine ay_lald (N := 1) (j := 0) C dL_law_850 hu2 vin0 (by decide) (q := 851) rfl ?_
  refine aw_iload C dL_law_851 rfl (q := 853) rfl ?_
  refine aw_i2l C dL_law_853 (q := 854) rfl ?_
  refine aw_lcmp C dL_law_854 (q := 855) rfl ?_
  exact aw_if_eq (t := 860) (q := 858) C dL_law_855 (by decide) rfl (fun _ => fin) (fun c3 => absurd ((lg_cmp_eq _ _).mpr hw) c3)
end
