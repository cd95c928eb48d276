set_option maxHeartbeats 4000000 in
set_option maxRecDepth 100000 in
theorem lw_case_4 {F : pb_F} {d k n cells slots sz b N j X : Nat} {sk : pb_Sk} {rf : pb_Rf} {sg : pb_Sg} {xs : Nat → Int32} {v5 v6 : Option Value} (h : pb_Fx F mL_law d k n) (hfl : (pb_l F).stackTraces = false) (hX : va_X b N xs (pb_s F) (pb_s F).heap) (hbl : b < (pb_s F).heap.size) (hbA : ¬ pb_own (pb_g F) b) (hN : N ≤ 3072) (hj : 6 * j + 6 ≤ N) (hd : 30 ≤ d) (hc : cells + 18 ≤ k) (hs : slots + 400 ≤ n) (hI : pq_INV X sz sk rf sg) (kk : ∀ sz' sk' rf' sg' v5' v6', pq_INV X sz' sk' rf' sg' → pv F (cells + 18) (slots + 400) sz' sk' rf' sg' 2247 [some (.ref b), some (.ref X), some (.ref (X + 45)), some (.ref (X + 70)), some (.int (nI (6 * j))), v5', v6'] []) : pv F cells slots sz sk rf sg 530 [some (.ref b), some (.ref X), some (.ref (X + 45)), some (.ref (X + 70)), some (.int (nI (6 * j))), v5, v6] [] := by
  obtain ⟨k0, kc, nc, post, hk3, hkc, hnc, hM, hP⟩ := pq_st_tasks hfl hI (xs (6 * j + 1))
  refine v_aload_n h (i := 1) dL_law_530 (q := 531) rfl rfl rfl ?_
  refine v_aload_n h (i := 0) dL_law_531 (q := 532) rfl rfl rfl ?_
  refine v_iload h dL_law_532 (q := 534) rfl rfl ?_
  refine v_iconst h (v := nI 1) dL_law_534 (q := 535) rfl (by decide +kernel) ?_
  refine v_iadd h dL_law_535 (q := 536) rfl ?_
  refine v_sld h hX hbl hbA (t := 6 * j + 1) (nI_add _ _) (by omega) (by omega) dL_law_536 (q := 537) rfl ?_
  refine v_aload_n h (i := 3) dL_law_537 (q := 538) rfl rfl rfl ?_
  refine v_callSH h hM kL_tasks (fun h9 => nomatch h9) tw463 rfl rfl (by simp [Value.category]) (by omega) (by omega) (by omega) rfl dL_law_538 (q := 541) rfl ?_ (fun E sz9 sk9 rf9 sg9 hx9 => nomatch (hP _ _ _ _ _ hx9).1)
  intro v1 sz1 sk1 rf1 sg1 hp1
  obtain ⟨e1, d8, w8, sg2, hd8, hPw, hM8, ht, ho, hI2⟩ := hP _ _ _ _ _ hp1
  cases e1
  obtain ⟨nn, B, par, hsk, -⟩ := id hI2
  have hm1 := hsk.2.2.1
  have hO1 := hsk.2.2.2.1
  refine v_istore h dL_law_541 (q := 543) rfl (Nat.le_of_ble_eq_true rfl) rfl ?_
  refine v_aload_n h (i := 2) dL_law_543 (q := 544) rfl rfl rfl ?_
  refine v_aload_n h (i := 0) dL_law_544 (q := 545) rfl rfl rfl ?_
  refine v_iload h dL_law_545 (q := 547) rfl rfl ?_
  refine v_iconst h (v := nI 1) dL_law_547 (q := 548) rfl (by decide +kernel) ?_
  refine v_iadd h dL_law_548 (q := 549) rfl ?_
  refine v_sld h hX hbl hbA (t := 6 * j + 1) (nI_add _ _) (by omega) (by omega) dL_law_549 (q := 550) rfl ?_
  refine v_callV1 h hM8 kX8_tasks tw972 tw974 hm1.1 (by decide) rfl rfl rfl (by simp [Value.category]) (by omega) (by omega) (by omega) rfl dL_law_550 (q := 553) rfl ?_
  refine v_istore h dL_law_553 (q := 555) rfl (Nat.le_of_ble_eq_true rfl) rfl ?_
  refine v_aload_n h (i := 2) dL_law_555 (q := 556) rfl rfl rfl ?_
  refine v_callV1 h (c_X8_thrown hfl hm1) kX8_thrown tw911 tw913 hm1.1 (by decide) rfl rfl rfl (by simp [Value.category]) (by omega) (by omega) (by omega) rfl dL_law_556 (q := 559) rfl ?_
  refine v_iload h dL_law_559 (q := 561) rfl rfl ?_
  refine v_icmp_eq h dL_law_561 (q := 564) rfl (tgt := 566) (by decide) (fun _ => ?_) (fun c9 => absurd ht c9)
  refine v_iload h dL_law_566 (q := 568) rfl rfl ?_
  refine v_if_ne h dL_law_568 (q := 571) rfl (tgt := 583) (by decide) (fun _ => ?_) (fun c9 => ?_)
  · refine v_goto h dL_law_583 (tgt := 2247) (by decide) ?_
    refine v_widen (c2 := cells + 18) (s2 := slots + 400) (by omega) (by omega) ?_
    exact kk _ _ _ _ _ _ hI2
  · have hk0 : k0 = 0 := (nI_eq (by omega) (by omega)).mp c9
    refine v_aload_n h (i := 3) dL_law_571 (q := 572) rfl rfl rfl ?_
    refine v_iconst h (v := nI 0) dL_law_572 (q := 573) rfl (by decide +kernel) ?_
    refine v_lald h hO1 rfl (by decide) (by decide) dL_law_573 (q := 574) rfl ?_
    rw [ho hk0]
    refine v_iload h dL_law_574 (q := 576) rfl rfl ?_
    refine v_i2l h dL_law_576 (q := 577) rfl ?_
    refine v_lcmp h dL_law_577 (q := 578) rfl ?_
    refine v_if_eq h dL_law_578 (q := 581) rfl (tgt := 583) (by decide) (fun _ => ?_) (fun c8 => absurd ((lg_cmp_eq _ _).mpr rfl) c8)
    refine v_goto h dL_law_583 (tgt := 2247) (by decide) ?_
    refine v_widen (c2 := cells + 18) (s2 := slots + 400) (by omega) (by omega) ?_
    exact kk _ _ _ _ _ _ hI2
set_option maxHeartbeats 4000000 in
set_option maxRecDepth 100000 in
theorem lw_case_5 {F : pb_F} {d k n cells slots sz b N j X : Nat} {sk : pb_Sk} {rf : pb_Rf} {sg : pb_Sg} {xs : Nat → Int32} {v5 v6 : Option Value} (h : pb_Fx F mL_law d k n) (hfl : (pb_l F).stackTraces = false) (hX : va_X b N xs (pb_s F) (pb_s F).heap) (hbl : b < (pb_s F).heap.size) (hbA : ¬ pb_own (pb_g F) b) (hN : N ≤ 3072) (hj : 6 * j + 6 ≤ N) (hd : 30 ≤ d) (hc : cells + 18 ≤ k) (hs : slots + 400 ≤ n) (hI : pq_INV X sz sk rf sg) (kk : ∀ sz' sk' rf' sg' v5' v6', pq_INV X sz' sk' rf' sg' → pv F (cells + 18) (slots + 400) sz' sk' rf' sg' 2247 [some (.ref b), some (.ref X), some (.ref (X + 45)), some (.ref (X + 70)), some (.int (nI (6 * j))), v5', v6'] []) : pv F cells slots sz sk rf sg 586 [some (.ref b), some (.ref X), some (.ref (X + 45)), some (.ref (X + 70)), some (.int (nI (6 * j))), v5, v6] [] := by
  obtain ⟨k0, kc, nc, post, hk3, hkc, hnc, hM, hP⟩ := pq_st_length hfl hI (xs (6 * j + 1)) (xs (6 * j + 2))
  refine v_aload_n h (i := 1) dL_law_586 (q := 587) rfl rfl rfl ?_
  refine v_aload_n h (i := 0) dL_law_587 (q := 588) rfl rfl rfl ?_
  refine v_iload h dL_law_588 (q := 590) rfl rfl ?_
  refine v_iconst h (v := nI 1) dL_law_590 (q := 591) rfl (by decide +kernel) ?_
  refine v_iadd h dL_law_591 (q := 592) rfl ?_
  refine v_sld h hX hbl hbA (t := 6 * j + 1) (nI_add _ _) (by omega) (by omega) dL_law_592 (q := 593) rfl ?_
  refine v_aload_n h (i := 0) dL_law_593 (q := 594) rfl rfl rfl ?_
  refine v_iload h dL_law_594 (q := 596) rfl rfl ?_
  refine v_iconst h (v := nI 2) dL_law_596 (q := 597) rfl (by decide +kernel) ?_
  refine v_iadd h dL_law_597 (q := 598) rfl ?_
  refine v_sld h hX hbl hbA (t := 6 * j + 2) (nI_add _ _) (by omega) (by omega) dL_law_598 (q := 599) rfl ?_
  refine v_aload_n h (i := 3) dL_law_599 (q := 600) rfl rfl rfl ?_
  refine v_callSH h hM kL_length (fun h9 => nomatch h9) tw475 rfl rfl (by simp [Value.category]) (by omega) (by omega) (by omega) rfl dL_law_600 (q := 603) rfl ?_ (fun E sz9 sk9 rf9 sg9 hx9 => nomatch (hP _ _ _ _ _ hx9).1)
  intro v1 sz1 sk1 rf1 sg1 hp1
  obtain ⟨e1, d8, w8, sg2, hd8, hPw, hM8, ht, ho, hI2⟩ := hP _ _ _ _ _ hp1
  cases e1
  obtain ⟨nn, B, par, hsk, -⟩ := id hI2
  have hm1 := hsk.2.2.1
  have hO1 := hsk.2.2.2.1
  refine v_istore h dL_law_603 (q := 605) rfl (Nat.le_of_ble_eq_true rfl) rfl ?_
  refine v_aload_n h (i := 2) dL_law_605 (q := 606) rfl rfl rfl ?_
  refine v_aload_n h (i := 0) dL_law_606 (q := 607) rfl rfl rfl ?_
  refine v_iload h dL_law_607 (q := 609) rfl rfl ?_
  refine v_iconst h (v := nI 1) dL_law_609 (q := 610) rfl (by decide +kernel) ?_
  refine v_iadd h dL_law_610 (q := 611) rfl ?_
  refine v_sld h hX hbl hbA (t := 6 * j + 1) (nI_add _ _) (by omega) (by omega) dL_law_611 (q := 612) rfl ?_
  refine v_aload_n h (i := 0) dL_law_612 (q := 613) rfl rfl rfl ?_
  refine v_iload h dL_law_613 (q := 615) rfl rfl ?_
  refine v_iconst h (v := nI 2) dL_law_615 (q := 616) rfl (by decide +kernel) ?_
  refine v_iadd h dL_law_616 (q := 617) rfl ?_
  refine v_sld h hX hbl hbA (t := 6 * j + 2) (nI_add _ _) (by omega) (by omega) dL_law_617 (q := 618) rfl ?_
  refine v_callV1 h hM8 kX8_length tw980 tw982 hm1.1 (by decide) rfl rfl rfl (by simp [Value.category]) (by omega) (by omega) (by omega) rfl dL_law_618 (q := 621) rfl ?_
  refine v_istore h dL_law_621 (q := 623) rfl (Nat.le_of_ble_eq_true rfl) rfl ?_
  refine v_aload_n h (i := 2) dL_law_623 (q := 624) rfl rfl rfl ?_
  refine v_callV1 h (c_X8_thrown hfl hm1) kX8_thrown tw911 tw913 hm1.1 (by decide) rfl rfl rfl (by simp [Value.category]) (by omega) (by omega) (by omega) rfl dL_law_624 (q := 627) rfl ?_
  refine v_iload h dL_law_627 (q := 629) rfl rfl ?_
  refine v_icmp_eq h dL_law_629 (q := 632) rfl (tgt := 634) (by decide) (fun _ => ?_) (fun c9 => absurd ht c9)
  refine v_iload h dL_law_634 (q := 636) rfl rfl ?_
  refine v_if_ne h dL_law_636 (q := 639) rfl (tgt := 651) (by decide) (fun _ => ?_) (fun c9 => ?_)
  · refine v_goto h dL_law_651 (tgt := 2247) (by decide) ?_
    refine v_widen (c2 := cells + 18) (s2 := slots + 400) (by omega) (by omega) ?_
    exact kk _ _ _ _ _ _ hI2
  · have hk0 : k0 = 0 := (nI_eq (by omega) (by omega)).mp c9
    refine v_aload_n h (i := 3) dL_law_639 (q := 640) rfl rfl rfl ?_
    refine v_iconst h (v := nI 0) dL_law_640 (q := 641) rfl (by decide +kernel) ?_
    refine v_lald h hO1 rfl (by decide) (by decide) dL_law_641 (q := 642) rfl ?_
    rw [ho hk0]
    refine v_iload h dL_law_642 (q := 644) rfl rfl ?_
    refine v_i2l h dL_law_644 (q := 645) rfl ?_
    refine v_lcmp h dL_law_645 (q := 646) rfl ?_
    refine v_if_eq h dL_law_646 (q := 649) rfl (tgt := 651) (by decide) (fun _ => ?_) (fun c8 => absurd ((lg_cmp_eq _ _).mpr rfl) c8)
    refine v_goto h dL_law_651 (tgt := 2247) (by decide) ?_
    refine v_widen (c2 := cells + 18) (s2 := slots + 400) (by omega) (by omega) ?_
    exact kk _ _ _ _ _ _ hI2
set_option maxHeartbeats 4000000 in
set_option maxRecDepth 100000 in
theorem lw_case_6 {F : pb_F} {d k n cells slots sz b N j X : Nat} {sk : pb_Sk} {rf : pb_Rf} {sg : pb_Sg} {xs : Nat → Int32} {v5 v6 : Option Value} (h : pb_Fx F mL_law d k n) (hfl : (pb_l F).stackTraces = false) (hX : va_X b N xs (pb_s F) (pb_s F).heap) (hbl : b < (pb_s F).heap.size) (hbA : ¬ pb_own (pb_g F) b) (hN : N ≤ 3072) (hj : 6 * j + 6 ≤ N) (hd : 30 ≤ d) (hc : cells + 18 ≤ k) (hs : slots + 400 ≤ n) (hI : pq_INV X sz sk rf sg) (kk : ∀ sz' sk' rf' sg' v5' v6', pq_INV X sz' sk' rf' sg' → pv F (cells + 18) (slots + 400) sz' sk' rf' sg' 2247 [some (.ref b), some (.ref X), some (.ref (X + 45)), some (.ref (X + 70)), some (.int (nI (6 * j))), v5', v6'] []) : pv F cells slots sz sk rf sg 654 [some (.ref b), some (.ref X), some (.ref (X + 45)), some (.ref (X + 70)), some (.int (nI (6 * j))), v5, v6] [] := by
  obtain ⟨k0, kc, nc, post, hk3, hkc, hnc, hM, hP⟩ := pq_st_crew hfl hI (xs (6 * j + 1)) (xs (6 * j + 2))
  refine v_aload_n h (i := 1) dL_law_654 (q := 655) rfl rfl rfl ?_
  refine v_aload_n h (i := 0) dL_law_655 (q := 656) rfl rfl rfl ?_
  refine v_iload h dL_law_656 (q := 658) rfl rfl ?_
  refine v_iconst h (v := nI 1) dL_law_658 (q := 659) rfl (by decide +kernel) ?_
  refine v_iadd h dL_law_659 (q := 660) rfl ?_
  refine v_sld h hX hbl hbA (t := 6 * j + 1) (nI_add _ _) (by omega) (by omega) dL_law_660 (q := 661) rfl ?_
  refine v_aload_n h (i := 0) dL_law_661 (q := 662) rfl rfl rfl ?_
  refine v_iload h dL_law_662 (q := 664) rfl rfl ?_
  refine v_iconst h (v := nI 2) dL_law_664 (q := 665) rfl (by decide +kernel) ?_
  refine v_iadd h dL_law_665 (q := 666) rfl ?_
  refine v_sld h hX hbl hbA (t := 6 * j + 2) (nI_add _ _) (by omega) (by omega) dL_law_666 (q := 667) rfl ?_
  refine v_aload_n h (i := 3) dL_law_667 (q := 668) rfl rfl rfl ?_
  refine v_callSH h hM kL_crew (fun h9 => nomatch h9) tw482 rfl rfl (by simp [Value.category]) (by omega) (by omega) (by omega) rfl dL_law_668 (q := 671) rfl ?_ (fun E sz9 sk9 rf9 sg9 hx9 => nomatch (hP _ _ _ _ _ hx9).1)
  intro v1 sz1 sk1 rf1 sg1 hp1
  obtain ⟨e1, d8, w8, sg2, hd8, hPw, hM8, ht, ho, hI2⟩ := hP _ _ _ _ _ hp1
  cases e1
  obtain ⟨nn, B, par, hsk, -⟩ := id hI2
  have hm1 := hsk.2.2.1
  have hO1 := hsk.2.2.2.1
  refine v_istore h dL_law_671 (q := 673) rfl (Nat.le_of_ble_eq_true rfl) rfl ?_
  refine v_aload_n h (i := 2) dL_law_673 (q := 674) rfl rfl rfl ?_
  refine v_aload_n h (i := 0) dL_law_674 (q := 675) rfl rfl rfl ?_
  refine v_iload h dL_law_675 (q := 677) rfl rfl ?_
  refine v_iconst h (v := nI 1) dL_law_677 (q := 678) rfl (by decide +kernel) ?_
  refine v_iadd h dL_law_678 (q := 679) rfl ?_
  refine v_sld h hX hbl hbA (t := 6 * j + 1) (nI_add _ _) (by omega) (by omega) dL_law_679 (q := 680) rfl ?_
  refine v_aload_n h (i := 0) dL_law_680 (q := 681) rfl rfl rfl ?_
  refine v_iload h dL_law_681 (q := 683) rfl rfl ?_
  refine v_iconst h (v := nI 2) dL_law_683 (q := 684) rfl (by decide +kernel) ?_
  refine v_iadd h dL_law_684 (q := 685) rfl ?_
  refine v_sld h hX hbl hbA (t := 6 * j + 2) (nI_add _ _) (by omega) (by omega) dL_law_685 (q := 686) rfl ?_
  refine v_callV1 h hM8 kX8_crew tw988 tw990 hm1.1 (by decide) rfl rfl rfl (by simp [Value.category]) (by omega) (by omega) (by omega) rfl dL_law_686 (q := 689) rfl ?_
  refine v_istore h dL_law_689 (q := 691) rfl (Nat.le_of_ble_eq_true rfl) rfl ?_
  refine v_aload_n h (i := 2) dL_law_691 (q := 692) rfl rfl rfl ?_
  refine v_callV1 h (c_X8_thrown hfl hm1) kX8_thrown tw911 tw913 hm1.1 (by decide) rfl rfl rfl (by simp [Value.category]) (by omega) (by omega) (by omega) rfl dL_law_692 (q := 695) rfl ?_
  refine v_iload h dL_law_695 (q := 697) rfl rfl ?_
  refine v_icmp_eq h dL_law_697 (q := 700) rfl (tgt := 702) (by decide) (fun _ => ?_) (fun c9 => absurd ht c9)
  refine v_iload h dL_law_702 (q := 704) rfl rfl ?_
  refine v_if_ne h dL_law_704 (q := 707) rfl (tgt := 719) (by decide) (fun _ => ?_) (fun c9 => ?_)
  · refine v_goto h dL_law_719 (tgt := 2247) (by decide) ?_
    refine v_widen (c2 := cells + 18) (s2 := slots + 400) (by omega) (by omega) ?_
    exact kk _ _ _ _ _ _ hI2
  · have hk0 : k0 = 0 := (nI_eq (by omega) (by omega)).mp c9
    refine v_aload_n h (i := 3) dL_law_707 (q := 708) rfl rfl rfl ?_
    refine v_iconst h (v := nI 0) dL_law_708 (q := 709) rfl (by decide +kernel) ?_
    refine v_lald h hO1 rfl (by decide) (by decide) dL_law_709 (q := 710) rfl ?_
    rw [ho hk0]
    refine v_iload h dL_law_710 (q := 712) rfl rfl ?_
    refine v_i2l h dL_law_712 (q := 713) rfl ?_
    refine v_lcmp h dL_law_713 (q := 714) rfl ?_
    refine v_if_eq h dL_law_714 (q := 717) rfl (tgt := 719) (by decide) (fun _ => ?_) (fun c8 => absurd ((lg_cmp_eq _ _).mpr rfl) c8)
    refine v_goto h dL_law_719 (tgt := 2247) (by decide) ?_
    refine v_widen (c2 := cells + 18) (s2 := slots + 400) (by omega) (by omega) ?_
    exact kk _ _ _ _ _ _ hI2
set_option maxHeartbeats 4000000 in
set_option maxRecDepth 100000 in
theorem lw_case_7 {F : pb_F} {d k n cells slots sz b N j X : Nat} {sk : pb_Sk} {rf : pb_Rf} {sg : pb_Sg} {xs : Nat → Int32} {v5 v6 : Option Value} (h : pb_Fx F mL_law d k n) (hfl : (pb_l F).stackTraces = false) (hX : va_X b N xs (pb_s F) (pb_s F).heap) (hbl : b < (pb_s F).heap.size) (hbA : ¬ pb_own (pb_g F) b) (hN : N ≤ 3072) (hj : 6 * j + 6 ≤ N) (hd : 30 ≤ d) (hc : cells + 18 ≤ k) (hs : slots + 400 ≤ n) (hI : pq_INV X sz sk rf sg) (kk : ∀ sz' sk' rf' sg' v5' v6', pq_INV X sz' sk' rf' sg' → pv F (cells + 18) (slots + 400) sz' sk' rf' sg' 2247 [some (.ref b), some (.ref X), some (.ref (X + 45)), some (.ref (X + 70)), some (.int (nI (6 * j))), v5', v6'] []) : pv F cells slots sz sk rf sg 722 [some (.ref b), some (.ref X), some (.ref (X + 45)), some (.ref (X + 70)), some (.int (nI (6 * j))), v5, v6] [] := by
  obtain ⟨k0, kc, nc, post, hk3, hkc, hnc, hM, hP⟩ := pq_st_needs hfl hI (xs (6 * j + 1)) (xs (6 * j + 2))
  refine v_aload_n h (i := 1) dL_law_722 (q := 723) rfl rfl rfl ?_
  refine v_aload_n h (i := 0) dL_law_723 (q := 724) rfl rfl rfl ?_
  refine v_iload h dL_law_724 (q := 726) rfl rfl ?_
  refine v_iconst h (v := nI 1) dL_law_726 (q := 727) rfl (by decide +kernel) ?_
  refine v_iadd h dL_law_727 (q := 728) rfl ?_
  refine v_sld h hX hbl hbA (t := 6 * j + 1) (nI_add _ _) (by omega) (by omega) dL_law_728 (q := 729) rfl ?_
  refine v_aload_n h (i := 0) dL_law_729 (q := 730) rfl rfl rfl ?_
  refine v_iload h dL_law_730 (q := 732) rfl rfl ?_
  refine v_iconst h (v := nI 2) dL_law_732 (q := 733) rfl (by decide +kernel) ?_
  refine v_iadd h dL_law_733 (q := 734) rfl ?_
  refine v_sld h hX hbl hbA (t := 6 * j + 2) (nI_add _ _) (by omega) (by omega) dL_law_734 (q := 735) rfl ?_
  refine v_aload_n h (i := 3) dL_law_735 (q := 736) rfl rfl rfl ?_
  refine v_callSH h hM kL_needs (fun h9 => nomatch h9) tw489 rfl rfl (by simp [Value.category]) (by omega) (by omega) (by omega) rfl dL_law_736 (q := 739) rfl ?_ (fun E sz9 sk9 rf9 sg9 hx9 => nomatch (hP _ _ _ _ _ hx9).1)
  intro v1 sz1 sk1 rf1 sg1 hp1
  obtain ⟨e1, d8, w8, sg2, hd8, hPw, hM8, ht, ho, hI2⟩ := hP _ _ _ _ _ hp1
  cases e1
  obtain ⟨nn, B, par, hsk, -⟩ := id hI2
  have hm1 := hsk.2.2.1
  have hO1 := hsk.2.2.2.1
  refine v_istore h dL_law_739 (q := 741) rfl (Nat.le_of_ble_eq_true rfl) rfl ?_
  refine v_aload_n h (i := 2) dL_law_741 (q := 742) rfl rfl rfl ?_
  refine v_aload_n h (i := 0) dL_law_742 (q := 743) rfl rfl rfl ?_
  refine v_iload h dL_law_743 (q := 745) rfl rfl ?_
  refine v_iconst h (v := nI 1) dL_law_745 (q := 746) rfl (by decide +kernel) ?_
  refine v_iadd h dL_law_746 (q := 747) rfl ?_
  refine v_sld h hX hbl hbA (t := 6 * j + 1) (nI_add _ _) (by omega) (by omega) dL_law_747 (q := 748) rfl ?_
  refine v_aload_n h (i := 0) dL_law_748 (q := 749) rfl rfl rfl ?_
  refine v_iload h dL_law_749 (q := 751) rfl rfl ?_
  refine v_iconst h (v := nI 2) dL_law_751 (q := 752) rfl (by decide +kernel) ?_
  refine v_iadd h dL_law_752 (q := 753) rfl ?_
  refine v_sld h hX hbl hbA (t := 6 * j + 2) (nI_add _ _) (by omega) (by omega) dL_law_753 (q := 754) rfl ?_
  refine v_callV1 h hM8 kX8_needs tw992 tw994 hm1.1 (by decide) rfl rfl rfl (by simp [Value.category]) (by omega) (by omega) (by omega) rfl dL_law_754 (q := 757) rfl ?_
  refine v_istore h dL_law_757 (q := 759) rfl (Nat.le_of_ble_eq_true rfl) rfl ?_
  refine v_aload_n h (i := 2) dL_law_759 (q := 760) rfl rfl rfl ?_
  refine v_callV1 h (c_X8_thrown hfl hm1) kX8_thrown tw911 tw913 hm1.1 (by decide) rfl rfl rfl (by simp [Value.category]) (by omega) (by omega) (by omega) rfl dL_law_760 (q := 763) rfl ?_
  refine v_iload h dL_law_763 (q := 765) rfl rfl ?_
  refine v_icmp_eq h dL_law_765 (q := 768) rfl (tgt := 770) (by decide) (fun _ => ?_) (fun c9 => absurd ht c9)
  refine v_iload h dL_law_770 (q := 772) rfl rfl ?_
  refine v_if_ne h dL_law_772 (q := 775) rfl (tgt := 787) (by decide) (fun _ => ?_) (fun c9 => ?_)
  · refine v_goto h dL_law_787 (tgt := 2247) (by decide) ?_
    refine v_widen (c2 := cells + 18) (s2 := slots + 400) (by omega) (by omega) ?_
    exact kk _ _ _ _ _ _ hI2
  · have hk0 : k0 = 0 := (nI_eq (by omega) (by omega)).mp c9
    refine v_aload_n h (i := 3) dL_law_775 (q := 776) rfl rfl rfl ?_
    refine v_iconst h (v := nI 0) dL_law_776 (q := 777) rfl (by decide +kernel) ?_
    refine v_lald h hO1 rfl (by decide) (by decide) dL_law_777 (q := 778) rfl ?_
    rw [ho hk0]
    refine v_iload h dL_law_778 (q := 780) rfl rfl ?_
    refine v_i2l h dL_law_780 (q := 781) rfl ?_
    refine v_lcmp h dL_law_781 (q := 782) rfl ?_
    refine v_if_eq h dL_law_782 (q := 785) rfl (tgt := 787) (by decide) (fun _ => ?_) (fun c8 => absurd ((lg_cmp_eq _ _).mpr rfl) c8)
    refine v_goto h dL_law_787 (tgt := 2247) (by decide) ?_
    refine v_widen (c2 := cells + 18) (s2 := slots + 400) (by omega) (by omega) ?_
    exact kk _ _ _ _ _ _ hI2
