set_option maxHeartbeats 4000000 in
set_option maxRecDepth 100000 in
theorem lw_case_20 {F : pb_F} {d k n cells slots sz b N j X : Nat} {sk : pb_Sk} {rf : pb_Rf} {sg : pb_Sg} {xs : Nat → Int32} {v5 v6 : Option Value} (h : pb_Fx F mL_law d k n) (hfl : (pb_l F).stackTraces = false) (hX : va_X b N xs (pb_s F) (pb_s F).heap) (hbl : b < (pb_s F).heap.size) (hbA : ¬ pb_own (pb_g F) b) (hN : N ≤ 3072) (hj : 6 * j + 6 ≤ N) (hd : 30 ≤ d) (hc : cells + 18 ≤ k) (hs : slots + 400 ≤ n) (hI : pq_INV X sz sk rf sg) (kk : ∀ sz' sk' rf' sg' v5' v6', pq_INV X sz' sk' rf' sg' → pv F (cells + 18) (slots + 400) sz' sk' rf' sg' 2247 [some (.ref b), some (.ref X), some (.ref (X + 45)), some (.ref (X + 70)), some (.int (nI (6 * j))), v5', v6'] []) : pv F cells slots sz sk rf sg 1523 [some (.ref b), some (.ref X), some (.ref (X + 45)), some (.ref (X + 70)), some (.int (nI (6 * j))), v5, v6] [] := by
  obtain ⟨k0, kc, nc, post, hk3, hkc, hnc, hM, hP⟩ := pq_st_lend hfl hI (xs (6 * j + 1)) (xs (6 * j + 2)) (xs (6 * j + 3)) (xs (6 * j + 4))
  refine v_aload_n h (i := 1) dL_law_1523 (q := 1524) rfl rfl rfl ?_
  refine v_aload_n h (i := 0) dL_law_1524 (q := 1525) rfl rfl rfl ?_
  refine v_iload h dL_law_1525 (q := 1527) rfl rfl ?_
  refine v_iconst h (v := nI 1) dL_law_1527 (q := 1528) rfl (by decide +kernel) ?_
  refine v_iadd h dL_law_1528 (q := 1529) rfl ?_
  refine v_sld h hX hbl hbA (t := 6 * j + 1) (nI_add _ _) (by omega) (by omega) dL_law_1529 (q := 1530) rfl ?_
  refine v_aload_n h (i := 0) dL_law_1530 (q := 1531) rfl rfl rfl ?_
  refine v_iload h dL_law_1531 (q := 1533) rfl rfl ?_
  refine v_iconst h (v := nI 2) dL_law_1533 (q := 1534) rfl (by decide +kernel) ?_
  refine v_iadd h dL_law_1534 (q := 1535) rfl ?_
  refine v_sld h hX hbl hbA (t := 6 * j + 2) (nI_add _ _) (by omega) (by omega) dL_law_1535 (q := 1536) rfl ?_
  refine v_aload_n h (i := 0) dL_law_1536 (q := 1537) rfl rfl rfl ?_
  refine v_iload h dL_law_1537 (q := 1539) rfl rfl ?_
  refine v_iconst h (v := nI 3) dL_law_1539 (q := 1540) rfl (by decide +kernel) ?_
  refine v_iadd h dL_law_1540 (q := 1541) rfl ?_
  refine v_sld h hX hbl hbA (t := 6 * j + 3) (nI_add _ _) (by omega) (by omega) dL_law_1541 (q := 1542) rfl ?_
  refine v_aload_n h (i := 0) dL_law_1542 (q := 1543) rfl rfl rfl ?_
  refine v_iload h dL_law_1543 (q := 1545) rfl rfl ?_
  refine v_iconst h (v := nI 4) dL_law_1545 (q := 1546) rfl (by decide +kernel) ?_
  refine v_iadd h dL_law_1546 (q := 1547) rfl ?_
  refine v_sld h hX hbl hbA (t := 6 * j + 4) (nI_add _ _) (by omega) (by omega) dL_law_1547 (q := 1548) rfl ?_
  refine v_aload_n h (i := 3) dL_law_1548 (q := 1549) rfl rfl rfl ?_
  refine v_callSH h hM kL_lend (fun h9 => nomatch h9) tw708 rfl rfl (by simp [Value.category]) (by omega) (by omega) (by omega) rfl dL_law_1549 (q := 1552) rfl ?_ (fun E sz9 sk9 rf9 sg9 hx9 => nomatch (hP _ _ _ _ _ hx9).1)
  intro v1 sz1 sk1 rf1 sg1 hp1
  obtain ⟨e1, d8, w8, sg2, hd8, hPw, hM8, ht, ho, hI2⟩ := hP _ _ _ _ _ hp1
  cases e1
  obtain ⟨nn, B, par, hsk, -⟩ := id hI2
  have hm1 := hsk.2.2.1
  have hO1 := hsk.2.2.2.1
  refine v_istore h dL_law_1552 (q := 1554) rfl (Nat.le_of_ble_eq_true rfl) rfl ?_
  refine v_aload_n h (i := 2) dL_law_1554 (q := 1555) rfl rfl rfl ?_
  refine v_aload_n h (i := 0) dL_law_1555 (q := 1556) rfl rfl rfl ?_
  refine v_iload h dL_law_1556 (q := 1558) rfl rfl ?_
  refine v_iconst h (v := nI 1) dL_law_1558 (q := 1559) rfl (by decide +kernel) ?_
  refine v_iadd h dL_law_1559 (q := 1560) rfl ?_
  refine v_sld h hX hbl hbA (t := 6 * j + 1) (nI_add _ _) (by omega) (by omega) dL_law_1560 (q := 1561) rfl ?_
  refine v_aload_n h (i := 0) dL_law_1561 (q := 1562) rfl rfl rfl ?_
  refine v_iload h dL_law_1562 (q := 1564) rfl rfl ?_
  refine v_iconst h (v := nI 2) dL_law_1564 (q := 1565) rfl (by decide +kernel) ?_
  refine v_iadd h dL_law_1565 (q := 1566) rfl ?_
  refine v_sld h hX hbl hbA (t := 6 * j + 2) (nI_add _ _) (by omega) (by omega) dL_law_1566 (q := 1567) rfl ?_
  refine v_aload_n h (i := 0) dL_law_1567 (q := 1568) rfl rfl rfl ?_
  refine v_iload h dL_law_1568 (q := 1570) rfl rfl ?_
  refine v_iconst h (v := nI 3) dL_law_1570 (q := 1571) rfl (by decide +kernel) ?_
  refine v_iadd h dL_law_1571 (q := 1572) rfl ?_
  refine v_sld h hX hbl hbA (t := 6 * j + 3) (nI_add _ _) (by omega) (by omega) dL_law_1572 (q := 1573) rfl ?_
  refine v_aload_n h (i := 0) dL_law_1573 (q := 1574) rfl rfl rfl ?_
  refine v_iload h dL_law_1574 (q := 1576) rfl rfl ?_
  refine v_iconst h (v := nI 4) dL_law_1576 (q := 1577) rfl (by decide +kernel) ?_
  refine v_iadd h dL_law_1577 (q := 1578) rfl ?_
  refine v_sld h hX hbl hbA (t := 6 * j + 4) (nI_add _ _) (by omega) (by omega) dL_law_1578 (q := 1579) rfl ?_
  refine v_callV1 h hM8 kX8_lend tw1136 tw1138 hm1.1 (by decide) rfl rfl rfl (by simp [Value.category]) (by omega) (by omega) (by omega) rfl dL_law_1579 (q := 1582) rfl ?_
  refine v_istore h dL_law_1582 (q := 1584) rfl (Nat.le_of_ble_eq_true rfl) rfl ?_
  refine v_aload_n h (i := 2) dL_law_1584 (q := 1585) rfl rfl rfl ?_
  refine v_callV1 h (c_X8_thrown hfl hm1) kX8_thrown tw911 tw913 hm1.1 (by decide) rfl rfl rfl (by simp [Value.category]) (by omega) (by omega) (by omega) rfl dL_law_1585 (q := 1588) rfl ?_
  refine v_iload h dL_law_1588 (q := 1590) rfl rfl ?_
  refine v_icmp_eq h dL_law_1590 (q := 1593) rfl (tgt := 1595) (by decide) (fun _ => ?_) (fun c9 => absurd ht c9)
  refine v_iload h dL_law_1595 (q := 1597) rfl rfl ?_
  refine v_if_ne h dL_law_1597 (q := 1600) rfl (tgt := 1612) (by decide) (fun _ => ?_) (fun c9 => ?_)
  · refine v_goto h dL_law_1612 (tgt := 2247) (by decide) ?_
    refine v_widen (c2 := cells + 18) (s2 := slots + 400) (by omega) (by omega) ?_
    exact kk _ _ _ _ _ _ hI2
  · have hk0 : k0 = 0 := (nI_eq (by omega) (by omega)).mp c9
    refine v_aload_n h (i := 3) dL_law_1600 (q := 1601) rfl rfl rfl ?_
    refine v_iconst h (v := nI 0) dL_law_1601 (q := 1602) rfl (by decide +kernel) ?_
    refine v_lald h hO1 rfl (by decide) (by decide) dL_law_1602 (q := 1603) rfl ?_
    rw [ho hk0]
    refine v_iload h dL_law_1603 (q := 1605) rfl rfl ?_
    refine v_i2l h dL_law_1605 (q := 1606) rfl ?_
    refine v_lcmp h dL_law_1606 (q := 1607) rfl ?_
    refine v_if_eq h dL_law_1607 (q := 1610) rfl (tgt := 1612) (by decide) (fun _ => ?_) (fun c8 => absurd ((lg_cmp_eq _ _).mpr rfl) c8)
    refine v_goto h dL_law_1612 (tgt := 2247) (by decide) ?_
    refine v_widen (c2 := cells + 18) (s2 := slots + 400) (by omega) (by omega) ?_
    exact kk _ _ _ _ _ _ hI2
set_option maxHeartbeats 4000000 in
set_option maxRecDepth 100000 in
theorem lw_case_21 {F : pb_F} {d k n cells slots sz b N j X : Nat} {sk : pb_Sk} {rf : pb_Rf} {sg : pb_Sg} {xs : Nat → Int32} {v5 v6 : Option Value} (h : pb_Fx F mL_law d k n) (hfl : (pb_l F).stackTraces = false) (hX : va_X b N xs (pb_s F) (pb_s F).heap) (hbl : b < (pb_s F).heap.size) (hbA : ¬ pb_own (pb_g F) b) (hN : N ≤ 3072) (hj : 6 * j + 6 ≤ N) (hd : 30 ≤ d) (hc : cells + 18 ≤ k) (hs : slots + 400 ≤ n) (hI : pq_INV X sz sk rf sg) (kk : ∀ sz' sk' rf' sg' v5' v6', pq_INV X sz' sk' rf' sg' → pv F (cells + 18) (slots + 400) sz' sk' rf' sg' 2247 [some (.ref b), some (.ref X), some (.ref (X + 45)), some (.ref (X + 70)), some (.int (nI (6 * j))), v5', v6'] []) : pv F cells slots sz sk rf sg 1615 [some (.ref b), some (.ref X), some (.ref (X + 45)), some (.ref (X + 70)), some (.int (nI (6 * j))), v5, v6] [] := by
  obtain ⟨k0, kc, nc, post, hk3, hkc, hnc, hM, hP⟩ := pq_st_holder hfl hI (xs (6 * j + 1)) (xs (6 * j + 2))
  refine v_aload_n h (i := 1) dL_law_1615 (q := 1616) rfl rfl rfl ?_
  refine v_aload_n h (i := 0) dL_law_1616 (q := 1617) rfl rfl rfl ?_
  refine v_iload h dL_law_1617 (q := 1619) rfl rfl ?_
  refine v_iconst h (v := nI 1) dL_law_1619 (q := 1620) rfl (by decide +kernel) ?_
  refine v_iadd h dL_law_1620 (q := 1621) rfl ?_
  refine v_sld h hX hbl hbA (t := 6 * j + 1) (nI_add _ _) (by omega) (by omega) dL_law_1621 (q := 1622) rfl ?_
  refine v_aload_n h (i := 0) dL_law_1622 (q := 1623) rfl rfl rfl ?_
  refine v_iload h dL_law_1623 (q := 1625) rfl rfl ?_
  refine v_iconst h (v := nI 2) dL_law_1625 (q := 1626) rfl (by decide +kernel) ?_
  refine v_iadd h dL_law_1626 (q := 1627) rfl ?_
  refine v_sld h hX hbl hbA (t := 6 * j + 2) (nI_add _ _) (by omega) (by omega) dL_law_1627 (q := 1628) rfl ?_
  refine v_aload_n h (i := 3) dL_law_1628 (q := 1629) rfl rfl rfl ?_
  refine v_callSH h hM kL_holder (fun h9 => nomatch h9) tw720 rfl rfl (by simp [Value.category]) (by omega) (by omega) (by omega) rfl dL_law_1629 (q := 1632) rfl ?_ (fun E sz9 sk9 rf9 sg9 hx9 => nomatch (hP _ _ _ _ _ hx9).1)
  intro v1 sz1 sk1 rf1 sg1 hp1
  obtain ⟨e1, d8, w8, sg2, hd8, hPw, hM8, ht, ho, hI2⟩ := hP _ _ _ _ _ hp1
  cases e1
  obtain ⟨nn, B, par, hsk, -⟩ := id hI2
  have hm1 := hsk.2.2.1
  have hO1 := hsk.2.2.2.1
  refine v_istore h dL_law_1632 (q := 1634) rfl (Nat.le_of_ble_eq_true rfl) rfl ?_
  refine v_aload_n h (i := 2) dL_law_1634 (q := 1635) rfl rfl rfl ?_
  refine v_aload_n h (i := 0) dL_law_1635 (q := 1636) rfl rfl rfl ?_
  refine v_iload h dL_law_1636 (q := 1638) rfl rfl ?_
  refine v_iconst h (v := nI 1) dL_law_1638 (q := 1639) rfl (by decide +kernel) ?_
  refine v_iadd h dL_law_1639 (q := 1640) rfl ?_
  refine v_sld h hX hbl hbA (t := 6 * j + 1) (nI_add _ _) (by omega) (by omega) dL_law_1640 (q := 1641) rfl ?_
  refine v_aload_n h (i := 0) dL_law_1641 (q := 1642) rfl rfl rfl ?_
  refine v_iload h dL_law_1642 (q := 1644) rfl rfl ?_
  refine v_iconst h (v := nI 2) dL_law_1644 (q := 1645) rfl (by decide +kernel) ?_
  refine v_iadd h dL_law_1645 (q := 1646) rfl ?_
  refine v_sld h hX hbl hbA (t := 6 * j + 2) (nI_add _ _) (by omega) (by omega) dL_law_1646 (q := 1647) rfl ?_
  refine v_callV1 h hM8 kX8_holder tw1143 tw1145 hm1.1 (by decide) rfl rfl rfl (by simp [Value.category]) (by omega) (by omega) (by omega) rfl dL_law_1647 (q := 1650) rfl ?_
  refine v_istore h dL_law_1650 (q := 1652) rfl (Nat.le_of_ble_eq_true rfl) rfl ?_
  refine v_aload_n h (i := 2) dL_law_1652 (q := 1653) rfl rfl rfl ?_
  refine v_callV1 h (c_X8_thrown hfl hm1) kX8_thrown tw911 tw913 hm1.1 (by decide) rfl rfl rfl (by simp [Value.category]) (by omega) (by omega) (by omega) rfl dL_law_1653 (q := 1656) rfl ?_
  refine v_iload h dL_law_1656 (q := 1658) rfl rfl ?_
  refine v_icmp_eq h dL_law_1658 (q := 1661) rfl (tgt := 1663) (by decide) (fun _ => ?_) (fun c9 => absurd ht c9)
  refine v_iload h dL_law_1663 (q := 1665) rfl rfl ?_
  refine v_if_ne h dL_law_1665 (q := 1668) rfl (tgt := 1680) (by decide) (fun _ => ?_) (fun c9 => ?_)
  · refine v_goto h dL_law_1680 (tgt := 2247) (by decide) ?_
    refine v_widen (c2 := cells + 18) (s2 := slots + 400) (by omega) (by omega) ?_
    exact kk _ _ _ _ _ _ hI2
  · have hk0 : k0 = 0 := (nI_eq (by omega) (by omega)).mp c9
    refine v_aload_n h (i := 3) dL_law_1668 (q := 1669) rfl rfl rfl ?_
    refine v_iconst h (v := nI 0) dL_law_1669 (q := 1670) rfl (by decide +kernel) ?_
    refine v_lald h hO1 rfl (by decide) (by decide) dL_law_1670 (q := 1671) rfl ?_
    rw [ho hk0]
    refine v_iload h dL_law_1671 (q := 1673) rfl rfl ?_
    refine v_i2l h dL_law_1673 (q := 1674) rfl ?_
    refine v_lcmp h dL_law_1674 (q := 1675) rfl ?_
    refine v_if_eq h dL_law_1675 (q := 1678) rfl (tgt := 1680) (by decide) (fun _ => ?_) (fun c8 => absurd ((lg_cmp_eq _ _).mpr rfl) c8)
    refine v_goto h dL_law_1680 (tgt := 2247) (by decide) ?_
    refine v_widen (c2 := cells + 18) (s2 := slots + 400) (by omega) (by omega) ?_
    exact kk _ _ _ _ _ _ hI2
set_option maxHeartbeats 4000000 in
set_option maxRecDepth 100000 in
theorem lw_case_22 {F : pb_F} {d k n cells slots sz b N j X : Nat} {sk : pb_Sk} {rf : pb_Rf} {sg : pb_Sg} {xs : Nat → Int32} {v5 v6 : Option Value} (h : pb_Fx F mL_law d k n) (hfl : (pb_l F).stackTraces = false) (hX : va_X b N xs (pb_s F) (pb_s F).heap) (hbl : b < (pb_s F).heap.size) (hbA : ¬ pb_own (pb_g F) b) (hN : N ≤ 3072) (hj : 6 * j + 6 ≤ N) (hd : 30 ≤ d) (hc : cells + 18 ≤ k) (hs : slots + 400 ≤ n) (hI : pq_INV X sz sk rf sg) (kk : ∀ sz' sk' rf' sg' v5' v6', pq_INV X sz' sk' rf' sg' → pv F (cells + 18) (slots + 400) sz' sk' rf' sg' 2247 [some (.ref b), some (.ref X), some (.ref (X + 45)), some (.ref (X + 70)), some (.int (nI (6 * j))), v5', v6'] []) : pv F cells slots sz sk rf sg 1683 [some (.ref b), some (.ref X), some (.ref (X + 45)), some (.ref (X + 70)), some (.int (nI (6 * j))), v5, v6] [] := by
  obtain ⟨k0, kc, nc, post, hk3, hkc, hnc, hM, hP⟩ := pq_st_tail hfl hI (xs (6 * j + 1)) (xs (6 * j + 2))
  refine v_aload_n h (i := 1) dL_law_1683 (q := 1684) rfl rfl rfl ?_
  refine v_aload_n h (i := 0) dL_law_1684 (q := 1685) rfl rfl rfl ?_
  refine v_iload h dL_law_1685 (q := 1687) rfl rfl ?_
  refine v_iconst h (v := nI 1) dL_law_1687 (q := 1688) rfl (by decide +kernel) ?_
  refine v_iadd h dL_law_1688 (q := 1689) rfl ?_
  refine v_sld h hX hbl hbA (t := 6 * j + 1) (nI_add _ _) (by omega) (by omega) dL_law_1689 (q := 1690) rfl ?_
  refine v_aload_n h (i := 0) dL_law_1690 (q := 1691) rfl rfl rfl ?_
  refine v_iload h dL_law_1691 (q := 1693) rfl rfl ?_
  refine v_iconst h (v := nI 2) dL_law_1693 (q := 1694) rfl (by decide +kernel) ?_
  refine v_iadd h dL_law_1694 (q := 1695) rfl ?_
  refine v_sld h hX hbl hbA (t := 6 * j + 2) (nI_add _ _) (by omega) (by omega) dL_law_1695 (q := 1696) rfl ?_
  refine v_aload_n h (i := 3) dL_law_1696 (q := 1697) rfl rfl rfl ?_
  refine v_callSH h hM kL_tail (fun h9 => nomatch h9) tw728 rfl rfl (by simp [Value.category]) (by omega) (by omega) (by omega) rfl dL_law_1697 (q := 1700) rfl ?_ (fun E sz9 sk9 rf9 sg9 hx9 => nomatch (hP _ _ _ _ _ hx9).1)
  intro v1 sz1 sk1 rf1 sg1 hp1
  obtain ⟨e1, d8, w8, sg2, hd8, hPw, hM8, ht, ho, hI2⟩ := hP _ _ _ _ _ hp1
  cases e1
  obtain ⟨nn, B, par, hsk, -⟩ := id hI2
  have hm1 := hsk.2.2.1
  have hO1 := hsk.2.2.2.1
  refine v_istore h dL_law_1700 (q := 1702) rfl (Nat.le_of_ble_eq_true rfl) rfl ?_
  refine v_aload_n h (i := 2) dL_law_1702 (q := 1703) rfl rfl rfl ?_
  refine v_aload_n h (i := 0) dL_law_1703 (q := 1704) rfl rfl rfl ?_
  refine v_iload h dL_law_1704 (q := 1706) rfl rfl ?_
  refine v_iconst h (v := nI 1) dL_law_1706 (q := 1707) rfl (by decide +kernel) ?_
  refine v_iadd h dL_law_1707 (q := 1708) rfl ?_
  refine v_sld h hX hbl hbA (t := 6 * j + 1) (nI_add _ _) (by omega) (by omega) dL_law_1708 (q := 1709) rfl ?_
  refine v_aload_n h (i := 0) dL_law_1709 (q := 1710) rfl rfl rfl ?_
  refine v_iload h dL_law_1710 (q := 1712) rfl rfl ?_
  refine v_iconst h (v := nI 2) dL_law_1712 (q := 1713) rfl (by decide +kernel) ?_
  refine v_iadd h dL_law_1713 (q := 1714) rfl ?_
  refine v_sld h hX hbl hbA (t := 6 * j + 2) (nI_add _ _) (by omega) (by omega) dL_law_1714 (q := 1715) rfl ?_
  refine v_callV1 h hM8 kX8_tail tw1147 tw1149 hm1.1 (by decide) rfl rfl rfl (by simp [Value.category]) (by omega) (by omega) (by omega) rfl dL_law_1715 (q := 1718) rfl ?_
  refine v_istore h dL_law_1718 (q := 1720) rfl (Nat.le_of_ble_eq_true rfl) rfl ?_
  refine v_aload_n h (i := 2) dL_law_1720 (q := 1721) rfl rfl rfl ?_
  refine v_callV1 h (c_X8_thrown hfl hm1) kX8_thrown tw911 tw913 hm1.1 (by decide) rfl rfl rfl (by simp [Value.category]) (by omega) (by omega) (by omega) rfl dL_law_1721 (q := 1724) rfl ?_
  refine v_iload h dL_law_1724 (q := 1726) rfl rfl ?_
  refine v_icmp_eq h dL_law_1726 (q := 1729) rfl (tgt := 1731) (by decide) (fun _ => ?_) (fun c9 => absurd ht c9)
  refine v_iload h dL_law_1731 (q := 1733) rfl rfl ?_
  refine v_if_ne h dL_law_1733 (q := 1736) rfl (tgt := 1748) (by decide) (fun _ => ?_) (fun c9 => ?_)
  · refine v_goto h dL_law_1748 (tgt := 2247) (by decide) ?_
    refine v_widen (c2 := cells + 18) (s2 := slots + 400) (by omega) (by omega) ?_
    exact kk _ _ _ _ _ _ hI2
  · have hk0 : k0 = 0 := (nI_eq (by omega) (by omega)).mp c9
    refine v_aload_n h (i := 3) dL_law_1736 (q := 1737) rfl rfl rfl ?_
    refine v_iconst h (v := nI 0) dL_law_1737 (q := 1738) rfl (by decide +kernel) ?_
    refine v_lald h hO1 rfl (by decide) (by decide) dL_law_1738 (q := 1739) rfl ?_
    rw [ho hk0]
    refine v_iload h dL_law_1739 (q := 1741) rfl rfl ?_
    refine v_i2l h dL_law_1741 (q := 1742) rfl ?_
    refine v_lcmp h dL_law_1742 (q := 1743) rfl ?_
    refine v_if_eq h dL_law_1743 (q := 1746) rfl (tgt := 1748) (by decide) (fun _ => ?_) (fun c8 => absurd ((lg_cmp_eq _ _).mpr rfl) c8)
    refine v_goto h dL_law_1748 (tgt := 2247) (by decide) ?_
    refine v_widen (c2 := cells + 18) (s2 := slots + 400) (by omega) (by omega) ?_
    exact kk _ _ _ _ _ _ hI2
set_option maxHeartbeats 4000000 in
set_option maxRecDepth 100000 in
theorem lw_case_23 {F : pb_F} {d k n cells slots sz b N j X : Nat} {sk : pb_Sk} {rf : pb_Rf} {sg : pb_Sg} {xs : Nat → Int32} {v5 v6 : Option Value} (h : pb_Fx F mL_law d k n) (hfl : (pb_l F).stackTraces = false) (hX : va_X b N xs (pb_s F) (pb_s F).heap) (hbl : b < (pb_s F).heap.size) (hbA : ¬ pb_own (pb_g F) b) (hN : N ≤ 3072) (hj : 6 * j + 6 ≤ N) (hd : 30 ≤ d) (hc : cells + 18 ≤ k) (hs : slots + 400 ≤ n) (hI : pq_INV X sz sk rf sg) (kk : ∀ sz' sk' rf' sg' v5' v6', pq_INV X sz' sk' rf' sg' → pv F (cells + 18) (slots + 400) sz' sk' rf' sg' 2247 [some (.ref b), some (.ref X), some (.ref (X + 45)), some (.ref (X + 70)), some (.int (nI (6 * j))), v5', v6'] []) : pv F cells slots sz sk rf sg 1751 [some (.ref b), some (.ref X), some (.ref (X + 45)), some (.ref (X + 70)), some (.int (nI (6 * j))), v5, v6] [] := by
  obtain ⟨k0, kc, nc, post, hk3, hkc, hnc, hM, hP⟩ := pq_st_slack hfl hI (xs (6 * j + 1)) (xs (6 * j + 2))
  refine v_aload_n h (i := 1) dL_law_1751 (q := 1752) rfl rfl rfl ?_
  refine v_aload_n h (i := 0) dL_law_1752 (q := 1753) rfl rfl rfl ?_
  refine v_iload h dL_law_1753 (q := 1755) rfl rfl ?_
  refine v_iconst h (v := nI 1) dL_law_1755 (q := 1756) rfl (by decide +kernel) ?_
  refine v_iadd h dL_law_1756 (q := 1757) rfl ?_
  refine v_sld h hX hbl hbA (t := 6 * j + 1) (nI_add _ _) (by omega) (by omega) dL_law_1757 (q := 1758) rfl ?_
  refine v_aload_n h (i := 0) dL_law_1758 (q := 1759) rfl rfl rfl ?_
  refine v_iload h dL_law_1759 (q := 1761) rfl rfl ?_
  refine v_iconst h (v := nI 2) dL_law_1761 (q := 1762) rfl (by decide +kernel) ?_
  refine v_iadd h dL_law_1762 (q := 1763) rfl ?_
  refine v_sld h hX hbl hbA (t := 6 * j + 2) (nI_add _ _) (by omega) (by omega) dL_law_1763 (q := 1764) rfl ?_
  refine v_aload_n h (i := 3) dL_law_1764 (q := 1765) rfl rfl rfl ?_
  refine v_callSH h hM kL_slack (fun h9 => nomatch h9) tw735 rfl rfl (by simp [Value.category]) (by omega) (by omega) (by omega) rfl dL_law_1765 (q := 1768) rfl ?_ (fun E sz9 sk9 rf9 sg9 hx9 => nomatch (hP _ _ _ _ _ hx9).1)
  intro v1 sz1 sk1 rf1 sg1 hp1
  obtain ⟨e1, d8, w8, sg2, hd8, hPw, hM8, ht, ho, hI2⟩ := hP _ _ _ _ _ hp1
  cases e1
  obtain ⟨nn, B, par, hsk, -⟩ := id hI2
  have hm1 := hsk.2.2.1
  have hO1 := hsk.2.2.2.1
  refine v_istore h dL_law_1768 (q := 1770) rfl (Nat.le_of_ble_eq_true rfl) rfl ?_
  refine v_aload_n h (i := 2) dL_law_1770 (q := 1771) rfl rfl rfl ?_
  refine v_aload_n h (i := 0) dL_law_1771 (q := 1772) rfl rfl rfl ?_
  refine v_iload h dL_law_1772 (q := 1774) rfl rfl ?_
  refine v_iconst h (v := nI 1) dL_law_1774 (q := 1775) rfl (by decide +kernel) ?_
  refine v_iadd h dL_law_1775 (q := 1776) rfl ?_
  refine v_sld h hX hbl hbA (t := 6 * j + 1) (nI_add _ _) (by omega) (by omega) dL_law_1776 (q := 1777) rfl ?_
  refine v_aload_n h (i := 0) dL_law_1777 (q := 1778) rfl rfl rfl ?_
  refine v_iload h dL_law_1778 (q := 1780) rfl rfl ?_
  refine v_iconst h (v := nI 2) dL_law_1780 (q := 1781) rfl (by decide +kernel) ?_
  refine v_iadd h dL_law_1781 (q := 1782) rfl ?_
  refine v_sld h hX hbl hbA (t := 6 * j + 2) (nI_add _ _) (by omega) (by omega) dL_law_1782 (q := 1783) rfl ?_
  refine v_callV1 h hM8 kX8_slack tw1151 tw1153 hm1.1 (by decide) rfl rfl rfl (by simp [Value.category]) (by omega) (by omega) (by omega) rfl dL_law_1783 (q := 1786) rfl ?_
  refine v_istore h dL_law_1786 (q := 1788) rfl (Nat.le_of_ble_eq_true rfl) rfl ?_
  refine v_aload_n h (i := 2) dL_law_1788 (q := 1789) rfl rfl rfl ?_
  refine v_callV1 h (c_X8_thrown hfl hm1) kX8_thrown tw911 tw913 hm1.1 (by decide) rfl rfl rfl (by simp [Value.category]) (by omega) (by omega) (by omega) rfl dL_law_1789 (q := 1792) rfl ?_
  refine v_iload h dL_law_1792 (q := 1794) rfl rfl ?_
  refine v_icmp_eq h dL_law_1794 (q := 1797) rfl (tgt := 1799) (by decide) (fun _ => ?_) (fun c9 => absurd ht c9)
  refine v_iload h dL_law_1799 (q := 1801) rfl rfl ?_
  refine v_if_ne h dL_law_1801 (q := 1804) rfl (tgt := 1816) (by decide) (fun _ => ?_) (fun c9 => ?_)
  · refine v_goto h dL_law_1816 (tgt := 2247) (by decide) ?_
    refine v_widen (c2 := cells + 18) (s2 := slots + 400) (by omega) (by omega) ?_
    exact kk _ _ _ _ _ _ hI2
  · have hk0 : k0 = 0 := (nI_eq (by omega) (by omega)).mp c9
    refine v_aload_n h (i := 3) dL_law_1804 (q := 1805) rfl rfl rfl ?_
    refine v_iconst h (v := nI 0) dL_law_1805 (q := 1806) rfl (by decide +kernel) ?_
    refine v_lald h hO1 rfl (by decide) (by decide) dL_law_1806 (q := 1807) rfl ?_
    rw [ho hk0]
    refine v_iload h dL_law_1807 (q := 1809) rfl rfl ?_
    refine v_i2l h dL_law_1809 (q := 1810) rfl ?_
    refine v_lcmp h dL_law_1810 (q := 1811) rfl ?_
    refine v_if_eq h dL_law_1811 (q := 1814) rfl (tgt := 1816) (by decide) (fun _ => ?_) (fun c8 => absurd ((lg_cmp_eq _ _).mpr rfl) c8)
    refine v_goto h dL_law_1816 (tgt := 2247) (by decide) ?_
    refine v_widen (c2 := cells + 18) (s2 := slots + 400) (by omega) (by omega) ?_
    exact kk _ _ _ _ _ _ hI2
