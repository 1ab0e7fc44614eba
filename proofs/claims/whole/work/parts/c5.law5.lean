set_option maxRecDepth 20000 in
set_option maxHeartbeats 4000000 in
theorem lw_c32 {nm : String} {E : zE} {L : Nat} {xs : Nat → Int32} {Q : zQx} {k i n : Nat} {S : zM} {s : zST} (hE : zOKE E) (hX : zOKX E) (hl0 : ∀ l s c, Q.1 l s c → l.stackTraces = false) (hs : zScr E L xs) (h4 : L ≤ 4608) (hi : i + 9 ≤ L) (hn : n + 1 < 600) (hI : zLI n S s) (fin : ∀ (T : zM) (s' : zST), zLI (n + 1) T s' → zJx E 10 (24 * k) (614 * k) (mL_law nm) cL_law 1812 (zll i) [] T Q) : zJx E 10 (24 * (k + 1)) (614 * (k + 1)) (mL_law nm) cL_law 1501 (zll i) [] S Q := by
  obtain ⟨hC, hM, hW, hO⟩ := id hI
  have k1 := hC.1.1
  refine x_aload_n (pc := 1501) dL_law_1501 rfl ?_
  refine x_aload_nq (pc := 1502) dL_law_1502 rfl ?_
  refine x_iload (pc := 1503) dL_law_1503 rfl ?_
  refine x_iconst (pc := 1505) (v := 1) dL_law_1505 (by decide) ?_
  refine x_iadd (pc := 1506) dL_law_1506 ?_
  refine x_sld (pc := 1507) (j := i + 1) hs h4 dL_law_1507 (nI_p1 i) (by omega) ?_
  refine x_aload_nq (pc := 1508) dL_law_1508 rfl ?_
  refine x_iload (pc := 1509) dL_law_1509 rfl ?_
  refine x_iconst (pc := 1511) (v := 2) dL_law_1511 (by decide) ?_
  refine x_iadd (pc := 1512) dL_law_1512 ?_
  refine x_sld (pc := 1513) (j := i + 2) hs h4 dL_law_1513 (nI_p2 i) (by omega) ?_
  refine x_aload_nq (pc := 1514) dL_law_1514 rfl ?_
  refine x_iload (pc := 1515) dL_law_1515 rfl ?_
  refine x_iconst (pc := 1517) (v := 3) dL_law_1517 (by decide) ?_
  refine x_iadd (pc := 1518) dL_law_1518 ?_
  refine x_sld (pc := 1519) (j := i + 3) hs h4 dL_law_1519 (nI_p3 i) (by omega) ?_
  refine x_aload_nq (pc := 1520) dL_law_1520 rfl ?_
  refine x_iload (pc := 1521) dL_law_1521 rfl ?_
  refine x_iconst (pc := 1523) (v := 4) dL_law_1523 (by decide) ?_
  refine x_iadd (pc := 1524) dL_law_1524 ?_
  refine x_sld (pc := 1525) (j := i + 4) hs h4 dL_law_1525 (nI_p4 i) (by omega) ?_
  refine x_callV (pc := 1526) (t := 11) (mc2 := 24 * k) (ms2 := 614 * k) (p_turn hC hW (xs (i + 1)) (xs (i + 2)) (xs (i + 3)) (xs (i + 4))) dL_law_1526 l_L_159 mk_X11_turn mv_X11_turn (by decide) rfl k1 (by decide) rfl rfl (Nat.le_of_ble_eq_true rfl) (by omega) (by omega) (fun r T g1 => ?_)
  obtain ⟨rfl, hC1, hQ1⟩ := g1
  have hM1 := hI.m hQ1
  refine x_aload_n (pc := 1529) dL_law_1529 rfl ?_
  refine x_aload_nq (pc := 1530) dL_law_1530 rfl ?_
  refine x_iload (pc := 1531) dL_law_1531 rfl ?_
  refine x_iconst (pc := 1533) (v := 1) dL_law_1533 (by decide) ?_
  refine x_iadd (pc := 1534) dL_law_1534 ?_
  refine x_sld (pc := 1535) (j := i + 1) hs h4 dL_law_1535 (nI_p1 i) (by omega) ?_
  refine x_aload_nq (pc := 1536) dL_law_1536 rfl ?_
  refine x_iload (pc := 1537) dL_law_1537 rfl ?_
  refine x_iconst (pc := 1539) (v := 2) dL_law_1539 (by decide) ?_
  refine x_iadd (pc := 1540) dL_law_1540 ?_
  refine x_sld (pc := 1541) (j := i + 2) hs h4 dL_law_1541 (nI_p2 i) (by omega) ?_
  refine x_aload_nq (pc := 1542) dL_law_1542 rfl ?_
  refine x_iload (pc := 1543) dL_law_1543 rfl ?_
  refine x_iconst (pc := 1545) (v := 3) dL_law_1545 (by decide) ?_
  refine x_iadd (pc := 1546) dL_law_1546 ?_
  refine x_sld (pc := 1547) (j := i + 3) hs h4 dL_law_1547 (nI_p3 i) (by omega) ?_
  refine x_aload_nq (pc := 1548) dL_law_1548 rfl ?_
  refine x_iload (pc := 1549) dL_law_1549 rfl ?_
  refine x_iconst (pc := 1551) (v := 4) dL_law_1551 (by decide) ?_
  refine x_iadd (pc := 1552) dL_law_1552 ?_
  refine x_sld (pc := 1553) (j := i + 4) hs h4 dL_law_1553 (nI_p4 i) (by omega) ?_
  refine x_callV (pc := 1554) (t := 12) (m_turn hM1 hW (xs (i + 1)) (xs (i + 2)) (xs (i + 3)) (xs (i + 4))) dL_law_1554 l_L_163 mk_X12_turn mv_X12_turn (by decide) rfl hM1.1.1 (by decide) rfl rfl (Nat.le_of_ble_eq_true rfl) (Nat.le_refl _) (Nat.le_refl _) (fun r T2 g2 => ?_)
  obtain ⟨rfl, hM2, hF2⟩ := g2
  refine x_icmp_eq (pc := 1557) (tgt := 1812) dL_law_1557 (by decide) (fun _ => ?_) (fun g => absurd rfl g)
  exact fin _ _ (hI.next hQ1 hC1 hF2 hM2 (w_turn hW hn (xs (i + 1)) (xs (i + 2)) (xs (i + 3)) (xs (i + 4))))
set_option maxRecDepth 20000 in
set_option maxHeartbeats 4000000 in
theorem lw_c33 {nm : String} {E : zE} {L : Nat} {xs : Nat → Int32} {Q : zQx} {k i n : Nat} {S : zM} {s : zST} (hE : zOKE E) (hX : zOKX E) (hl0 : ∀ l s c, Q.1 l s c → l.stackTraces = false) (hs : zScr E L xs) (h4 : L ≤ 4608) (hi : i + 9 ≤ L) (hn : n + 1 < 600) (hI : zLI n S s) (fin : ∀ (T : zM) (s' : zST), zLI (n + 1) T s' → zJx E 10 (24 * k) (614 * k) (mL_law nm) cL_law 1812 (zll i) [] T Q) : zJx E 10 (24 * (k + 1)) (614 * (k + 1)) (mL_law nm) cL_law 1562 (zll i) [] S Q := by
  obtain ⟨hC, hM, hW, hO⟩ := id hI
  have k1 := hC.1.1
  refine x_aload_n (pc := 1562) dL_law_1562 rfl ?_
  refine x_aload_nq (pc := 1563) dL_law_1563 rfl ?_
  refine x_iload (pc := 1564) dL_law_1564 rfl ?_
  refine x_iconst (pc := 1566) (v := 1) dL_law_1566 (by decide) ?_
  refine x_iadd (pc := 1567) dL_law_1567 ?_
  refine x_sld (pc := 1568) (j := i + 1) hs h4 dL_law_1568 (nI_p1 i) (by omega) ?_
  refine x_aload_nq (pc := 1569) dL_law_1569 rfl ?_
  refine x_iload (pc := 1570) dL_law_1570 rfl ?_
  refine x_iconst (pc := 1572) (v := 2) dL_law_1572 (by decide) ?_
  refine x_iadd (pc := 1573) dL_law_1573 ?_
  refine x_sld (pc := 1574) (j := i + 2) hs h4 dL_law_1574 (nI_p2 i) (by omega) ?_
  refine x_aload_nq (pc := 1575) dL_law_1575 rfl ?_
  refine x_iload (pc := 1576) dL_law_1576 rfl ?_
  refine x_iconst (pc := 1578) (v := 3) dL_law_1578 (by decide) ?_
  refine x_iadd (pc := 1579) dL_law_1579 ?_
  refine x_sld (pc := 1580) (j := i + 3) hs h4 dL_law_1580 (nI_p3 i) (by omega) ?_
  refine x_i2l (pc := 1581) dL_law_1581 ?_
  refine x_bipush (pc := 1582) (v := 32) dL_law_1582 (by decide) ?_
  refine x_lshl (pc := 1584) dL_law_1584 ?_
  refine x_aload_nq (pc := 1585) dL_law_1585 rfl ?_
  refine x_iload (pc := 1586) dL_law_1586 rfl ?_
  refine x_iconst (pc := 1588) (v := 4) dL_law_1588 (by decide) ?_
  refine x_iadd (pc := 1589) dL_law_1589 ?_
  refine x_sld (pc := 1590) (j := i + 4) hs h4 dL_law_1590 (nI_p4 i) (by omega) ?_
  refine x_i2l (pc := 1591) dL_law_1591 ?_
  refine x_ldcL (pc := 1592) dL_law_1592 kL_93 ?_
  refine x_land (pc := 1595) dL_law_1595 ?_
  refine x_lor (pc := 1596) dL_law_1596 ?_
  refine x_callV (pc := 1597) (t := 11) (mc2 := 24 * k) (ms2 := 614 * k) (p_sieve hC hW (xs (i + 1)) (xs (i + 2)) _) dL_law_1597 l_L_164 mk_X11_sieve mv_X11_sieve (by decide) rfl k1 (by decide) rfl rfl (Nat.le_of_ble_eq_true rfl) (by omega) (by omega) (fun r T g1 => ?_)
  obtain ⟨rfl, hC1, hQ1⟩ := g1
  have hM1 := hI.m hQ1
  refine x_aload_n (pc := 1600) dL_law_1600 rfl ?_
  refine x_aload_nq (pc := 1601) dL_law_1601 rfl ?_
  refine x_iload (pc := 1602) dL_law_1602 rfl ?_
  refine x_iconst (pc := 1604) (v := 1) dL_law_1604 (by decide) ?_
  refine x_iadd (pc := 1605) dL_law_1605 ?_
  refine x_sld (pc := 1606) (j := i + 1) hs h4 dL_law_1606 (nI_p1 i) (by omega) ?_
  refine x_aload_nq (pc := 1607) dL_law_1607 rfl ?_
  refine x_iload (pc := 1608) dL_law_1608 rfl ?_
  refine x_iconst (pc := 1610) (v := 2) dL_law_1610 (by decide) ?_
  refine x_iadd (pc := 1611) dL_law_1611 ?_
  refine x_sld (pc := 1612) (j := i + 2) hs h4 dL_law_1612 (nI_p2 i) (by omega) ?_
  refine x_aload_nq (pc := 1613) dL_law_1613 rfl ?_
  refine x_iload (pc := 1614) dL_law_1614 rfl ?_
  refine x_iconst (pc := 1616) (v := 3) dL_law_1616 (by decide) ?_
  refine x_iadd (pc := 1617) dL_law_1617 ?_
  refine x_sld (pc := 1618) (j := i + 3) hs h4 dL_law_1618 (nI_p3 i) (by omega) ?_
  refine x_i2l (pc := 1619) dL_law_1619 ?_
  refine x_bipush (pc := 1620) (v := 32) dL_law_1620 (by decide) ?_
  refine x_lshl (pc := 1622) dL_law_1622 ?_
  refine x_aload_nq (pc := 1623) dL_law_1623 rfl ?_
  refine x_iload (pc := 1624) dL_law_1624 rfl ?_
  refine x_iconst (pc := 1626) (v := 4) dL_law_1626 (by decide) ?_
  refine x_iadd (pc := 1627) dL_law_1627 ?_
  refine x_sld (pc := 1628) (j := i + 4) hs h4 dL_law_1628 (nI_p4 i) (by omega) ?_
  refine x_i2l (pc := 1629) dL_law_1629 ?_
  refine x_ldcL (pc := 1630) dL_law_1630 kL_93 ?_
  refine x_land (pc := 1633) dL_law_1633 ?_
  refine x_lor (pc := 1634) dL_law_1634 ?_
  refine x_callV (pc := 1635) (t := 12) (m_sieve hM1 hW (xs (i + 1)) (xs (i + 2)) _) dL_law_1635 l_L_167 mk_X12_sieve mv_X12_sieve (by decide) rfl hM1.1.1 (by decide) rfl rfl (Nat.le_of_ble_eq_true rfl) (Nat.le_refl _) (Nat.le_refl _) (fun r T2 g2 => ?_)
  obtain ⟨rfl, hM2, hF2⟩ := g2
  refine x_icmp_eq (pc := 1638) (tgt := 1812) dL_law_1638 (by decide) (fun _ => ?_) (fun g => absurd rfl g)
  exact fin _ _ (hI.next hQ1 hC1 hF2 hM2 (w_sieve hW hn (xs (i + 1)) (xs (i + 2)) _))
set_option maxRecDepth 20000 in
set_option maxHeartbeats 4000000 in
theorem lw_c34 {nm : String} {E : zE} {L : Nat} {xs : Nat → Int32} {Q : zQx} {k i n : Nat} {S : zM} {s : zST} (hE : zOKE E) (hX : zOKX E) (hl0 : ∀ l s c, Q.1 l s c → l.stackTraces = false) (hs : zScr E L xs) (h4 : L ≤ 4608) (hi : i + 9 ≤ L) (hn : n + 1 < 600) (hI : zLI n S s) (fin : ∀ (T : zM) (s' : zST), zLI (n + 1) T s' → zJx E 10 (24 * k) (614 * k) (mL_law nm) cL_law 1812 (zll i) [] T Q) : zJx E 10 (24 * (k + 1)) (614 * (k + 1)) (mL_law nm) cL_law 1643 (zll i) [] S Q := by
  obtain ⟨hC, hM, hW, hO⟩ := id hI
  have k1 := hC.1.1
  refine x_aload_n (pc := 1643) dL_law_1643 rfl ?_
  refine x_callV (pc := 1644) (t := 11) (mc2 := 24 * k) (ms2 := 614 * k) (p_clear hC hW) dL_law_1644 l_L_168 mk_X11_clear mv_X11_clear (by decide) rfl k1 (by decide) rfl rfl (Nat.le_of_ble_eq_true rfl) (by omega) (by omega) (fun r T g1 => ?_)
  obtain ⟨rfl, hC1, hQ1⟩ := g1
  have hM1 := hI.m hQ1
  refine x_aload_n (pc := 1647) dL_law_1647 rfl ?_
  refine x_callV (pc := 1648) (t := 12) (m_clear hM1 hW) dL_law_1648 l_L_171 mk_X12_clear mv_X12_clear (by decide) rfl hM1.1.1 (by decide) rfl rfl (Nat.le_of_ble_eq_true rfl) (Nat.le_refl _) (Nat.le_refl _) (fun r T2 g2 => ?_)
  obtain ⟨rfl, hM2, hF2⟩ := g2
  refine x_icmp_eq (pc := 1651) (tgt := 1812) dL_law_1651 (by decide) (fun _ => ?_) (fun g => absurd rfl g)
  exact fin _ _ (hI.next hQ1 hC1 hF2 hM2 (w_clear hW hn))
set_option maxRecDepth 20000 in
set_option maxHeartbeats 4000000 in
theorem lw_c35 {nm : String} {E : zE} {L : Nat} {xs : Nat → Int32} {Q : zQx} {k i n : Nat} {S : zM} {s : zST} (hE : zOKE E) (hX : zOKX E) (hl0 : ∀ l s c, Q.1 l s c → l.stackTraces = false) (hs : zScr E L xs) (h4 : L ≤ 4608) (hi : i + 9 ≤ L) (hn : n + 1 < 600) (hI : zLI n S s) (fin : ∀ (T : zM) (s' : zST), zLI (n + 1) T s' → zJx E 10 (24 * k) (614 * k) (mL_law nm) cL_law 1812 (zll i) [] T Q) : zJx E 10 (24 * (k + 1)) (614 * (k + 1)) (mL_law nm) cL_law 1656 (zll i) [] S Q := by
  obtain ⟨hC, hM, hW, hO⟩ := id hI
  have k1 := hC.1.1
  refine x_aload_n (pc := 1656) dL_law_1656 rfl ?_
  refine x_aload_nq (pc := 1657) dL_law_1657 rfl ?_
  refine x_iload (pc := 1658) dL_law_1658 rfl ?_
  refine x_iconst (pc := 1660) (v := 1) dL_law_1660 (by decide) ?_
  refine x_iadd (pc := 1661) dL_law_1661 ?_
  refine x_sld (pc := 1662) (j := i + 1) hs h4 dL_law_1662 (nI_p1 i) (by omega) ?_
  refine x_callV (pc := 1663) (t := 11) (mc2 := 24 * k) (ms2 := 614 * k) (p_passes hC hW (xs (i + 1))) dL_law_1663 l_L_172 mk_X11_passes mv_X11_passes (by decide) rfl k1 (by decide) rfl rfl (Nat.le_of_ble_eq_true rfl) (by omega) (by omega) (fun r T g1 => ?_)
  obtain ⟨rfl, hC1, hQ1⟩ := g1
  have hM1 := hI.m hQ1
  refine x_aload_n (pc := 1666) dL_law_1666 rfl ?_
  refine x_aload_nq (pc := 1667) dL_law_1667 rfl ?_
  refine x_iload (pc := 1668) dL_law_1668 rfl ?_
  refine x_iconst (pc := 1670) (v := 1) dL_law_1670 (by decide) ?_
  refine x_iadd (pc := 1671) dL_law_1671 ?_
  refine x_sld (pc := 1672) (j := i + 1) hs h4 dL_law_1672 (nI_p1 i) (by omega) ?_
  refine x_callV (pc := 1673) (t := 12) (m_passes hM1 hW (xs (i + 1))) dL_law_1673 l_L_175 mk_X12_passes mv_X12_passes (by decide) rfl hM1.1.1 (by decide) rfl rfl (Nat.le_of_ble_eq_true rfl) (Nat.le_refl _) (Nat.le_refl _) (fun r T2 g2 => ?_)
  obtain ⟨rfl, hM2, hF2⟩ := g2
  refine x_icmp_eq (pc := 1676) (tgt := 1812) dL_law_1676 (by decide) (fun _ => ?_) (fun g => absurd rfl g)
  exact fin _ _ (hI.next hQ1 hC1 hF2 hM2 (w_passes hW hn (xs (i + 1))))
set_option maxRecDepth 20000 in
set_option maxHeartbeats 4000000 in
theorem lw_c36 {nm : String} {E : zE} {L : Nat} {xs : Nat → Int32} {Q : zQx} {k i n : Nat} {S : zM} {s : zST} (hE : zOKE E) (hX : zOKX E) (hl0 : ∀ l s c, Q.1 l s c → l.stackTraces = false) (hs : zScr E L xs) (h4 : L ≤ 4608) (hi : i + 9 ≤ L) (hn : n + 1 < 600) (hI : zLI n S s) (fin : ∀ (T : zM) (s' : zST), zLI (n + 1) T s' → zJx E 10 (24 * k) (614 * k) (mL_law nm) cL_law 1812 (zll i) [] T Q) : zJx E 10 (24 * (k + 1)) (614 * (k + 1)) (mL_law nm) cL_law 1681 (zll i) [] S Q := by
  obtain ⟨hC, hM, hW, hO⟩ := id hI
  have k1 := hC.1.1
  refine x_aload_n (pc := 1681) dL_law_1681 rfl ?_
  refine x_aload_nq (pc := 1682) dL_law_1682 rfl ?_
  refine x_iload (pc := 1683) dL_law_1683 rfl ?_
  refine x_iconst (pc := 1685) (v := 1) dL_law_1685 (by decide) ?_
  refine x_iadd (pc := 1686) dL_law_1686 ?_
  refine x_sld (pc := 1687) (j := i + 1) hs h4 dL_law_1687 (nI_p1 i) (by omega) ?_
  refine x_aload_nq (pc := 1688) dL_law_1688 rfl ?_
  refine x_iload (pc := 1689) dL_law_1689 rfl ?_
  refine x_iconst (pc := 1691) (v := 2) dL_law_1691 (by decide) ?_
  refine x_iadd (pc := 1692) dL_law_1692 ?_
  refine x_sld (pc := 1693) (j := i + 2) hs h4 dL_law_1693 (nI_p2 i) (by omega) ?_
  refine x_callV (pc := 1694) (t := 11) (mc2 := 24 * k) (ms2 := 614 * k) (p_condition hC hW (xs (i + 1)) (xs (i + 2))) dL_law_1694 l_L_176 mk_X11_condition mv_X11_condition (by decide) rfl k1 (by decide) rfl rfl (Nat.le_of_ble_eq_true rfl) (by omega) (by omega) (fun r T g1 => ?_)
  obtain ⟨rfl, hC1, hQ1⟩ := g1
  have hM1 := hI.m hQ1
  refine x_aload_n (pc := 1697) dL_law_1697 rfl ?_
  refine x_aload_nq (pc := 1698) dL_law_1698 rfl ?_
  refine x_iload (pc := 1699) dL_law_1699 rfl ?_
  refine x_iconst (pc := 1701) (v := 1) dL_law_1701 (by decide) ?_
  refine x_iadd (pc := 1702) dL_law_1702 ?_
  refine x_sld (pc := 1703) (j := i + 1) hs h4 dL_law_1703 (nI_p1 i) (by omega) ?_
  refine x_aload_nq (pc := 1704) dL_law_1704 rfl ?_
  refine x_iload (pc := 1705) dL_law_1705 rfl ?_
  refine x_iconst (pc := 1707) (v := 2) dL_law_1707 (by decide) ?_
  refine x_iadd (pc := 1708) dL_law_1708 ?_
  refine x_sld (pc := 1709) (j := i + 2) hs h4 dL_law_1709 (nI_p2 i) (by omega) ?_
  refine x_callV (pc := 1710) (t := 12) (m_condition hM1 hW (xs (i + 1)) (xs (i + 2))) dL_law_1710 l_L_179 mk_X12_condition mv_X12_condition (by decide) rfl hM1.1.1 (by decide) rfl rfl (Nat.le_of_ble_eq_true rfl) (Nat.le_refl _) (Nat.le_refl _) (fun r T2 g2 => ?_)
  obtain ⟨rfl, hM2, hF2⟩ := g2
  refine x_icmp_eq (pc := 1713) (tgt := 1812) dL_law_1713 (by decide) (fun _ => ?_) (fun g => absurd rfl g)
  exact fin _ _ (hI.next hQ1 hC1 hF2 hM2 (w_condition hW hn (xs (i + 1)) (xs (i + 2))))
set_option maxRecDepth 20000 in
set_option maxHeartbeats 4000000 in
theorem lw_c37 {nm : String} {E : zE} {L : Nat} {xs : Nat → Int32} {Q : zQx} {k i n : Nat} {S : zM} {s : zST} (hE : zOKE E) (hX : zOKX E) (hl0 : ∀ l s c, Q.1 l s c → l.stackTraces = false) (hs : zScr E L xs) (h4 : L ≤ 4608) (hi : i + 9 ≤ L) (hn : n + 1 < 600) (hI : zLI n S s) (fin : ∀ (T : zM) (s' : zST), zLI (n + 1) T s' → zJx E 10 (24 * k) (614 * k) (mL_law nm) cL_law 1812 (zll i) [] T Q) : zJx E 10 (24 * (k + 1)) (614 * (k + 1)) (mL_law nm) cL_law 1718 (zll i) [] S Q := by
  obtain ⟨hC, hM, hW, hO⟩ := id hI
  have k1 := hC.1.1
  refine x_aload_n (pc := 1718) dL_law_1718 rfl ?_
  refine x_aload_nq (pc := 1719) dL_law_1719 rfl ?_
  refine x_iload (pc := 1720) dL_law_1720 rfl ?_
  refine x_iconst (pc := 1722) (v := 1) dL_law_1722 (by decide) ?_
  refine x_iadd (pc := 1723) dL_law_1723 ?_
  refine x_sld (pc := 1724) (j := i + 1) hs h4 dL_law_1724 (nI_p1 i) (by omega) ?_
  refine x_aload_n (pc := 1725) dL_law_1725 rfl ?_
  refine x_callSL (pc := 1726) (mc2 := 24 * k) (ms2 := 614 * k) hl0 (c_llack hX hC hW hO (xs (i + 1))) dL_law_1726 l_L_180 (by decide) rfl rfl (Nat.le_of_ble_eq_true rfl) (by omega) (by omega) (fun r T g1 => ?_)
  have h160 := hC.1.2.2.2.2
  have key : ∃ v : Int32, r = some (zI v) ∧ zCI T s ∧ zMO T s ∧ zkd T 160 = (15, 1) ∧ match q_lacking s (xs (i + 1)) with | none => v = 1 | some z => v = 0 ∧ zgL T 160 0 = z.toInt64 := by
    unfold zLP at g1
    cases hq : q_lacking s (xs (i + 1)) with
    | none =>
      rw [hq] at g1
      obtain ⟨rfl, hN⟩ := g1
      have ag : ∀ c, c ≤ zgn S → zAg S T c := fun c hc => hN.2 c hc (fun z => z)
      exact ⟨1, rfl, hC.ag (fun c _ _ hc => ag c hc) hN.1, hM.q2 (fun c _ hc => ag c (by omega)), (ag 160 h160).1.trans hO, rfl⟩
    | some z =>
      rw [hq] at g1
      obtain ⟨rfl, rfl⟩ := g1
      have ag : ∀ c, c ≠ 160 → zAg S (zwL S 160 0 z.toInt64) c := fun c hc => (zF.wL (X := fun c => c = 160) rfl).ag hc
      exact ⟨0, rfl, hC.ag (fun c _ h2 _ => ag c (by omega)) (Nat.le_refl _), hM.q2 (fun c _ hc => ag c (by omega)), hO, rfl, zgL_self⟩
  obtain ⟨v, rfl, hC1, hM1, hO1, hv⟩ := key
  refine x_istore (pc := 1729) (ls' := [_, _, _, _, _, _, _]) dL_law_1729 (show 5 < 7 by decide) rfl rfl ?_
  refine x_aload_n (pc := 1731) dL_law_1731 rfl ?_
  refine x_aload_nq (pc := 1732) dL_law_1732 rfl ?_
  refine x_iload (pc := 1733) dL_law_1733 rfl ?_
  refine x_iconst (pc := 1735) (v := 1) dL_law_1735 (by decide) ?_
  refine x_iadd (pc := 1736) dL_law_1736 ?_
  refine x_sld (pc := 1737) (j := i + 1) hs h4 dL_law_1737 (nI_p1 i) (by omega) ?_
  refine x_callV (pc := 1738) (t := 12) (m_lacking hM1 hW (xs (i + 1))) dL_law_1738 l_L_185 mk_X12_lacking mv_X12_lacking (by decide) rfl hM1.1.1 (by decide) rfl rfl (Nat.le_of_ble_eq_true rfl) (Nat.le_refl _) (Nat.le_refl _) (fun r T2 g2 => ?_)
  obtain ⟨hM2, hF2, y, rfl, hy⟩ := g2
  refine x_istore (pc := 1741) (ls' := [_, _, _, _, _, _, _]) dL_law_1741 (show 6 < 7 by decide) rfl rfl ?_
  refine x_aload_n (pc := 1743) dL_law_1743 rfl ?_
  refine x_callV (pc := 1744) (t := 12) (m_thrown hM2.1) dL_law_1744 l_L_186 mk_X12_thrown mv_X12_thrown (by decide) rfl hM2.1.1 (by decide) rfl rfl (Nat.le_of_ble_eq_true rfl) (Nat.le_refl _) (Nat.le_refl _) (fun r T3 g3 => ?_)
  obtain ⟨rfl, rfl⟩ := g3
  refine x_iload (pc := 1747) dL_law_1747 rfl ?_
  have ag2 := hF2.ag (show ¬ zMX 160 by decide)
  have ev : zgI T2 123 0 = v := by
    cases hq : q_lacking s (xs (i + 1)) with
    | none =>
      rw [hq] at hv hy
      exact hy.trans hv.symm
    | some z =>
      rw [hq] at hv hy
      exact hy.1.trans hv.1.symm
  have hend : zJx E 10 (24 * k) (614 * k) (mL_law nm) cL_law 1771 [some (zQ 42), some (zR 1), some (zR 123), some (zR 160), some (zI (nI i)), some (zI v), some (zI y)] [] T2 Q := by
    refine x_goto (pc := 1771) (tgt := 1812) dL_law_1771 (by decide) ?_
    refine zJx.drop (ls' := zll i) (fun j w g => ?_) (fin T2 s ⟨zLI.c2 hC1 hF2, hM2, hW.up hn, ag2.1.trans hO1⟩)
    match j, g with
    | 0, g => exact g
    | 1, g => exact g
    | 2, g => exact g
    | 3, g => exact g
    | 4, g => exact g
    | 5, g => exact absurd g (by simp)
    | 6, g => exact absurd g (by simp)
    | j + 7, g => exact absurd g (by simp)
  refine x_icmp_eq (pc := 1749) (tgt := 1754) dL_law_1749 (by decide) (fun _ => ?_) (fun g => absurd ev g)
  refine x_iload (pc := 1754) dL_law_1754 rfl ?_
  refine x_if_ne (pc := 1756) (tgt := 1771) dL_law_1756 (by decide) (fun _ => hend) (fun g => ?_)
  have g0 : v = 0 := g
  have hz : ∃ z, zgL T2 160 0 = z.toInt64 ∧ y = z := by
    cases hq : q_lacking s (xs (i + 1)) with
    | none =>
      rw [hq] at hv
      rw [show v = 1 from hv] at g0
      exact absurd g0 (by decide)
    | some z =>
      rw [hq] at hv hy
      exact ⟨z, (ag2.2.2.1 0).trans hv.2, hy.2⟩
  obtain ⟨z, hz1, rfl⟩ := hz
  refine x_aload_n (pc := 1759) dL_law_1759 rfl ?_
  refine x_iconst (pc := 1760) (v := 0) dL_law_1760 (by decide) ?_
  refine x_laldn (pc := 1761) (i := 0) dL_law_1761 (ag2.1.trans hO1) (by decide) (by decide) hz1 ?_
  refine x_iload (pc := 1762) dL_law_1762 rfl ?_
  refine x_i2l (pc := 1764) dL_law_1764 ?_
  refine x_lcmp (pc := 1765) dL_law_1765 ?_
  exact x_if_eq (pc := 1766) (tgt := 1771) dL_law_1766 (by decide) (fun _ => hend) (fun g => absurd ((lg_cmp_eq _ _).mpr rfl) g)
set_option maxRecDepth 20000 in
set_option maxHeartbeats 4000000 in
theorem lw_c38 {nm : String} {E : zE} {L : Nat} {xs : Nat → Int32} {Q : zQx} {k i n : Nat} {S : zM} {s : zST} (hE : zOKE E) (hX : zOKX E) (hl0 : ∀ l s c, Q.1 l s c → l.stackTraces = false) (hs : zScr E L xs) (h4 : L ≤ 4608) (hi : i + 9 ≤ L) (hn : n + 1 < 600) (hI : zLI n S s) (fin : ∀ (T : zM) (s' : zST), zLI (n + 1) T s' → zJx E 10 (24 * k) (614 * k) (mL_law nm) cL_law 1812 (zll i) [] T Q) : zJx E 10 (24 * (k + 1)) (614 * (k + 1)) (mL_law nm) cL_law 1774 (zll i) [] S Q := by
  obtain ⟨hC, hM, hW, hO⟩ := id hI
  have k1 := hC.1.1
  refine x_aload_n (pc := 1774) dL_law_1774 rfl ?_
  refine x_aload_nq (pc := 1775) dL_law_1775 rfl ?_
  refine x_iload (pc := 1776) dL_law_1776 rfl ?_
  refine x_iconst (pc := 1778) (v := 1) dL_law_1778 (by decide) ?_
  refine x_iadd (pc := 1779) dL_law_1779 ?_
  refine x_sld (pc := 1780) (j := i + 1) hs h4 dL_law_1780 (nI_p1 i) (by omega) ?_
  refine x_callV (pc := 1781) (t := 11) (mc2 := 24 * k) (ms2 := 614 * k) (p_size hC hW (xs (i + 1))) dL_law_1781 l_L_189 mk_X11_size mv_X11_size (by decide) rfl k1 (by decide) rfl rfl (Nat.le_of_ble_eq_true rfl) (by omega) (by omega) (fun r T g1 => ?_)
  obtain ⟨rfl, hC1, hQ1⟩ := g1
  have hM1 := hI.m hQ1
  refine x_aload_n (pc := 1784) dL_law_1784 rfl ?_
  refine x_aload_nq (pc := 1785) dL_law_1785 rfl ?_
  refine x_iload (pc := 1786) dL_law_1786 rfl ?_
  refine x_iconst (pc := 1788) (v := 1) dL_law_1788 (by decide) ?_
  refine x_iadd (pc := 1789) dL_law_1789 ?_
  refine x_sld (pc := 1790) (j := i + 1) hs h4 dL_law_1790 (nI_p1 i) (by omega) ?_
  refine x_callV (pc := 1791) (t := 12) (m_size hM1 hW (xs (i + 1))) dL_law_1791 l_L_192 mk_X12_size mv_X12_size (by decide) rfl hM1.1.1 (by decide) rfl rfl (Nat.le_of_ble_eq_true rfl) (Nat.le_refl _) (Nat.le_refl _) (fun r T2 g2 => ?_)
  obtain ⟨rfl, hM2, hF2⟩ := g2
  refine x_icmp_eq (pc := 1794) (tgt := 1812) dL_law_1794 (by decide) (fun _ => ?_) (fun g => absurd rfl g)
  exact fin _ _ (hI.next hQ1 hC1 hF2 hM2 (w_size hW hn (xs (i + 1))))
set_option maxRecDepth 20000 in
set_option maxHeartbeats 4000000 in
theorem lw_c39 {nm : String} {E : zE} {L : Nat} {xs : Nat → Int32} {Q : zQx} {k i n : Nat} {S : zM} {s : zST} (hE : zOKE E) (hX : zOKX E) (hl0 : ∀ l s c, Q.1 l s c → l.stackTraces = false) (hs : zScr E L xs) (h4 : L ≤ 4608) (hi : i + 9 ≤ L) (hn : n + 1 < 600) (hI : zLI n S s) (fin : ∀ (T : zM) (s' : zST), zLI (n + 1) T s' → zJx E 10 (24 * k) (614 * k) (mL_law nm) cL_law 1812 (zll i) [] T Q) : zJx E 10 (24 * (k + 1)) (614 * (k + 1)) (mL_law nm) cL_law 1799 (zll i) [] S Q := by
  obtain ⟨hC, hM, hW, hO⟩ := id hI
  have k1 := hC.1.1
  refine x_aload_n (pc := 1799) dL_law_1799 rfl ?_
  refine x_callV (pc := 1800) (t := 11) (mc2 := 24 * k) (ms2 := 614 * k) (p_trouble hC hW) dL_law_1800 l_L_193 mk_X11_trouble mv_X11_trouble (by decide) rfl k1 (by decide) rfl rfl (Nat.le_of_ble_eq_true rfl) (by omega) (by omega) (fun r T g1 => ?_)
  obtain ⟨rfl, hC1, hQ1⟩ := g1
  have hM1 := hI.m hQ1
  refine x_aload_n (pc := 1803) dL_law_1803 rfl ?_
  refine x_callV (pc := 1804) (t := 12) (m_trouble hM1 hW) dL_law_1804 l_L_196 mk_X12_trouble mv_X12_trouble (by decide) rfl hM1.1.1 (by decide) rfl rfl (Nat.le_of_ble_eq_true rfl) (Nat.le_refl _) (Nat.le_refl _) (fun r T2 g2 => ?_)
  obtain ⟨rfl, hM2, hF2⟩ := g2
  refine x_icmp_eq (pc := 1807) (tgt := 1812) dL_law_1807 (by decide) (fun _ => ?_) (fun g => absurd rfl g)
  exact fin _ _ (hI.next hQ1 hC1 hF2 hM2 (w_trouble hW hn))
