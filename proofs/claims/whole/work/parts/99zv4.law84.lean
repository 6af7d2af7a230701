/-! THE LAW'S CASES, 4 -/
theorem law_36 {w : WD} {p : Program} {l : Launch} {e : Env} {s : State} {m : MethodId} {below : List Frame} {meth : Method} {c : Code} {b L : Nat} {xs : Nat → Int32} : LCase w p l e s m below meth c b L xs 1589 := by
  intro X n h cells slots hi hn hI hc hs kk
  obtain ⟨I, R, Lg, sh, N, tp, nt, nk, nP, nF, nS, kA, fA, cA, gA, rfl, hC, hr⟩ := hI
  obtain ⟨ac, az, hac, haz, hX⟩ := s_overlap hC hr (by omega) (x1 := xs (6 * n + 1)) (x2 := xs (6 * n + 2))
  refine lr_aload (i := 1) X dL_1589 rfl rfl lv1 ?_
  refine lr_arg (k := 1) X dL_1590 rfl dL_1591 rfl dL_1592 rfl dL_1593 rfl dL_1594 rfl rfl (by omega) ?_
  refine lr_arg (k := 2) X dL_1595 rfl dL_1596 rfl dL_1597 rfl dL_1598 rfl dL_1599 rfl rfl (by omega) ?_
  refine lr_callv (M2 := mi_X_overlap) (id := 0) (as := [.int (xs (6 * n + 1)), .int (xs (6 * n + 2))]) (rest := []) X dL_1600 rfl k_L_167 cm_X_overlap cv_X_overlap (sh_0 hC.1.1) (Nat.le_of_ble_eq_true rfl) rfl rfl (Nat.le_of_ble_eq_true rfl) hX (by omega) (by omega) (by omega) rfl (fun r h1 hq => ?_)
  obtain ⟨ac2, az2, hac2, haz2, ⟨⟨v, rfl⟩, h761⟩, hM⟩ := hq
  change LR w p l e s m below meth c b 1603 (LV w b (6 * n)) [.int v] h1 (cells + ac) (slots + az)
  refine lr_aload (i := 2) X dL_1603 rfl rfl lv2 ?_
  refine lr_arg (k := 1) X dL_1604 rfl dL_1605 rfl dL_1606 rfl dL_1607 rfl dL_1608 rfl rfl (by omega) ?_
  refine lr_arg (k := 2) X dL_1609 rfl dL_1610 rfl dL_1611 rfl dL_1612 rfl dL_1613 rfl rfl (by omega) ?_
  refine lr_callv (M2 := mi_M_overlap) (id := 761) (as := [.int (xs (6 * n + 1)), .int (xs (6 * n + 2))]) (rest := [.int v]) X dL_1614 rfl k_L_170 cm_M_overlap cv_M_overlap h761 (Nat.le_of_ble_eq_true rfl) rfl rfl (Nat.le_of_ble_eq_true rfl) hM (by omega) (by omega) (by omega) rfl (fun r2 h2 hq2 => ?_)
  obtain ⟨rfl, hI2⟩ := hq2
  change LR w p l e s m below meth c b 1617 (LV w b (6 * n)) [.int v, .int v] h2 (cells + ac + ac2) (slots + az + az2)
  exact lr_same X dL_1617 rfl (kk h2 _ _ hI2 (by omega) (by omega))
theorem law_37 {w : WD} {p : Program} {l : Launch} {e : Env} {s : State} {m : MethodId} {below : List Frame} {meth : Method} {c : Code} {b L : Nat} {xs : Nat → Int32} : LCase w p l e s m below meth c b L xs 1622 := by
  intro X n h cells slots hi hn hI hc hs kk
  obtain ⟨I, R, Lg, sh, N, tp, nt, nk, nP, nF, nS, kA, fA, cA, gA, rfl, hC, hr⟩ := hI
  obtain ⟨ac, az, hac, haz, hX⟩ := s_needed hC hr (by omega) (x1 := xs (6 * n + 1))
  refine lr_aload (i := 1) X dL_1622 rfl rfl lv1 ?_
  refine lr_arg (k := 1) X dL_1623 rfl dL_1624 rfl dL_1625 rfl dL_1626 rfl dL_1627 rfl rfl (by omega) ?_
  refine lr_callv (M2 := mi_X_needed) (id := 0) (as := [.int (xs (6 * n + 1))]) (rest := []) X dL_1628 rfl k_L_171 cm_X_needed cv_X_needed (sh_0 hC.1.1) (Nat.le_of_ble_eq_true rfl) rfl rfl (Nat.le_of_ble_eq_true rfl) hX (by omega) (by omega) (by omega) rfl (fun r h1 hq => ?_)
  obtain ⟨ac2, az2, hac2, haz2, ⟨⟨v, rfl⟩, h761⟩, hM⟩ := hq
  change LR w p l e s m below meth c b 1631 (LV w b (6 * n)) [.int v] h1 (cells + ac) (slots + az)
  refine lr_aload (i := 2) X dL_1631 rfl rfl lv2 ?_
  refine lr_arg (k := 1) X dL_1632 rfl dL_1633 rfl dL_1634 rfl dL_1635 rfl dL_1636 rfl rfl (by omega) ?_
  refine lr_callv (M2 := mi_M_needed) (id := 761) (as := [.int (xs (6 * n + 1))]) (rest := [.int v]) X dL_1637 rfl k_L_174 cm_M_needed cv_M_needed h761 (Nat.le_of_ble_eq_true rfl) rfl rfl (Nat.le_of_ble_eq_true rfl) hM (by omega) (by omega) (by omega) rfl (fun r2 h2 hq2 => ?_)
  obtain ⟨rfl, hI2⟩ := hq2
  change LR w p l e s m below meth c b 1640 (LV w b (6 * n)) [.int v, .int v] h2 (cells + ac + ac2) (slots + az + az2)
  exact lr_same X dL_1640 rfl (kk h2 _ _ hI2 (by omega) (by omega))
theorem law_38 {w : WD} {p : Program} {l : Launch} {e : Env} {s : State} {m : MethodId} {below : List Frame} {meth : Method} {c : Code} {b L : Nat} {xs : Nat → Int32} : LCase w p l e s m below meth c b L xs 1645 := by
  intro X n h cells slots hi hn hI hc hs kk
  obtain ⟨I, R, Lg, sh, N, tp, nt, nk, nP, nF, nS, kA, fA, cA, gA, rfl, hC, hr⟩ := hI
  obtain ⟨ac, az, hac, haz, hX⟩ := s_kept hC hr (by omega) (x1 := xs (6 * n + 1)) (x2 := xs (6 * n + 2))
  refine lr_aload (i := 1) X dL_1645 rfl rfl lv1 ?_
  refine lr_arg (k := 1) X dL_1646 rfl dL_1647 rfl dL_1648 rfl dL_1649 rfl dL_1650 rfl rfl (by omega) ?_
  refine lr_arg (k := 2) X dL_1651 rfl dL_1652 rfl dL_1653 rfl dL_1654 rfl dL_1655 rfl rfl (by omega) ?_
  refine lr_callv (M2 := mi_X_kept) (id := 0) (as := [.int (xs (6 * n + 1)), .int (xs (6 * n + 2))]) (rest := []) X dL_1656 rfl k_L_175 cm_X_kept cv_X_kept (sh_0 hC.1.1) (Nat.le_of_ble_eq_true rfl) rfl rfl (Nat.le_of_ble_eq_true rfl) hX (by omega) (by omega) (by omega) rfl (fun r h1 hq => ?_)
  obtain ⟨ac2, az2, hac2, haz2, ⟨⟨v, rfl⟩, h761⟩, hM⟩ := hq
  change LR w p l e s m below meth c b 1659 (LV w b (6 * n)) [.int v] h1 (cells + ac) (slots + az)
  refine lr_aload (i := 2) X dL_1659 rfl rfl lv2 ?_
  refine lr_arg (k := 1) X dL_1660 rfl dL_1661 rfl dL_1662 rfl dL_1663 rfl dL_1664 rfl rfl (by omega) ?_
  refine lr_arg (k := 2) X dL_1665 rfl dL_1666 rfl dL_1667 rfl dL_1668 rfl dL_1669 rfl rfl (by omega) ?_
  refine lr_callv (M2 := mi_M_kept) (id := 761) (as := [.int (xs (6 * n + 1)), .int (xs (6 * n + 2))]) (rest := [.int v]) X dL_1670 rfl k_L_178 cm_M_kept cv_M_kept h761 (Nat.le_of_ble_eq_true rfl) rfl rfl (Nat.le_of_ble_eq_true rfl) hM (by omega) (by omega) (by omega) rfl (fun r2 h2 hq2 => ?_)
  obtain ⟨rfl, hI2⟩ := hq2
  change LR w p l e s m below meth c b 1673 (LV w b (6 * n)) [.int v, .int v] h2 (cells + ac + ac2) (slots + az + az2)
  exact lr_same X dL_1673 rfl (kk h2 _ _ hI2 (by omega) (by omega))
theorem law_39 {w : WD} {p : Program} {l : Launch} {e : Env} {s : State} {m : MethodId} {below : List Frame} {meth : Method} {c : Code} {b L : Nat} {xs : Nat → Int32} : LCase w p l e s m below meth c b L xs 1678 := by
  intro X n h cells slots hi hn hI hc hs kk
  obtain ⟨I, R, Lg, sh, N, tp, nt, nk, nP, nF, nS, kA, fA, cA, gA, rfl, hC, hr⟩ := hI
  obtain ⟨ac, az, hac, haz, hX⟩ := s_forget hC hr (by omega) (x1 := xs (6 * n + 1))
  refine lr_aload (i := 1) X dL_1678 rfl rfl lv1 ?_
  refine lr_arg (k := 1) X dL_1679 rfl dL_1680 rfl dL_1681 rfl dL_1682 rfl dL_1683 rfl rfl (by omega) ?_
  refine lr_callv (M2 := mi_X_forget) (id := 0) (as := [.int (xs (6 * n + 1))]) (rest := []) X dL_1684 rfl k_L_179 cm_X_forget cv_X_forget (sh_0 hC.1.1) (Nat.le_of_ble_eq_true rfl) rfl rfl (Nat.le_of_ble_eq_true rfl) hX (by omega) (by omega) (by omega) rfl (fun r h1 hq => ?_)
  obtain ⟨ac2, az2, hac2, haz2, ⟨⟨v, rfl⟩, h761⟩, hM⟩ := hq
  change LR w p l e s m below meth c b 1687 (LV w b (6 * n)) [.int v] h1 (cells + ac) (slots + az)
  refine lr_aload (i := 2) X dL_1687 rfl rfl lv2 ?_
  refine lr_arg (k := 1) X dL_1688 rfl dL_1689 rfl dL_1690 rfl dL_1691 rfl dL_1692 rfl rfl (by omega) ?_
  refine lr_callv (M2 := mi_M_forget) (id := 761) (as := [.int (xs (6 * n + 1))]) (rest := [.int v]) X dL_1693 rfl k_L_182 cm_M_forget cv_M_forget h761 (Nat.le_of_ble_eq_true rfl) rfl rfl (Nat.le_of_ble_eq_true rfl) hM (by omega) (by omega) (by omega) rfl (fun r2 h2 hq2 => ?_)
  obtain ⟨rfl, hI2⟩ := hq2
  change LR w p l e s m below meth c b 1696 (LV w b (6 * n)) [.int v, .int v] h2 (cells + ac + ac2) (slots + az + az2)
  exact lr_same X dL_1696 rfl (kk h2 _ _ hI2 (by omega) (by omega))
theorem law_40 {w : WD} {p : Program} {l : Launch} {e : Env} {s : State} {m : MethodId} {below : List Frame} {meth : Method} {c : Code} {b L : Nat} {xs : Nat → Int32} : LCase w p l e s m below meth c b L xs 1701 := by
  intro X n h cells slots hi hn hI hc hs kk
  obtain ⟨I, R, Lg, sh, N, tp, nt, nk, nP, nF, nS, kA, fA, cA, gA, rfl, hC, hr⟩ := hI
  obtain ⟨ac, az, hac, haz, hX⟩ := s_spelled hC hr (by omega) (x1 := xs (6 * n + 1)) (x2 := xs (6 * n + 2)) (x3 := xs (6 * n + 3))
  refine lr_aload (i := 1) X dL_1701 rfl rfl lv1 ?_
  refine lr_arg (k := 1) X dL_1702 rfl dL_1703 rfl dL_1704 rfl dL_1705 rfl dL_1706 rfl rfl (by omega) ?_
  refine lr_arg (k := 2) X dL_1707 rfl dL_1708 rfl dL_1709 rfl dL_1710 rfl dL_1711 rfl rfl (by omega) ?_
  refine lr_arg (k := 3) X dL_1712 rfl dL_1713 rfl dL_1714 rfl dL_1715 rfl dL_1716 rfl rfl (by omega) ?_
  refine lr_callv (M2 := mi_X_spelled) (id := 0) (as := [.int (xs (6 * n + 1)), .int (xs (6 * n + 2)), .int (xs (6 * n + 3))]) (rest := []) X dL_1717 rfl k_L_183 cm_X_spelled cv_X_spelled (sh_0 hC.1.1) (Nat.le_of_ble_eq_true rfl) rfl rfl (Nat.le_of_ble_eq_true rfl) hX (by omega) (by omega) (by omega) rfl (fun r h1 hq => ?_)
  obtain ⟨ac2, az2, hac2, haz2, ⟨⟨v, rfl⟩, h761⟩, hM⟩ := hq
  change LR w p l e s m below meth c b 1720 (LV w b (6 * n)) [.int v] h1 (cells + ac) (slots + az)
  refine lr_aload (i := 2) X dL_1720 rfl rfl lv2 ?_
  refine lr_arg (k := 1) X dL_1721 rfl dL_1722 rfl dL_1723 rfl dL_1724 rfl dL_1725 rfl rfl (by omega) ?_
  refine lr_arg (k := 2) X dL_1726 rfl dL_1727 rfl dL_1728 rfl dL_1729 rfl dL_1730 rfl rfl (by omega) ?_
  refine lr_arg (k := 3) X dL_1731 rfl dL_1732 rfl dL_1733 rfl dL_1734 rfl dL_1735 rfl rfl (by omega) ?_
  refine lr_callv (M2 := mi_M_spelled) (id := 761) (as := [.int (xs (6 * n + 1)), .int (xs (6 * n + 2)), .int (xs (6 * n + 3))]) (rest := [.int v]) X dL_1736 rfl k_L_186 cm_M_spelled cv_M_spelled h761 (Nat.le_of_ble_eq_true rfl) rfl rfl (Nat.le_of_ble_eq_true rfl) hM (by omega) (by omega) (by omega) rfl (fun r2 h2 hq2 => ?_)
  obtain ⟨rfl, hI2⟩ := hq2
  change LR w p l e s m below meth c b 1739 (LV w b (6 * n)) [.int v, .int v] h2 (cells + ac + ac2) (slots + az + az2)
  exact lr_same X dL_1739 rfl (kk h2 _ _ hI2 (by omega) (by omega))
theorem law_41 {w : WD} {p : Program} {l : Launch} {e : Env} {s : State} {m : MethodId} {below : List Frame} {meth : Method} {c : Code} {b L : Nat} {xs : Nat → Int32} : LCase w p l e s m below meth c b L xs 1744 := by
  intro X n h cells slots hi hn hI hc hs kk
  obtain ⟨I, R, Lg, sh, N, tp, nt, nk, nP, nF, nS, kA, fA, cA, gA, rfl, hC, hr⟩ := hI
  obtain ⟨ac, az, hac, haz, hX⟩ := s_featureOf hC hr (by omega) (x1 := xs (6 * n + 1)) (x2 := xs (6 * n + 2))
  refine lr_aload (i := 1) X dL_1744 rfl rfl lv1 ?_
  refine lr_arg (k := 1) X dL_1745 rfl dL_1746 rfl dL_1747 rfl dL_1748 rfl dL_1749 rfl rfl (by omega) ?_
  refine lr_arg (k := 2) X dL_1750 rfl dL_1751 rfl dL_1752 rfl dL_1753 rfl dL_1754 rfl rfl (by omega) ?_
  refine lr_callv (M2 := mi_X_featureOf) (id := 0) (as := [.int (xs (6 * n + 1)), .int (xs (6 * n + 2))]) (rest := []) X dL_1755 rfl k_L_187 cm_X_featureOf cv_X_featureOf (sh_0 hC.1.1) (Nat.le_of_ble_eq_true rfl) rfl rfl (Nat.le_of_ble_eq_true rfl) hX (by omega) (by omega) (by omega) rfl (fun r h1 hq => ?_)
  obtain ⟨ac2, az2, hac2, haz2, ⟨⟨v, rfl⟩, h761⟩, hM⟩ := hq
  change LR w p l e s m below meth c b 1758 (LV w b (6 * n)) [.int v] h1 (cells + ac) (slots + az)
  refine lr_aload (i := 2) X dL_1758 rfl rfl lv2 ?_
  refine lr_arg (k := 1) X dL_1759 rfl dL_1760 rfl dL_1761 rfl dL_1762 rfl dL_1763 rfl rfl (by omega) ?_
  refine lr_arg (k := 2) X dL_1764 rfl dL_1765 rfl dL_1766 rfl dL_1767 rfl dL_1768 rfl rfl (by omega) ?_
  refine lr_callv (M2 := mi_M_featureOf) (id := 761) (as := [.int (xs (6 * n + 1)), .int (xs (6 * n + 2))]) (rest := [.int v]) X dL_1769 rfl k_L_190 cm_M_featureOf cv_M_featureOf h761 (Nat.le_of_ble_eq_true rfl) rfl rfl (Nat.le_of_ble_eq_true rfl) hM (by omega) (by omega) (by omega) rfl (fun r2 h2 hq2 => ?_)
  obtain ⟨rfl, hI2⟩ := hq2
  change LR w p l e s m below meth c b 1772 (LV w b (6 * n)) [.int v, .int v] h2 (cells + ac + ac2) (slots + az + az2)
  exact lr_same X dL_1772 rfl (kk h2 _ _ hI2 (by omega) (by omega))
theorem law_42 {w : WD} {p : Program} {l : Launch} {e : Env} {s : State} {m : MethodId} {below : List Frame} {meth : Method} {c : Code} {b L : Nat} {xs : Nat → Int32} : LCase w p l e s m below meth c b L xs 1777 := by
  intro X n h cells slots hi hn hI hc hs kk
  obtain ⟨I, R, Lg, sh, N, tp, nt, nk, nP, nF, nS, kA, fA, cA, gA, rfl, hC, hr⟩ := hI
  obtain ⟨ac, az, hac, haz, hX⟩ := s_judge hC hr (by omega) (x1 := xs (6 * n + 1)) (x2 := xs (6 * n + 2)) (x3 := xs (6 * n + 3))
  refine lr_aload (i := 1) X dL_1777 rfl rfl lv1 ?_
  refine lr_arg (k := 1) X dL_1778 rfl dL_1779 rfl dL_1780 rfl dL_1781 rfl dL_1782 rfl rfl (by omega) ?_
  refine lr_arg (k := 2) X dL_1783 rfl dL_1784 rfl dL_1785 rfl dL_1786 rfl dL_1787 rfl rfl (by omega) ?_
  refine lr_arg (k := 3) X dL_1788 rfl dL_1789 rfl dL_1790 rfl dL_1791 rfl dL_1792 rfl rfl (by omega) ?_
  refine lr_callv (M2 := mi_X_judge) (id := 0) (as := [.int (xs (6 * n + 1)), .int (xs (6 * n + 2)), .int (xs (6 * n + 3))]) (rest := []) X dL_1793 rfl k_L_191 cm_X_judge cv_X_judge (sh_0 hC.1.1) (Nat.le_of_ble_eq_true rfl) rfl rfl (Nat.le_of_ble_eq_true rfl) hX (by omega) (by omega) (by omega) rfl (fun r h1 hq => ?_)
  obtain ⟨ac2, az2, hac2, haz2, ⟨⟨v, rfl⟩, h761⟩, hM⟩ := hq
  change LR w p l e s m below meth c b 1796 (LV w b (6 * n)) [.int v] h1 (cells + ac) (slots + az)
  refine lr_aload (i := 2) X dL_1796 rfl rfl lv2 ?_
  refine lr_arg (k := 1) X dL_1797 rfl dL_1798 rfl dL_1799 rfl dL_1800 rfl dL_1801 rfl rfl (by omega) ?_
  refine lr_arg (k := 2) X dL_1802 rfl dL_1803 rfl dL_1804 rfl dL_1805 rfl dL_1806 rfl rfl (by omega) ?_
  refine lr_arg (k := 3) X dL_1807 rfl dL_1808 rfl dL_1809 rfl dL_1810 rfl dL_1811 rfl rfl (by omega) ?_
  refine lr_callv (M2 := mi_M_judge) (id := 761) (as := [.int (xs (6 * n + 1)), .int (xs (6 * n + 2)), .int (xs (6 * n + 3))]) (rest := [.int v]) X dL_1812 rfl k_L_194 cm_M_judge cv_M_judge h761 (Nat.le_of_ble_eq_true rfl) rfl rfl (Nat.le_of_ble_eq_true rfl) hM (by omega) (by omega) (by omega) rfl (fun r2 h2 hq2 => ?_)
  obtain ⟨rfl, hI2⟩ := hq2
  change LR w p l e s m below meth c b 1815 (LV w b (6 * n)) [.int v, .int v] h2 (cells + ac + ac2) (slots + az + az2)
  exact lr_same X dL_1815 rfl (kk h2 _ _ hI2 (by omega) (by omega))
theorem law_43 {w : WD} {p : Program} {l : Launch} {e : Env} {s : State} {m : MethodId} {below : List Frame} {meth : Method} {c : Code} {b L : Nat} {xs : Nat → Int32} : LCase w p l e s m below meth c b L xs 1820 := by
  intro X n h cells slots hi hn hI hc hs kk
  obtain ⟨I, R, Lg, sh, N, tp, nt, nk, nP, nF, nS, kA, fA, cA, gA, rfl, hC, hr⟩ := hI
  obtain ⟨ac, az, hac, haz, hX⟩ := s_days hC hr (by omega) (x1 := xs (6 * n + 1))
  refine lr_aload (i := 1) X dL_1820 rfl rfl lv1 ?_
  refine lr_arg (k := 1) X dL_1821 rfl dL_1822 rfl dL_1823 rfl dL_1824 rfl dL_1825 rfl rfl (by omega) ?_
  refine lr_callv (M2 := mi_X_days) (id := 0) (as := [.int (xs (6 * n + 1))]) (rest := []) X dL_1826 rfl k_L_195 cm_X_days cv_X_days (sh_0 hC.1.1) (Nat.le_of_ble_eq_true rfl) rfl rfl (Nat.le_of_ble_eq_true rfl) hX (by omega) (by omega) (by omega) rfl (fun r h1 hq => ?_)
  obtain ⟨ac2, az2, hac2, haz2, ⟨⟨v, rfl⟩, h761⟩, hM⟩ := hq
  change LR w p l e s m below meth c b 1829 (LV w b (6 * n)) [.int v] h1 (cells + ac) (slots + az)
  refine lr_aload (i := 2) X dL_1829 rfl rfl lv2 ?_
  refine lr_arg (k := 1) X dL_1830 rfl dL_1831 rfl dL_1832 rfl dL_1833 rfl dL_1834 rfl rfl (by omega) ?_
  refine lr_callv (M2 := mi_M_days) (id := 761) (as := [.int (xs (6 * n + 1))]) (rest := [.int v]) X dL_1835 rfl k_L_198 cm_M_days cv_M_days h761 (Nat.le_of_ble_eq_true rfl) rfl rfl (Nat.le_of_ble_eq_true rfl) hM (by omega) (by omega) (by omega) rfl (fun r2 h2 hq2 => ?_)
  obtain ⟨rfl, hI2⟩ := hq2
  change LR w p l e s m below meth c b 1838 (LV w b (6 * n)) [.int v, .int v] h2 (cells + ac + ac2) (slots + az + az2)
  exact lr_same X dL_1838 rfl (kk h2 _ _ hI2 (by omega) (by omega))
theorem law_44 {w : WD} {p : Program} {l : Launch} {e : Env} {s : State} {m : MethodId} {below : List Frame} {meth : Method} {c : Code} {b L : Nat} {xs : Nat → Int32} : LCase w p l e s m below meth c b L xs 1843 := by
  intro X n h cells slots hi hn hI hc hs kk
  obtain ⟨I, R, Lg, sh, N, tp, nt, nk, nP, nF, nS, kA, fA, cA, gA, rfl, hC, hr⟩ := hI
  obtain ⟨ac, az, hac, haz, hX⟩ := s_seed hC hr (by omega) (x1 := xs (6 * n + 1))
  refine lr_aload (i := 1) X dL_1843 rfl rfl lv1 ?_
  refine lr_arg (k := 1) X dL_1844 rfl dL_1845 rfl dL_1846 rfl dL_1847 rfl dL_1848 rfl rfl (by omega) ?_
  refine lr_callv (M2 := mi_X_seed) (id := 0) (as := [.int (xs (6 * n + 1))]) (rest := []) X dL_1849 rfl k_L_199 cm_X_seed cv_X_seed (sh_0 hC.1.1) (Nat.le_of_ble_eq_true rfl) rfl rfl (Nat.le_of_ble_eq_true rfl) hX (by omega) (by omega) (by omega) rfl (fun r h1 hq => ?_)
  obtain ⟨ac2, az2, hac2, haz2, ⟨⟨v, rfl⟩, h761⟩, hM⟩ := hq
  change LR w p l e s m below meth c b 1852 (LV w b (6 * n)) [.int v] h1 (cells + ac) (slots + az)
  refine lr_aload (i := 2) X dL_1852 rfl rfl lv2 ?_
  refine lr_arg (k := 1) X dL_1853 rfl dL_1854 rfl dL_1855 rfl dL_1856 rfl dL_1857 rfl rfl (by omega) ?_
  refine lr_callv (M2 := mi_M_seed) (id := 761) (as := [.int (xs (6 * n + 1))]) (rest := [.int v]) X dL_1858 rfl k_L_202 cm_M_seed cv_M_seed h761 (Nat.le_of_ble_eq_true rfl) rfl rfl (Nat.le_of_ble_eq_true rfl) hM (by omega) (by omega) (by omega) rfl (fun r2 h2 hq2 => ?_)
  obtain ⟨rfl, hI2⟩ := hq2
  change LR w p l e s m below meth c b 1861 (LV w b (6 * n)) [.int v, .int v] h2 (cells + ac + ac2) (slots + az + az2)
  exact lr_same X dL_1861 rfl (kk h2 _ _ hI2 (by omega) (by omega))
theorem law_45 {w : WD} {p : Program} {l : Launch} {e : Env} {s : State} {m : MethodId} {below : List Frame} {meth : Method} {c : Code} {b L : Nat} {xs : Nat → Int32} : LCase w p l e s m below meth c b L xs 1866 := by
  intro X n h cells slots hi hn hI hc hs kk
  obtain ⟨I, R, Lg, sh, N, tp, nt, nk, nP, nF, nS, kA, fA, cA, gA, rfl, hC, hr⟩ := hI
  obtain ⟨ac, az, hac, haz, hX⟩ := s_image hC hr (by omega)
  refine lr_aload (i := 1) X dL_1866 rfl rfl lv1 ?_
  refine lr_callv (M2 := mi_X_image) (id := 0) (as := []) (rest := []) X dL_1867 rfl k_L_203 cm_X_image cv_X_image (sh_0 hC.1.1) (Nat.le_of_ble_eq_true rfl) rfl rfl (Nat.le_of_ble_eq_true rfl) hX (by omega) (by omega) (by omega) rfl (fun r h1 hq => ?_)
  obtain ⟨ac2, az2, hac2, haz2, ⟨⟨v, rfl⟩, h761⟩, hM⟩ := hq
  change LR w p l e s m below meth c b 1870 (LV w b (6 * n)) [.int v] h1 (cells + ac) (slots + az)
  refine lr_aload (i := 2) X dL_1870 rfl rfl lv2 ?_
  refine lr_callv (M2 := mi_M_image) (id := 761) (as := []) (rest := [.int v]) X dL_1871 rfl k_L_206 cm_M_image cv_M_image h761 (Nat.le_of_ble_eq_true rfl) rfl rfl (Nat.le_of_ble_eq_true rfl) hM (by omega) (by omega) (by omega) rfl (fun r2 h2 hq2 => ?_)
  obtain ⟨rfl, hI2⟩ := hq2
  change LR w p l e s m below meth c b 1874 (LV w b (6 * n)) [.int v, .int v] h2 (cells + ac + ac2) (slots + az + az2)
  exact lr_same X dL_1874 rfl (kk h2 _ _ hI2 (by omega) (by omega))
theorem law_46 {w : WD} {p : Program} {l : Launch} {e : Env} {s : State} {m : MethodId} {below : List Frame} {meth : Method} {c : Code} {b L : Nat} {xs : Nat → Int32} : LCase w p l e s m below meth c b L xs 1879 := by
  intro X n h cells slots hi hn hI hc hs kk
  obtain ⟨I, R, Lg, sh, N, tp, nt, nk, nP, nF, nS, kA, fA, cA, gA, rfl, hC, hr⟩ := hI
  obtain ⟨ac, az, hac, haz, hX⟩ := s_back hC hr (by omega)
  refine lr_aload (i := 1) X dL_1879 rfl rfl lv1 ?_
  refine lr_callv (M2 := mi_X_back) (id := 0) (as := []) (rest := []) X dL_1880 rfl k_L_207 cm_X_back cv_X_back (sh_0 hC.1.1) (Nat.le_of_ble_eq_true rfl) rfl rfl (Nat.le_of_ble_eq_true rfl) hX (by omega) (by omega) (by omega) rfl (fun r h1 hq => ?_)
  obtain ⟨ac2, az2, hac2, haz2, ⟨⟨v, rfl⟩, h761⟩, hM⟩ := hq
  change LR w p l e s m below meth c b 1883 (LV w b (6 * n)) [.int v] h1 (cells + ac) (slots + az)
  refine lr_aload (i := 2) X dL_1883 rfl rfl lv2 ?_
  refine lr_callv (M2 := mi_M_back) (id := 761) (as := []) (rest := [.int v]) X dL_1884 rfl k_L_210 cm_M_back cv_M_back h761 (Nat.le_of_ble_eq_true rfl) rfl rfl (Nat.le_of_ble_eq_true rfl) hM (by omega) (by omega) (by omega) rfl (fun r2 h2 hq2 => ?_)
  obtain ⟨rfl, hI2⟩ := hq2
  change LR w p l e s m below meth c b 1887 (LV w b (6 * n)) [.int v, .int v] h2 (cells + ac + ac2) (slots + az + az2)
  exact lr_same X dL_1887 rfl (kk h2 _ _ hI2 (by omega) (by omega))
theorem law_47 {w : WD} {p : Program} {l : Launch} {e : Env} {s : State} {m : MethodId} {below : List Frame} {meth : Method} {c : Code} {b L : Nat} {xs : Nat → Int32} : LCase w p l e s m below meth c b L xs 1892 := by
  intro X n h cells slots hi hn hI hc hs kk
  obtain ⟨I, R, Lg, sh, N, tp, nt, nk, nP, nF, nS, kA, fA, cA, gA, rfl, hC, hr⟩ := hI
  obtain ⟨ac, az, hac, haz, hX⟩ := s_status hC hr (by omega) (x1 := xs (6 * n + 1))
  refine lr_aload (i := 1) X dL_1892 rfl rfl lv1 ?_
  refine lr_arg (k := 1) X dL_1893 rfl dL_1894 rfl dL_1895 rfl dL_1896 rfl dL_1897 rfl rfl (by omega) ?_
  refine lr_callv (M2 := mi_X_status) (id := 0) (as := [.int (xs (6 * n + 1))]) (rest := []) X dL_1898 rfl k_L_211 cm_X_status cv_X_status (sh_0 hC.1.1) (Nat.le_of_ble_eq_true rfl) rfl rfl (Nat.le_of_ble_eq_true rfl) hX (by omega) (by omega) (by omega) rfl (fun r h1 hq => ?_)
  obtain ⟨ac2, az2, hac2, haz2, ⟨⟨v, rfl⟩, h761⟩, hM⟩ := hq
  change LR w p l e s m below meth c b 1901 (LV w b (6 * n)) [.int v] h1 (cells + ac) (slots + az)
  refine lr_aload (i := 2) X dL_1901 rfl rfl lv2 ?_
  refine lr_arg (k := 1) X dL_1902 rfl dL_1903 rfl dL_1904 rfl dL_1905 rfl dL_1906 rfl rfl (by omega) ?_
  refine lr_callv (M2 := mi_M_status) (id := 761) (as := [.int (xs (6 * n + 1))]) (rest := [.int v]) X dL_1907 rfl k_L_214 cm_M_status cv_M_status h761 (Nat.le_of_ble_eq_true rfl) rfl rfl (Nat.le_of_ble_eq_true rfl) hM (by omega) (by omega) (by omega) rfl (fun r2 h2 hq2 => ?_)
  obtain ⟨rfl, hI2⟩ := hq2
  change LR w p l e s m below meth c b 1910 (LV w b (6 * n)) [.int v, .int v] h2 (cells + ac + ac2) (slots + az + az2)
  exact lr_same X dL_1910 rfl (kk h2 _ _ hI2 (by omega) (by omega))
