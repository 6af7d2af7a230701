/-! THE LAW: its instructions, 4 -/
theorem dL_1504 : decode code 1504 = .ok (.iaload, 1) := by decide +kernel
theorem dL_1505 : decode code 1505 = .ok (.invokevirtual 158, 3) := by decide +kernel
theorem dL_1508 : decode code 1508 = .ok (.if_icmp .eq 407, 3) := by decide +kernel
theorem dL_1511 : decode code 1511 = .ok (.iconst 0, 1) := by decide +kernel
theorem dL_1512 : decode code 1512 = .ok (.ireturn, 1) := by decide +kernel
theorem dL_1513 : decode code 1513 = .ok (.aload_n 1, 1) := by decide +kernel
theorem dL_1514 : decode code 1514 = .ok (.aload_n 0, 1) := by decide +kernel
theorem dL_1515 : decode code 1515 = .ok (.iload_n 3, 1) := by decide +kernel
theorem dL_1516 : decode code 1516 = .ok (.iconst 1, 1) := by decide +kernel
theorem dL_1517 : decode code 1517 = .ok (.iadd, 1) := by decide +kernel
theorem dL_1518 : decode code 1518 = .ok (.iaload, 1) := by decide +kernel
theorem dL_1519 : decode code 1519 = .ok (.aload_n 0, 1) := by decide +kernel
theorem dL_1520 : decode code 1520 = .ok (.iload_n 3, 1) := by decide +kernel
theorem dL_1521 : decode code 1521 = .ok (.iconst 2, 1) := by decide +kernel
theorem dL_1522 : decode code 1522 = .ok (.iadd, 1) := by decide +kernel
theorem dL_1523 : decode code 1523 = .ok (.iaload, 1) := by decide +kernel
theorem dL_1524 : decode code 1524 = .ok (.aload_n 0, 1) := by decide +kernel
theorem dL_1525 : decode code 1525 = .ok (.iload_n 3, 1) := by decide +kernel
theorem dL_1526 : decode code 1526 = .ok (.iconst 3, 1) := by decide +kernel
theorem dL_1527 : decode code 1527 = .ok (.iadd, 1) := by decide +kernel
theorem dL_1528 : decode code 1528 = .ok (.iaload, 1) := by decide +kernel
theorem dL_1529 : decode code 1529 = .ok (.aload_n 0, 1) := by decide +kernel
theorem dL_1530 : decode code 1530 = .ok (.iload_n 3, 1) := by decide +kernel
theorem dL_1531 : decode code 1531 = .ok (.iconst 4, 1) := by decide +kernel
theorem dL_1532 : decode code 1532 = .ok (.iadd, 1) := by decide +kernel
theorem dL_1533 : decode code 1533 = .ok (.iaload, 1) := by decide +kernel
theorem dL_1534 : decode code 1534 = .ok (.invokevirtual 159, 3) := by decide +kernel
theorem dL_1537 : decode code 1537 = .ok (.aload_n 2, 1) := by decide +kernel
theorem dL_1538 : decode code 1538 = .ok (.aload_n 0, 1) := by decide +kernel
theorem dL_1539 : decode code 1539 = .ok (.iload_n 3, 1) := by decide +kernel
theorem dL_1540 : decode code 1540 = .ok (.iconst 1, 1) := by decide +kernel
theorem dL_1541 : decode code 1541 = .ok (.iadd, 1) := by decide +kernel
theorem dL_1542 : decode code 1542 = .ok (.iaload, 1) := by decide +kernel
theorem dL_1543 : decode code 1543 = .ok (.aload_n 0, 1) := by decide +kernel
theorem dL_1544 : decode code 1544 = .ok (.iload_n 3, 1) := by decide +kernel
theorem dL_1545 : decode code 1545 = .ok (.iconst 2, 1) := by decide +kernel
theorem dL_1546 : decode code 1546 = .ok (.iadd, 1) := by decide +kernel
theorem dL_1547 : decode code 1547 = .ok (.iaload, 1) := by decide +kernel
theorem dL_1548 : decode code 1548 = .ok (.aload_n 0, 1) := by decide +kernel
theorem dL_1549 : decode code 1549 = .ok (.iload_n 3, 1) := by decide +kernel
theorem dL_1550 : decode code 1550 = .ok (.iconst 3, 1) := by decide +kernel
theorem dL_1551 : decode code 1551 = .ok (.iadd, 1) := by decide +kernel
theorem dL_1552 : decode code 1552 = .ok (.iaload, 1) := by decide +kernel
theorem dL_1553 : decode code 1553 = .ok (.aload_n 0, 1) := by decide +kernel
theorem dL_1554 : decode code 1554 = .ok (.iload_n 3, 1) := by decide +kernel
theorem dL_1555 : decode code 1555 = .ok (.iconst 4, 1) := by decide +kernel
theorem dL_1556 : decode code 1556 = .ok (.iadd, 1) := by decide +kernel
theorem dL_1557 : decode code 1557 = .ok (.iaload, 1) := by decide +kernel
theorem dL_1558 : decode code 1558 = .ok (.invokevirtual 162, 3) := by decide +kernel
theorem dL_1561 : decode code 1561 = .ok (.if_icmp .eq 354, 3) := by decide +kernel
theorem dL_1564 : decode code 1564 = .ok (.iconst 0, 1) := by decide +kernel
theorem dL_1565 : decode code 1565 = .ok (.ireturn, 1) := by decide +kernel
theorem dL_1566 : decode code 1566 = .ok (.aload_n 1, 1) := by decide +kernel
theorem dL_1567 : decode code 1567 = .ok (.aload_n 0, 1) := by decide +kernel
theorem dL_1568 : decode code 1568 = .ok (.iload_n 3, 1) := by decide +kernel
theorem dL_1569 : decode code 1569 = .ok (.iconst 1, 1) := by decide +kernel
theorem dL_1570 : decode code 1570 = .ok (.iadd, 1) := by decide +kernel
theorem dL_1571 : decode code 1571 = .ok (.iaload, 1) := by decide +kernel
theorem dL_1572 : decode code 1572 = .ok (.invokevirtual 163, 3) := by decide +kernel
theorem dL_1575 : decode code 1575 = .ok (.aload_n 2, 1) := by decide +kernel
theorem dL_1576 : decode code 1576 = .ok (.aload_n 0, 1) := by decide +kernel
theorem dL_1577 : decode code 1577 = .ok (.iload_n 3, 1) := by decide +kernel
theorem dL_1578 : decode code 1578 = .ok (.iconst 1, 1) := by decide +kernel
theorem dL_1579 : decode code 1579 = .ok (.iadd, 1) := by decide +kernel
theorem dL_1580 : decode code 1580 = .ok (.iaload, 1) := by decide +kernel
theorem dL_1581 : decode code 1581 = .ok (.invokevirtual 166, 3) := by decide +kernel
theorem dL_1584 : decode code 1584 = .ok (.if_icmp .eq 331, 3) := by decide +kernel
theorem dL_1587 : decode code 1587 = .ok (.iconst 0, 1) := by decide +kernel
theorem dL_1588 : decode code 1588 = .ok (.ireturn, 1) := by decide +kernel
theorem dL_1589 : decode code 1589 = .ok (.aload_n 1, 1) := by decide +kernel
theorem dL_1590 : decode code 1590 = .ok (.aload_n 0, 1) := by decide +kernel
theorem dL_1591 : decode code 1591 = .ok (.iload_n 3, 1) := by decide +kernel
theorem dL_1592 : decode code 1592 = .ok (.iconst 1, 1) := by decide +kernel
theorem dL_1593 : decode code 1593 = .ok (.iadd, 1) := by decide +kernel
theorem dL_1594 : decode code 1594 = .ok (.iaload, 1) := by decide +kernel
theorem dL_1595 : decode code 1595 = .ok (.aload_n 0, 1) := by decide +kernel
theorem dL_1596 : decode code 1596 = .ok (.iload_n 3, 1) := by decide +kernel
theorem dL_1597 : decode code 1597 = .ok (.iconst 2, 1) := by decide +kernel
theorem dL_1598 : decode code 1598 = .ok (.iadd, 1) := by decide +kernel
theorem dL_1599 : decode code 1599 = .ok (.iaload, 1) := by decide +kernel
theorem dL_1600 : decode code 1600 = .ok (.invokevirtual 167, 3) := by decide +kernel
theorem dL_1603 : decode code 1603 = .ok (.aload_n 2, 1) := by decide +kernel
theorem dL_1604 : decode code 1604 = .ok (.aload_n 0, 1) := by decide +kernel
theorem dL_1605 : decode code 1605 = .ok (.iload_n 3, 1) := by decide +kernel
theorem dL_1606 : decode code 1606 = .ok (.iconst 1, 1) := by decide +kernel
theorem dL_1607 : decode code 1607 = .ok (.iadd, 1) := by decide +kernel
theorem dL_1608 : decode code 1608 = .ok (.iaload, 1) := by decide +kernel
theorem dL_1609 : decode code 1609 = .ok (.aload_n 0, 1) := by decide +kernel
theorem dL_1610 : decode code 1610 = .ok (.iload_n 3, 1) := by decide +kernel
theorem dL_1611 : decode code 1611 = .ok (.iconst 2, 1) := by decide +kernel
theorem dL_1612 : decode code 1612 = .ok (.iadd, 1) := by decide +kernel
theorem dL_1613 : decode code 1613 = .ok (.iaload, 1) := by decide +kernel
theorem dL_1614 : decode code 1614 = .ok (.invokevirtual 170, 3) := by decide +kernel
theorem dL_1617 : decode code 1617 = .ok (.if_icmp .eq 298, 3) := by decide +kernel
theorem dL_1620 : decode code 1620 = .ok (.iconst 0, 1) := by decide +kernel
theorem dL_1621 : decode code 1621 = .ok (.ireturn, 1) := by decide +kernel
theorem dL_1622 : decode code 1622 = .ok (.aload_n 1, 1) := by decide +kernel
theorem dL_1623 : decode code 1623 = .ok (.aload_n 0, 1) := by decide +kernel
theorem dL_1624 : decode code 1624 = .ok (.iload_n 3, 1) := by decide +kernel
theorem dL_1625 : decode code 1625 = .ok (.iconst 1, 1) := by decide +kernel
theorem dL_1626 : decode code 1626 = .ok (.iadd, 1) := by decide +kernel
theorem dL_1627 : decode code 1627 = .ok (.iaload, 1) := by decide +kernel
theorem dL_1628 : decode code 1628 = .ok (.invokevirtual 171, 3) := by decide +kernel
theorem dL_1631 : decode code 1631 = .ok (.aload_n 2, 1) := by decide +kernel
theorem dL_1632 : decode code 1632 = .ok (.aload_n 0, 1) := by decide +kernel
theorem dL_1633 : decode code 1633 = .ok (.iload_n 3, 1) := by decide +kernel
theorem dL_1634 : decode code 1634 = .ok (.iconst 1, 1) := by decide +kernel
theorem dL_1635 : decode code 1635 = .ok (.iadd, 1) := by decide +kernel
theorem dL_1636 : decode code 1636 = .ok (.iaload, 1) := by decide +kernel
theorem dL_1637 : decode code 1637 = .ok (.invokevirtual 174, 3) := by decide +kernel
theorem dL_1640 : decode code 1640 = .ok (.if_icmp .eq 275, 3) := by decide +kernel
theorem dL_1643 : decode code 1643 = .ok (.iconst 0, 1) := by decide +kernel
theorem dL_1644 : decode code 1644 = .ok (.ireturn, 1) := by decide +kernel
theorem dL_1645 : decode code 1645 = .ok (.aload_n 1, 1) := by decide +kernel
theorem dL_1646 : decode code 1646 = .ok (.aload_n 0, 1) := by decide +kernel
theorem dL_1647 : decode code 1647 = .ok (.iload_n 3, 1) := by decide +kernel
theorem dL_1648 : decode code 1648 = .ok (.iconst 1, 1) := by decide +kernel
theorem dL_1649 : decode code 1649 = .ok (.iadd, 1) := by decide +kernel
theorem dL_1650 : decode code 1650 = .ok (.iaload, 1) := by decide +kernel
theorem dL_1651 : decode code 1651 = .ok (.aload_n 0, 1) := by decide +kernel
theorem dL_1652 : decode code 1652 = .ok (.iload_n 3, 1) := by decide +kernel
theorem dL_1653 : decode code 1653 = .ok (.iconst 2, 1) := by decide +kernel
theorem dL_1654 : decode code 1654 = .ok (.iadd, 1) := by decide +kernel
theorem dL_1655 : decode code 1655 = .ok (.iaload, 1) := by decide +kernel
theorem dL_1656 : decode code 1656 = .ok (.invokevirtual 175, 3) := by decide +kernel
theorem dL_1659 : decode code 1659 = .ok (.aload_n 2, 1) := by decide +kernel
theorem dL_1660 : decode code 1660 = .ok (.aload_n 0, 1) := by decide +kernel
theorem dL_1661 : decode code 1661 = .ok (.iload_n 3, 1) := by decide +kernel
theorem dL_1662 : decode code 1662 = .ok (.iconst 1, 1) := by decide +kernel
theorem dL_1663 : decode code 1663 = .ok (.iadd, 1) := by decide +kernel
theorem dL_1664 : decode code 1664 = .ok (.iaload, 1) := by decide +kernel
theorem dL_1665 : decode code 1665 = .ok (.aload_n 0, 1) := by decide +kernel
theorem dL_1666 : decode code 1666 = .ok (.iload_n 3, 1) := by decide +kernel
theorem dL_1667 : decode code 1667 = .ok (.iconst 2, 1) := by decide +kernel
theorem dL_1668 : decode code 1668 = .ok (.iadd, 1) := by decide +kernel
theorem dL_1669 : decode code 1669 = .ok (.iaload, 1) := by decide +kernel
theorem dL_1670 : decode code 1670 = .ok (.invokevirtual 178, 3) := by decide +kernel
theorem dL_1673 : decode code 1673 = .ok (.if_icmp .eq 242, 3) := by decide +kernel
theorem dL_1676 : decode code 1676 = .ok (.iconst 0, 1) := by decide +kernel
theorem dL_1677 : decode code 1677 = .ok (.ireturn, 1) := by decide +kernel
theorem dL_1678 : decode code 1678 = .ok (.aload_n 1, 1) := by decide +kernel
theorem dL_1679 : decode code 1679 = .ok (.aload_n 0, 1) := by decide +kernel
theorem dL_1680 : decode code 1680 = .ok (.iload_n 3, 1) := by decide +kernel
theorem dL_1681 : decode code 1681 = .ok (.iconst 1, 1) := by decide +kernel
theorem dL_1682 : decode code 1682 = .ok (.iadd, 1) := by decide +kernel
theorem dL_1683 : decode code 1683 = .ok (.iaload, 1) := by decide +kernel
theorem dL_1684 : decode code 1684 = .ok (.invokevirtual 179, 3) := by decide +kernel
theorem dL_1687 : decode code 1687 = .ok (.aload_n 2, 1) := by decide +kernel
theorem dL_1688 : decode code 1688 = .ok (.aload_n 0, 1) := by decide +kernel
theorem dL_1689 : decode code 1689 = .ok (.iload_n 3, 1) := by decide +kernel
theorem dL_1690 : decode code 1690 = .ok (.iconst 1, 1) := by decide +kernel
theorem dL_1691 : decode code 1691 = .ok (.iadd, 1) := by decide +kernel
theorem dL_1692 : decode code 1692 = .ok (.iaload, 1) := by decide +kernel
theorem dL_1693 : decode code 1693 = .ok (.invokevirtual 182, 3) := by decide +kernel
theorem dL_1696 : decode code 1696 = .ok (.if_icmp .eq 219, 3) := by decide +kernel
theorem dL_1699 : decode code 1699 = .ok (.iconst 0, 1) := by decide +kernel
theorem dL_1700 : decode code 1700 = .ok (.ireturn, 1) := by decide +kernel
theorem dL_1701 : decode code 1701 = .ok (.aload_n 1, 1) := by decide +kernel
theorem dL_1702 : decode code 1702 = .ok (.aload_n 0, 1) := by decide +kernel
theorem dL_1703 : decode code 1703 = .ok (.iload_n 3, 1) := by decide +kernel
theorem dL_1704 : decode code 1704 = .ok (.iconst 1, 1) := by decide +kernel
theorem dL_1705 : decode code 1705 = .ok (.iadd, 1) := by decide +kernel
theorem dL_1706 : decode code 1706 = .ok (.iaload, 1) := by decide +kernel
theorem dL_1707 : decode code 1707 = .ok (.aload_n 0, 1) := by decide +kernel
theorem dL_1708 : decode code 1708 = .ok (.iload_n 3, 1) := by decide +kernel
theorem dL_1709 : decode code 1709 = .ok (.iconst 2, 1) := by decide +kernel
theorem dL_1710 : decode code 1710 = .ok (.iadd, 1) := by decide +kernel
theorem dL_1711 : decode code 1711 = .ok (.iaload, 1) := by decide +kernel
theorem dL_1712 : decode code 1712 = .ok (.aload_n 0, 1) := by decide +kernel
theorem dL_1713 : decode code 1713 = .ok (.iload_n 3, 1) := by decide +kernel
theorem dL_1714 : decode code 1714 = .ok (.iconst 3, 1) := by decide +kernel
theorem dL_1715 : decode code 1715 = .ok (.iadd, 1) := by decide +kernel
theorem dL_1716 : decode code 1716 = .ok (.iaload, 1) := by decide +kernel
theorem dL_1717 : decode code 1717 = .ok (.invokevirtual 183, 3) := by decide +kernel
theorem dL_1720 : decode code 1720 = .ok (.aload_n 2, 1) := by decide +kernel
theorem dL_1721 : decode code 1721 = .ok (.aload_n 0, 1) := by decide +kernel
theorem dL_1722 : decode code 1722 = .ok (.iload_n 3, 1) := by decide +kernel
theorem dL_1723 : decode code 1723 = .ok (.iconst 1, 1) := by decide +kernel
theorem dL_1724 : decode code 1724 = .ok (.iadd, 1) := by decide +kernel
theorem dL_1725 : decode code 1725 = .ok (.iaload, 1) := by decide +kernel
theorem dL_1726 : decode code 1726 = .ok (.aload_n 0, 1) := by decide +kernel
theorem dL_1727 : decode code 1727 = .ok (.iload_n 3, 1) := by decide +kernel
theorem dL_1728 : decode code 1728 = .ok (.iconst 2, 1) := by decide +kernel
theorem dL_1729 : decode code 1729 = .ok (.iadd, 1) := by decide +kernel
theorem dL_1730 : decode code 1730 = .ok (.iaload, 1) := by decide +kernel
theorem dL_1731 : decode code 1731 = .ok (.aload_n 0, 1) := by decide +kernel
theorem dL_1732 : decode code 1732 = .ok (.iload_n 3, 1) := by decide +kernel
theorem dL_1733 : decode code 1733 = .ok (.iconst 3, 1) := by decide +kernel
theorem dL_1734 : decode code 1734 = .ok (.iadd, 1) := by decide +kernel
theorem dL_1735 : decode code 1735 = .ok (.iaload, 1) := by decide +kernel
theorem dL_1736 : decode code 1736 = .ok (.invokevirtual 186, 3) := by decide +kernel
theorem dL_1739 : decode code 1739 = .ok (.if_icmp .eq 176, 3) := by decide +kernel
theorem dL_1742 : decode code 1742 = .ok (.iconst 0, 1) := by decide +kernel
theorem dL_1743 : decode code 1743 = .ok (.ireturn, 1) := by decide +kernel
theorem dL_1744 : decode code 1744 = .ok (.aload_n 1, 1) := by decide +kernel
theorem dL_1745 : decode code 1745 = .ok (.aload_n 0, 1) := by decide +kernel
theorem dL_1746 : decode code 1746 = .ok (.iload_n 3, 1) := by decide +kernel
theorem dL_1747 : decode code 1747 = .ok (.iconst 1, 1) := by decide +kernel
theorem dL_1748 : decode code 1748 = .ok (.iadd, 1) := by decide +kernel
theorem dL_1749 : decode code 1749 = .ok (.iaload, 1) := by decide +kernel
theorem dL_1750 : decode code 1750 = .ok (.aload_n 0, 1) := by decide +kernel
theorem dL_1751 : decode code 1751 = .ok (.iload_n 3, 1) := by decide +kernel
theorem dL_1752 : decode code 1752 = .ok (.iconst 2, 1) := by decide +kernel
theorem dL_1753 : decode code 1753 = .ok (.iadd, 1) := by decide +kernel
theorem dL_1754 : decode code 1754 = .ok (.iaload, 1) := by decide +kernel
theorem dL_1755 : decode code 1755 = .ok (.invokevirtual 187, 3) := by decide +kernel
theorem dL_1758 : decode code 1758 = .ok (.aload_n 2, 1) := by decide +kernel
theorem dL_1759 : decode code 1759 = .ok (.aload_n 0, 1) := by decide +kernel
theorem dL_1760 : decode code 1760 = .ok (.iload_n 3, 1) := by decide +kernel
theorem dL_1761 : decode code 1761 = .ok (.iconst 1, 1) := by decide +kernel
theorem dL_1762 : decode code 1762 = .ok (.iadd, 1) := by decide +kernel
theorem dL_1763 : decode code 1763 = .ok (.iaload, 1) := by decide +kernel
theorem dL_1764 : decode code 1764 = .ok (.aload_n 0, 1) := by decide +kernel
theorem dL_1765 : decode code 1765 = .ok (.iload_n 3, 1) := by decide +kernel
theorem dL_1766 : decode code 1766 = .ok (.iconst 2, 1) := by decide +kernel
theorem dL_1767 : decode code 1767 = .ok (.iadd, 1) := by decide +kernel
theorem dL_1768 : decode code 1768 = .ok (.iaload, 1) := by decide +kernel
theorem dL_1769 : decode code 1769 = .ok (.invokevirtual 190, 3) := by decide +kernel
theorem dL_1772 : decode code 1772 = .ok (.if_icmp .eq 143, 3) := by decide +kernel
theorem dL_1775 : decode code 1775 = .ok (.iconst 0, 1) := by decide +kernel
theorem dL_1776 : decode code 1776 = .ok (.ireturn, 1) := by decide +kernel
theorem dL_1777 : decode code 1777 = .ok (.aload_n 1, 1) := by decide +kernel
theorem dL_1778 : decode code 1778 = .ok (.aload_n 0, 1) := by decide +kernel
theorem dL_1779 : decode code 1779 = .ok (.iload_n 3, 1) := by decide +kernel
theorem dL_1780 : decode code 1780 = .ok (.iconst 1, 1) := by decide +kernel
theorem dL_1781 : decode code 1781 = .ok (.iadd, 1) := by decide +kernel
theorem dL_1782 : decode code 1782 = .ok (.iaload, 1) := by decide +kernel
theorem dL_1783 : decode code 1783 = .ok (.aload_n 0, 1) := by decide +kernel
theorem dL_1784 : decode code 1784 = .ok (.iload_n 3, 1) := by decide +kernel
theorem dL_1785 : decode code 1785 = .ok (.iconst 2, 1) := by decide +kernel
theorem dL_1786 : decode code 1786 = .ok (.iadd, 1) := by decide +kernel
theorem dL_1787 : decode code 1787 = .ok (.iaload, 1) := by decide +kernel
theorem dL_1788 : decode code 1788 = .ok (.aload_n 0, 1) := by decide +kernel
theorem dL_1789 : decode code 1789 = .ok (.iload_n 3, 1) := by decide +kernel
theorem dL_1790 : decode code 1790 = .ok (.iconst 3, 1) := by decide +kernel
theorem dL_1791 : decode code 1791 = .ok (.iadd, 1) := by decide +kernel
theorem dL_1792 : decode code 1792 = .ok (.iaload, 1) := by decide +kernel
theorem dL_1793 : decode code 1793 = .ok (.invokevirtual 191, 3) := by decide +kernel
theorem dL_1796 : decode code 1796 = .ok (.aload_n 2, 1) := by decide +kernel
theorem dL_1797 : decode code 1797 = .ok (.aload_n 0, 1) := by decide +kernel
theorem dL_1798 : decode code 1798 = .ok (.iload_n 3, 1) := by decide +kernel
theorem dL_1799 : decode code 1799 = .ok (.iconst 1, 1) := by decide +kernel
theorem dL_1800 : decode code 1800 = .ok (.iadd, 1) := by decide +kernel
theorem dL_1801 : decode code 1801 = .ok (.iaload, 1) := by decide +kernel
theorem dL_1802 : decode code 1802 = .ok (.aload_n 0, 1) := by decide +kernel
theorem dL_1803 : decode code 1803 = .ok (.iload_n 3, 1) := by decide +kernel
theorem dL_1804 : decode code 1804 = .ok (.iconst 2, 1) := by decide +kernel
theorem dL_1805 : decode code 1805 = .ok (.iadd, 1) := by decide +kernel
theorem dL_1806 : decode code 1806 = .ok (.iaload, 1) := by decide +kernel
theorem dL_1807 : decode code 1807 = .ok (.aload_n 0, 1) := by decide +kernel
theorem dL_1808 : decode code 1808 = .ok (.iload_n 3, 1) := by decide +kernel
theorem dL_1809 : decode code 1809 = .ok (.iconst 3, 1) := by decide +kernel
theorem dL_1810 : decode code 1810 = .ok (.iadd, 1) := by decide +kernel
theorem dL_1811 : decode code 1811 = .ok (.iaload, 1) := by decide +kernel
theorem dL_1812 : decode code 1812 = .ok (.invokevirtual 194, 3) := by decide +kernel
theorem dL_1815 : decode code 1815 = .ok (.if_icmp .eq 100, 3) := by decide +kernel
theorem dL_1818 : decode code 1818 = .ok (.iconst 0, 1) := by decide +kernel
theorem dL_1819 : decode code 1819 = .ok (.ireturn, 1) := by decide +kernel
theorem dL_1820 : decode code 1820 = .ok (.aload_n 1, 1) := by decide +kernel
theorem dL_1821 : decode code 1821 = .ok (.aload_n 0, 1) := by decide +kernel
theorem dL_1822 : decode code 1822 = .ok (.iload_n 3, 1) := by decide +kernel
theorem dL_1823 : decode code 1823 = .ok (.iconst 1, 1) := by decide +kernel
theorem dL_1824 : decode code 1824 = .ok (.iadd, 1) := by decide +kernel
theorem dL_1825 : decode code 1825 = .ok (.iaload, 1) := by decide +kernel
theorem dL_1826 : decode code 1826 = .ok (.invokevirtual 195, 3) := by decide +kernel
theorem dL_1829 : decode code 1829 = .ok (.aload_n 2, 1) := by decide +kernel
theorem dL_1830 : decode code 1830 = .ok (.aload_n 0, 1) := by decide +kernel
theorem dL_1831 : decode code 1831 = .ok (.iload_n 3, 1) := by decide +kernel
theorem dL_1832 : decode code 1832 = .ok (.iconst 1, 1) := by decide +kernel
theorem dL_1833 : decode code 1833 = .ok (.iadd, 1) := by decide +kernel
theorem dL_1834 : decode code 1834 = .ok (.iaload, 1) := by decide +kernel
theorem dL_1835 : decode code 1835 = .ok (.invokevirtual 198, 3) := by decide +kernel
theorem dL_1838 : decode code 1838 = .ok (.if_icmp .eq 77, 3) := by decide +kernel
theorem dL_1841 : decode code 1841 = .ok (.iconst 0, 1) := by decide +kernel
theorem dL_1842 : decode code 1842 = .ok (.ireturn, 1) := by decide +kernel
theorem dL_1843 : decode code 1843 = .ok (.aload_n 1, 1) := by decide +kernel
theorem dL_1844 : decode code 1844 = .ok (.aload_n 0, 1) := by decide +kernel
theorem dL_1845 : decode code 1845 = .ok (.iload_n 3, 1) := by decide +kernel
theorem dL_1846 : decode code 1846 = .ok (.iconst 1, 1) := by decide +kernel
theorem dL_1847 : decode code 1847 = .ok (.iadd, 1) := by decide +kernel
theorem dL_1848 : decode code 1848 = .ok (.iaload, 1) := by decide +kernel
theorem dL_1849 : decode code 1849 = .ok (.invokevirtual 199, 3) := by decide +kernel
theorem dL_1852 : decode code 1852 = .ok (.aload_n 2, 1) := by decide +kernel
theorem dL_1853 : decode code 1853 = .ok (.aload_n 0, 1) := by decide +kernel
theorem dL_1854 : decode code 1854 = .ok (.iload_n 3, 1) := by decide +kernel
theorem dL_1855 : decode code 1855 = .ok (.iconst 1, 1) := by decide +kernel
theorem dL_1856 : decode code 1856 = .ok (.iadd, 1) := by decide +kernel
theorem dL_1857 : decode code 1857 = .ok (.iaload, 1) := by decide +kernel
theorem dL_1858 : decode code 1858 = .ok (.invokevirtual 202, 3) := by decide +kernel
theorem dL_1861 : decode code 1861 = .ok (.if_icmp .eq 54, 3) := by decide +kernel
theorem dL_1864 : decode code 1864 = .ok (.iconst 0, 1) := by decide +kernel
theorem dL_1865 : decode code 1865 = .ok (.ireturn, 1) := by decide +kernel
theorem dL_1866 : decode code 1866 = .ok (.aload_n 1, 1) := by decide +kernel
theorem dL_1867 : decode code 1867 = .ok (.invokevirtual 203, 3) := by decide +kernel
theorem dL_1870 : decode code 1870 = .ok (.aload_n 2, 1) := by decide +kernel
theorem dL_1871 : decode code 1871 = .ok (.invokevirtual 206, 3) := by decide +kernel
theorem dL_1874 : decode code 1874 = .ok (.if_icmp .eq 41, 3) := by decide +kernel
theorem dL_1877 : decode code 1877 = .ok (.iconst 0, 1) := by decide +kernel
theorem dL_1878 : decode code 1878 = .ok (.ireturn, 1) := by decide +kernel
theorem dL_1879 : decode code 1879 = .ok (.aload_n 1, 1) := by decide +kernel
theorem dL_1880 : decode code 1880 = .ok (.invokevirtual 207, 3) := by decide +kernel
theorem dL_1883 : decode code 1883 = .ok (.aload_n 2, 1) := by decide +kernel
theorem dL_1884 : decode code 1884 = .ok (.invokevirtual 210, 3) := by decide +kernel
theorem dL_1887 : decode code 1887 = .ok (.if_icmp .eq 28, 3) := by decide +kernel
theorem dL_1890 : decode code 1890 = .ok (.iconst 0, 1) := by decide +kernel
theorem dL_1891 : decode code 1891 = .ok (.ireturn, 1) := by decide +kernel
theorem dL_1892 : decode code 1892 = .ok (.aload_n 1, 1) := by decide +kernel
theorem dL_1893 : decode code 1893 = .ok (.aload_n 0, 1) := by decide +kernel
theorem dL_1894 : decode code 1894 = .ok (.iload_n 3, 1) := by decide +kernel
theorem dL_1895 : decode code 1895 = .ok (.iconst 1, 1) := by decide +kernel
theorem dL_1896 : decode code 1896 = .ok (.iadd, 1) := by decide +kernel
theorem dL_1897 : decode code 1897 = .ok (.iaload, 1) := by decide +kernel
theorem dL_1898 : decode code 1898 = .ok (.invokevirtual 211, 3) := by decide +kernel
theorem dL_1901 : decode code 1901 = .ok (.aload_n 2, 1) := by decide +kernel
theorem dL_1902 : decode code 1902 = .ok (.aload_n 0, 1) := by decide +kernel
theorem dL_1903 : decode code 1903 = .ok (.iload_n 3, 1) := by decide +kernel
theorem dL_1904 : decode code 1904 = .ok (.iconst 1, 1) := by decide +kernel
theorem dL_1905 : decode code 1905 = .ok (.iadd, 1) := by decide +kernel
theorem dL_1906 : decode code 1906 = .ok (.iaload, 1) := by decide +kernel
theorem dL_1907 : decode code 1907 = .ok (.invokevirtual 214, 3) := by decide +kernel
theorem dL_1910 : decode code 1910 = .ok (.if_icmp .eq 5, 3) := by decide +kernel
theorem dL_1913 : decode code 1913 = .ok (.iconst 0, 1) := by decide +kernel
theorem dL_1914 : decode code 1914 = .ok (.ireturn, 1) := by decide +kernel
theorem dL_1915 : decode code 1915 = .ok (.iinc 3 6, 3) := by decide +kernel
theorem dL_1918 : decode code 1918 = .ok (.goto (-1900), 3) := by decide +kernel
theorem dL_1921 : decode code 1921 = .ok (.iconst 1, 1) := by decide +kernel
theorem dL_1922 : decode code 1922 = .ok (.ireturn, 1) := by decide +kernel
