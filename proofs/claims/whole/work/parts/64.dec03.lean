theorem dL_law_1457 : decode code 1457 = .ok (.iload 4, 2) := by decide +kernel
theorem dL_law_1459 : decode code 1459 = .ok (.iconst 1, 1) := by decide +kernel
theorem dL_law_1460 : decode code 1460 = .ok (.iadd, 1) := by decide +kernel
theorem dL_law_1461 : decode code 1461 = .ok (.iaload, 1) := by decide +kernel
theorem dL_law_1462 : decode code 1462 = .ok (.aload_n 0, 1) := by decide +kernel
theorem dL_law_1463 : decode code 1463 = .ok (.iload 4, 2) := by decide +kernel
theorem dL_law_1465 : decode code 1465 = .ok (.iconst 2, 1) := by decide +kernel
theorem dL_law_1466 : decode code 1466 = .ok (.iadd, 1) := by decide +kernel
theorem dL_law_1467 : decode code 1467 = .ok (.iaload, 1) := by decide +kernel
theorem dL_law_1468 : decode code 1468 = .ok (.aload_n 3, 1) := by decide +kernel
theorem dL_law_1469 : decode code 1469 = .ok (.invokestatic 186, 3) := by decide +kernel
theorem dL_law_1472 : decode code 1472 = .ok (.istore 5, 2) := by decide +kernel
theorem dL_law_1474 : decode code 1474 = .ok (.aload_n 2, 1) := by decide +kernel
theorem dL_law_1475 : decode code 1475 = .ok (.aload_n 0, 1) := by decide +kernel
theorem dL_law_1476 : decode code 1476 = .ok (.iload 4, 2) := by decide +kernel
theorem dL_law_1478 : decode code 1478 = .ok (.iconst 1, 1) := by decide +kernel
theorem dL_law_1479 : decode code 1479 = .ok (.iadd, 1) := by decide +kernel
theorem dL_law_1480 : decode code 1480 = .ok (.iaload, 1) := by decide +kernel
theorem dL_law_1481 : decode code 1481 = .ok (.aload_n 0, 1) := by decide +kernel
theorem dL_law_1482 : decode code 1482 = .ok (.iload 4, 2) := by decide +kernel
theorem dL_law_1484 : decode code 1484 = .ok (.iconst 2, 1) := by decide +kernel
theorem dL_law_1485 : decode code 1485 = .ok (.iadd, 1) := by decide +kernel
theorem dL_law_1486 : decode code 1486 = .ok (.iaload, 1) := by decide +kernel
theorem dL_law_1487 : decode code 1487 = .ok (.invokevirtual 188, 3) := by decide +kernel
theorem dL_law_1490 : decode code 1490 = .ok (.istore 6, 2) := by decide +kernel
theorem dL_law_1492 : decode code 1492 = .ok (.aload_n 2, 1) := by decide +kernel
theorem dL_law_1493 : decode code 1493 = .ok (.invokevirtual 122, 3) := by decide +kernel
theorem dL_law_1496 : decode code 1496 = .ok (.iload 5, 2) := by decide +kernel
theorem dL_law_1498 : decode code 1498 = .ok (.if_icmp .eq 5, 3) := by decide +kernel
theorem dL_law_1503 : decode code 1503 = .ok (.iload 5, 2) := by decide +kernel
theorem dL_law_1505 : decode code 1505 = .ok (.ifCond .ne 15, 3) := by decide +kernel
theorem dL_law_1508 : decode code 1508 = .ok (.aload_n 3, 1) := by decide +kernel
theorem dL_law_1509 : decode code 1509 = .ok (.iconst 0, 1) := by decide +kernel
theorem dL_law_1510 : decode code 1510 = .ok (.laload, 1) := by decide +kernel
theorem dL_law_1511 : decode code 1511 = .ok (.iload 6, 2) := by decide +kernel
theorem dL_law_1513 : decode code 1513 = .ok (.i2l, 1) := by decide +kernel
theorem dL_law_1514 : decode code 1514 = .ok (.lcmp, 1) := by decide +kernel
theorem dL_law_1515 : decode code 1515 = .ok (.ifCond .eq 5, 3) := by decide +kernel
theorem dL_law_1520 : decode code 1520 = .ok (.goto 727, 3) := by decide +kernel
theorem dL_law_1523 : decode code 1523 = .ok (.aload_n 1, 1) := by decide +kernel
theorem dL_law_1524 : decode code 1524 = .ok (.aload_n 0, 1) := by decide +kernel
theorem dL_law_1525 : decode code 1525 = .ok (.iload 4, 2) := by decide +kernel
theorem dL_law_1527 : decode code 1527 = .ok (.iconst 1, 1) := by decide +kernel
theorem dL_law_1528 : decode code 1528 = .ok (.iadd, 1) := by decide +kernel
theorem dL_law_1529 : decode code 1529 = .ok (.iaload, 1) := by decide +kernel
theorem dL_law_1530 : decode code 1530 = .ok (.aload_n 0, 1) := by decide +kernel
theorem dL_law_1531 : decode code 1531 = .ok (.iload 4, 2) := by decide +kernel
theorem dL_law_1533 : decode code 1533 = .ok (.iconst 2, 1) := by decide +kernel
theorem dL_law_1534 : decode code 1534 = .ok (.iadd, 1) := by decide +kernel
theorem dL_law_1535 : decode code 1535 = .ok (.iaload, 1) := by decide +kernel
theorem dL_law_1536 : decode code 1536 = .ok (.aload_n 0, 1) := by decide +kernel
theorem dL_law_1537 : decode code 1537 = .ok (.iload 4, 2) := by decide +kernel
theorem dL_law_1539 : decode code 1539 = .ok (.iconst 3, 1) := by decide +kernel
theorem dL_law_1540 : decode code 1540 = .ok (.iadd, 1) := by decide +kernel
theorem dL_law_1541 : decode code 1541 = .ok (.iaload, 1) := by decide +kernel
theorem dL_law_1542 : decode code 1542 = .ok (.aload_n 0, 1) := by decide +kernel
theorem dL_law_1543 : decode code 1543 = .ok (.iload 4, 2) := by decide +kernel
theorem dL_law_1545 : decode code 1545 = .ok (.iconst 4, 1) := by decide +kernel
theorem dL_law_1546 : decode code 1546 = .ok (.iadd, 1) := by decide +kernel
theorem dL_law_1547 : decode code 1547 = .ok (.iaload, 1) := by decide +kernel
theorem dL_law_1548 : decode code 1548 = .ok (.aload_n 3, 1) := by decide +kernel
theorem dL_law_1549 : decode code 1549 = .ok (.invokestatic 189, 3) := by decide +kernel
theorem dL_law_1552 : decode code 1552 = .ok (.istore 5, 2) := by decide +kernel
theorem dL_law_1554 : decode code 1554 = .ok (.aload_n 2, 1) := by decide +kernel
theorem dL_law_1555 : decode code 1555 = .ok (.aload_n 0, 1) := by decide +kernel
theorem dL_law_1556 : decode code 1556 = .ok (.iload 4, 2) := by decide +kernel
theorem dL_law_1558 : decode code 1558 = .ok (.iconst 1, 1) := by decide +kernel
theorem dL_law_1559 : decode code 1559 = .ok (.iadd, 1) := by decide +kernel
theorem dL_law_1560 : decode code 1560 = .ok (.iaload, 1) := by decide +kernel
theorem dL_law_1561 : decode code 1561 = .ok (.aload_n 0, 1) := by decide +kernel
theorem dL_law_1562 : decode code 1562 = .ok (.iload 4, 2) := by decide +kernel
theorem dL_law_1564 : decode code 1564 = .ok (.iconst 2, 1) := by decide +kernel
theorem dL_law_1565 : decode code 1565 = .ok (.iadd, 1) := by decide +kernel
theorem dL_law_1566 : decode code 1566 = .ok (.iaload, 1) := by decide +kernel
theorem dL_law_1567 : decode code 1567 = .ok (.aload_n 0, 1) := by decide +kernel
theorem dL_law_1568 : decode code 1568 = .ok (.iload 4, 2) := by decide +kernel
theorem dL_law_1570 : decode code 1570 = .ok (.iconst 3, 1) := by decide +kernel
theorem dL_law_1571 : decode code 1571 = .ok (.iadd, 1) := by decide +kernel
theorem dL_law_1572 : decode code 1572 = .ok (.iaload, 1) := by decide +kernel
theorem dL_law_1573 : decode code 1573 = .ok (.aload_n 0, 1) := by decide +kernel
theorem dL_law_1574 : decode code 1574 = .ok (.iload 4, 2) := by decide +kernel
theorem dL_law_1576 : decode code 1576 = .ok (.iconst 4, 1) := by decide +kernel
theorem dL_law_1577 : decode code 1577 = .ok (.iadd, 1) := by decide +kernel
theorem dL_law_1578 : decode code 1578 = .ok (.iaload, 1) := by decide +kernel
theorem dL_law_1579 : decode code 1579 = .ok (.invokevirtual 192, 3) := by decide +kernel
theorem dL_law_1582 : decode code 1582 = .ok (.istore 6, 2) := by decide +kernel
theorem dL_law_1584 : decode code 1584 = .ok (.aload_n 2, 1) := by decide +kernel
theorem dL_law_1585 : decode code 1585 = .ok (.invokevirtual 122, 3) := by decide +kernel
theorem dL_law_1588 : decode code 1588 = .ok (.iload 5, 2) := by decide +kernel
theorem dL_law_1590 : decode code 1590 = .ok (.if_icmp .eq 5, 3) := by decide +kernel
theorem dL_law_1595 : decode code 1595 = .ok (.iload 5, 2) := by decide +kernel
theorem dL_law_1597 : decode code 1597 = .ok (.ifCond .ne 15, 3) := by decide +kernel
theorem dL_law_1600 : decode code 1600 = .ok (.aload_n 3, 1) := by decide +kernel
theorem dL_law_1601 : decode code 1601 = .ok (.iconst 0, 1) := by decide +kernel
theorem dL_law_1602 : decode code 1602 = .ok (.laload, 1) := by decide +kernel
theorem dL_law_1603 : decode code 1603 = .ok (.iload 6, 2) := by decide +kernel
theorem dL_law_1605 : decode code 1605 = .ok (.i2l, 1) := by decide +kernel
theorem dL_law_1606 : decode code 1606 = .ok (.lcmp, 1) := by decide +kernel
theorem dL_law_1607 : decode code 1607 = .ok (.ifCond .eq 5, 3) := by decide +kernel
theorem dL_law_1612 : decode code 1612 = .ok (.goto 635, 3) := by decide +kernel
theorem dL_law_1615 : decode code 1615 = .ok (.aload_n 1, 1) := by decide +kernel
theorem dL_law_1616 : decode code 1616 = .ok (.aload_n 0, 1) := by decide +kernel
theorem dL_law_1617 : decode code 1617 = .ok (.iload 4, 2) := by decide +kernel
theorem dL_law_1619 : decode code 1619 = .ok (.iconst 1, 1) := by decide +kernel
theorem dL_law_1620 : decode code 1620 = .ok (.iadd, 1) := by decide +kernel
theorem dL_law_1621 : decode code 1621 = .ok (.iaload, 1) := by decide +kernel
theorem dL_law_1622 : decode code 1622 = .ok (.aload_n 0, 1) := by decide +kernel
theorem dL_law_1623 : decode code 1623 = .ok (.iload 4, 2) := by decide +kernel
theorem dL_law_1625 : decode code 1625 = .ok (.iconst 2, 1) := by decide +kernel
theorem dL_law_1626 : decode code 1626 = .ok (.iadd, 1) := by decide +kernel
theorem dL_law_1627 : decode code 1627 = .ok (.iaload, 1) := by decide +kernel
theorem dL_law_1628 : decode code 1628 = .ok (.aload_n 3, 1) := by decide +kernel
theorem dL_law_1629 : decode code 1629 = .ok (.invokestatic 193, 3) := by decide +kernel
theorem dL_law_1632 : decode code 1632 = .ok (.istore 5, 2) := by decide +kernel
theorem dL_law_1634 : decode code 1634 = .ok (.aload_n 2, 1) := by decide +kernel
theorem dL_law_1635 : decode code 1635 = .ok (.aload_n 0, 1) := by decide +kernel
theorem dL_law_1636 : decode code 1636 = .ok (.iload 4, 2) := by decide +kernel
theorem dL_law_1638 : decode code 1638 = .ok (.iconst 1, 1) := by decide +kernel
theorem dL_law_1639 : decode code 1639 = .ok (.iadd, 1) := by decide +kernel
theorem dL_law_1640 : decode code 1640 = .ok (.iaload, 1) := by decide +kernel
theorem dL_law_1641 : decode code 1641 = .ok (.aload_n 0, 1) := by decide +kernel
theorem dL_law_1642 : decode code 1642 = .ok (.iload 4, 2) := by decide +kernel
theorem dL_law_1644 : decode code 1644 = .ok (.iconst 2, 1) := by decide +kernel
theorem dL_law_1645 : decode code 1645 = .ok (.iadd, 1) := by decide +kernel
theorem dL_law_1646 : decode code 1646 = .ok (.iaload, 1) := by decide +kernel
theorem dL_law_1647 : decode code 1647 = .ok (.invokevirtual 195, 3) := by decide +kernel
theorem dL_law_1650 : decode code 1650 = .ok (.istore 6, 2) := by decide +kernel
theorem dL_law_1652 : decode code 1652 = .ok (.aload_n 2, 1) := by decide +kernel
theorem dL_law_1653 : decode code 1653 = .ok (.invokevirtual 122, 3) := by decide +kernel
theorem dL_law_1656 : decode code 1656 = .ok (.iload 5, 2) := by decide +kernel
theorem dL_law_1658 : decode code 1658 = .ok (.if_icmp .eq 5, 3) := by decide +kernel
theorem dL_law_1663 : decode code 1663 = .ok (.iload 5, 2) := by decide +kernel
theorem dL_law_1665 : decode code 1665 = .ok (.ifCond .ne 15, 3) := by decide +kernel
theorem dL_law_1668 : decode code 1668 = .ok (.aload_n 3, 1) := by decide +kernel
theorem dL_law_1669 : decode code 1669 = .ok (.iconst 0, 1) := by decide +kernel
theorem dL_law_1670 : decode code 1670 = .ok (.laload, 1) := by decide +kernel
theorem dL_law_1671 : decode code 1671 = .ok (.iload 6, 2) := by decide +kernel
theorem dL_law_1673 : decode code 1673 = .ok (.i2l, 1) := by decide +kernel
theorem dL_law_1674 : decode code 1674 = .ok (.lcmp, 1) := by decide +kernel
theorem dL_law_1675 : decode code 1675 = .ok (.ifCond .eq 5, 3) := by decide +kernel
theorem dL_law_1680 : decode code 1680 = .ok (.goto 567, 3) := by decide +kernel
theorem dL_law_1683 : decode code 1683 = .ok (.aload_n 1, 1) := by decide +kernel
theorem dL_law_1684 : decode code 1684 = .ok (.aload_n 0, 1) := by decide +kernel
theorem dL_law_1685 : decode code 1685 = .ok (.iload 4, 2) := by decide +kernel
theorem dL_law_1687 : decode code 1687 = .ok (.iconst 1, 1) := by decide +kernel
theorem dL_law_1688 : decode code 1688 = .ok (.iadd, 1) := by decide +kernel
theorem dL_law_1689 : decode code 1689 = .ok (.iaload, 1) := by decide +kernel
theorem dL_law_1690 : decode code 1690 = .ok (.aload_n 0, 1) := by decide +kernel
theorem dL_law_1691 : decode code 1691 = .ok (.iload 4, 2) := by decide +kernel
theorem dL_law_1693 : decode code 1693 = .ok (.iconst 2, 1) := by decide +kernel
theorem dL_law_1694 : decode code 1694 = .ok (.iadd, 1) := by decide +kernel
theorem dL_law_1695 : decode code 1695 = .ok (.iaload, 1) := by decide +kernel
theorem dL_law_1696 : decode code 1696 = .ok (.aload_n 3, 1) := by decide +kernel
theorem dL_law_1697 : decode code 1697 = .ok (.invokestatic 196, 3) := by decide +kernel
theorem dL_law_1700 : decode code 1700 = .ok (.istore 5, 2) := by decide +kernel
theorem dL_law_1702 : decode code 1702 = .ok (.aload_n 2, 1) := by decide +kernel
theorem dL_law_1703 : decode code 1703 = .ok (.aload_n 0, 1) := by decide +kernel
theorem dL_law_1704 : decode code 1704 = .ok (.iload 4, 2) := by decide +kernel
theorem dL_law_1706 : decode code 1706 = .ok (.iconst 1, 1) := by decide +kernel
theorem dL_law_1707 : decode code 1707 = .ok (.iadd, 1) := by decide +kernel
theorem dL_law_1708 : decode code 1708 = .ok (.iaload, 1) := by decide +kernel
theorem dL_law_1709 : decode code 1709 = .ok (.aload_n 0, 1) := by decide +kernel
theorem dL_law_1710 : decode code 1710 = .ok (.iload 4, 2) := by decide +kernel
theorem dL_law_1712 : decode code 1712 = .ok (.iconst 2, 1) := by decide +kernel
theorem dL_law_1713 : decode code 1713 = .ok (.iadd, 1) := by decide +kernel
theorem dL_law_1714 : decode code 1714 = .ok (.iaload, 1) := by decide +kernel
theorem dL_law_1715 : decode code 1715 = .ok (.invokevirtual 198, 3) := by decide +kernel
theorem dL_law_1718 : decode code 1718 = .ok (.istore 6, 2) := by decide +kernel
theorem dL_law_1720 : decode code 1720 = .ok (.aload_n 2, 1) := by decide +kernel
theorem dL_law_1721 : decode code 1721 = .ok (.invokevirtual 122, 3) := by decide +kernel
theorem dL_law_1724 : decode code 1724 = .ok (.iload 5, 2) := by decide +kernel
theorem dL_law_1726 : decode code 1726 = .ok (.if_icmp .eq 5, 3) := by decide +kernel
theorem dL_law_1731 : decode code 1731 = .ok (.iload 5, 2) := by decide +kernel
theorem dL_law_1733 : decode code 1733 = .ok (.ifCond .ne 15, 3) := by decide +kernel
theorem dL_law_1736 : decode code 1736 = .ok (.aload_n 3, 1) := by decide +kernel
theorem dL_law_1737 : decode code 1737 = .ok (.iconst 0, 1) := by decide +kernel
theorem dL_law_1738 : decode code 1738 = .ok (.laload, 1) := by decide +kernel
theorem dL_law_1739 : decode code 1739 = .ok (.iload 6, 2) := by decide +kernel
theorem dL_law_1741 : decode code 1741 = .ok (.i2l, 1) := by decide +kernel
theorem dL_law_1742 : decode code 1742 = .ok (.lcmp, 1) := by decide +kernel
theorem dL_law_1743 : decode code 1743 = .ok (.ifCond .eq 5, 3) := by decide +kernel
theorem dL_law_1748 : decode code 1748 = .ok (.goto 499, 3) := by decide +kernel
theorem dL_law_1751 : decode code 1751 = .ok (.aload_n 1, 1) := by decide +kernel
theorem dL_law_1752 : decode code 1752 = .ok (.aload_n 0, 1) := by decide +kernel
theorem dL_law_1753 : decode code 1753 = .ok (.iload 4, 2) := by decide +kernel
theorem dL_law_1755 : decode code 1755 = .ok (.iconst 1, 1) := by decide +kernel
theorem dL_law_1756 : decode code 1756 = .ok (.iadd, 1) := by decide +kernel
theorem dL_law_1757 : decode code 1757 = .ok (.iaload, 1) := by decide +kernel
theorem dL_law_1758 : decode code 1758 = .ok (.aload_n 0, 1) := by decide +kernel
theorem dL_law_1759 : decode code 1759 = .ok (.iload 4, 2) := by decide +kernel
theorem dL_law_1761 : decode code 1761 = .ok (.iconst 2, 1) := by decide +kernel
theorem dL_law_1762 : decode code 1762 = .ok (.iadd, 1) := by decide +kernel
theorem dL_law_1763 : decode code 1763 = .ok (.iaload, 1) := by decide +kernel
theorem dL_law_1764 : decode code 1764 = .ok (.aload_n 3, 1) := by decide +kernel
theorem dL_law_1765 : decode code 1765 = .ok (.invokestatic 199, 3) := by decide +kernel
theorem dL_law_1768 : decode code 1768 = .ok (.istore 5, 2) := by decide +kernel
theorem dL_law_1770 : decode code 1770 = .ok (.aload_n 2, 1) := by decide +kernel
theorem dL_law_1771 : decode code 1771 = .ok (.aload_n 0, 1) := by decide +kernel
theorem dL_law_1772 : decode code 1772 = .ok (.iload 4, 2) := by decide +kernel
theorem dL_law_1774 : decode code 1774 = .ok (.iconst 1, 1) := by decide +kernel
theorem dL_law_1775 : decode code 1775 = .ok (.iadd, 1) := by decide +kernel
theorem dL_law_1776 : decode code 1776 = .ok (.iaload, 1) := by decide +kernel
theorem dL_law_1777 : decode code 1777 = .ok (.aload_n 0, 1) := by decide +kernel
theorem dL_law_1778 : decode code 1778 = .ok (.iload 4, 2) := by decide +kernel
theorem dL_law_1780 : decode code 1780 = .ok (.iconst 2, 1) := by decide +kernel
theorem dL_law_1781 : decode code 1781 = .ok (.iadd, 1) := by decide +kernel
theorem dL_law_1782 : decode code 1782 = .ok (.iaload, 1) := by decide +kernel
theorem dL_law_1783 : decode code 1783 = .ok (.invokevirtual 201, 3) := by decide +kernel
theorem dL_law_1786 : decode code 1786 = .ok (.istore 6, 2) := by decide +kernel
theorem dL_law_1788 : decode code 1788 = .ok (.aload_n 2, 1) := by decide +kernel
theorem dL_law_1789 : decode code 1789 = .ok (.invokevirtual 122, 3) := by decide +kernel
theorem dL_law_1792 : decode code 1792 = .ok (.iload 5, 2) := by decide +kernel
theorem dL_law_1794 : decode code 1794 = .ok (.if_icmp .eq 5, 3) := by decide +kernel
theorem dL_law_1799 : decode code 1799 = .ok (.iload 5, 2) := by decide +kernel
theorem dL_law_1801 : decode code 1801 = .ok (.ifCond .ne 15, 3) := by decide +kernel
theorem dL_law_1804 : decode code 1804 = .ok (.aload_n 3, 1) := by decide +kernel
theorem dL_law_1805 : decode code 1805 = .ok (.iconst 0, 1) := by decide +kernel
theorem dL_law_1806 : decode code 1806 = .ok (.laload, 1) := by decide +kernel
theorem dL_law_1807 : decode code 1807 = .ok (.iload 6, 2) := by decide +kernel
theorem dL_law_1809 : decode code 1809 = .ok (.i2l, 1) := by decide +kernel
theorem dL_law_1810 : decode code 1810 = .ok (.lcmp, 1) := by decide +kernel
theorem dL_law_1811 : decode code 1811 = .ok (.ifCond .eq 5, 3) := by decide +kernel
theorem dL_law_1816 : decode code 1816 = .ok (.goto 431, 3) := by decide +kernel
theorem dL_law_1819 : decode code 1819 = .ok (.aload_n 1, 1) := by decide +kernel
theorem dL_law_1820 : decode code 1820 = .ok (.aload_n 0, 1) := by decide +kernel
theorem dL_law_1821 : decode code 1821 = .ok (.iload 4, 2) := by decide +kernel
theorem dL_law_1823 : decode code 1823 = .ok (.iconst 1, 1) := by decide +kernel
theorem dL_law_1824 : decode code 1824 = .ok (.iadd, 1) := by decide +kernel
theorem dL_law_1825 : decode code 1825 = .ok (.iaload, 1) := by decide +kernel
theorem dL_law_1826 : decode code 1826 = .ok (.aload_n 3, 1) := by decide +kernel
theorem dL_law_1827 : decode code 1827 = .ok (.invokestatic 202, 3) := by decide +kernel
theorem dL_law_1830 : decode code 1830 = .ok (.istore 5, 2) := by decide +kernel
theorem dL_law_1832 : decode code 1832 = .ok (.aload_n 2, 1) := by decide +kernel
theorem dL_law_1833 : decode code 1833 = .ok (.aload_n 0, 1) := by decide +kernel
theorem dL_law_1834 : decode code 1834 = .ok (.iload 4, 2) := by decide +kernel
theorem dL_law_1836 : decode code 1836 = .ok (.iconst 1, 1) := by decide +kernel
theorem dL_law_1837 : decode code 1837 = .ok (.iadd, 1) := by decide +kernel
theorem dL_law_1838 : decode code 1838 = .ok (.iaload, 1) := by decide +kernel
theorem dL_law_1839 : decode code 1839 = .ok (.invokevirtual 204, 3) := by decide +kernel
theorem dL_law_1842 : decode code 1842 = .ok (.istore 6, 2) := by decide +kernel
theorem dL_law_1844 : decode code 1844 = .ok (.aload_n 2, 1) := by decide +kernel
theorem dL_law_1845 : decode code 1845 = .ok (.invokevirtual 122, 3) := by decide +kernel
theorem dL_law_1848 : decode code 1848 = .ok (.iload 5, 2) := by decide +kernel
theorem dL_law_1850 : decode code 1850 = .ok (.if_icmp .eq 5, 3) := by decide +kernel
theorem dL_law_1855 : decode code 1855 = .ok (.iload 5, 2) := by decide +kernel
theorem dL_law_1857 : decode code 1857 = .ok (.ifCond .ne 15, 3) := by decide +kernel
theorem dL_law_1860 : decode code 1860 = .ok (.aload_n 3, 1) := by decide +kernel
theorem dL_law_1861 : decode code 1861 = .ok (.iconst 0, 1) := by decide +kernel
theorem dL_law_1862 : decode code 1862 = .ok (.laload, 1) := by decide +kernel
theorem dL_law_1863 : decode code 1863 = .ok (.iload 6, 2) := by decide +kernel
theorem dL_law_1865 : decode code 1865 = .ok (.i2l, 1) := by decide +kernel
theorem dL_law_1866 : decode code 1866 = .ok (.lcmp, 1) := by decide +kernel
theorem dL_law_1867 : decode code 1867 = .ok (.ifCond .eq 5, 3) := by decide +kernel
theorem dL_law_1872 : decode code 1872 = .ok (.goto 375, 3) := by decide +kernel
theorem dL_law_1875 : decode code 1875 = .ok (.aload_n 1, 1) := by decide +kernel
theorem dL_law_1876 : decode code 1876 = .ok (.aload_n 0, 1) := by decide +kernel
theorem dL_law_1877 : decode code 1877 = .ok (.iload 4, 2) := by decide +kernel
theorem dL_law_1879 : decode code 1879 = .ok (.iconst 1, 1) := by decide +kernel
theorem dL_law_1880 : decode code 1880 = .ok (.iadd, 1) := by decide +kernel
theorem dL_law_1881 : decode code 1881 = .ok (.iaload, 1) := by decide +kernel
