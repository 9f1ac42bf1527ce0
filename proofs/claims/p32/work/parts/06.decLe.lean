theorem dL_law_1563 : decode cL_law 1563 = .ok (.invokestatic 139, 3) := by decide +kernel
theorem dL_law_1566 : decode cL_law 1566 = .ok (.aload_n 1, 1) := by decide +kernel
theorem dL_law_1567 : decode cL_law 1567 = .ok (.iconst 5, 1) := by decide +kernel
theorem dL_law_1568 : decode cL_law 1568 = .ok (.iload 21, 2) := by decide +kernel
theorem dL_law_1570 : decode cL_law 1570 = .ok (.iconst 0, 1) := by decide +kernel
theorem dL_law_1571 : decode cL_law 1571 = .ok (.iconst 0, 1) := by decide +kernel
theorem dL_law_1572 : decode cL_law 1572 = .ok (.invokestatic 127, 3) := by decide +kernel
theorem dL_law_1575 : decode cL_law 1575 = .ok (.aload_n 2, 1) := by decide +kernel
theorem dL_law_1576 : decode cL_law 1576 = .ok (.iconst 0, 1) := by decide +kernel
theorem dL_law_1577 : decode cL_law 1577 = .ok (.iaload, 1) := by decide +kernel
theorem dL_law_1578 : decode cL_law 1578 = .ok (.ifCond .ne 8, 3) := by decide +kernel
theorem dL_law_1581 : decode cL_law 1581 = .ok (.bipush (-11), 2) := by decide +kernel
theorem dL_law_1583 : decode cL_law 1583 = .ok (.goto 15, 3) := by decide +kernel
theorem dL_law_1586 : decode cL_law 1586 = .ok (.iload 26, 2) := by decide +kernel
theorem dL_law_1588 : decode cL_law 1588 = .ok (.ifCond .ge 8, 3) := by decide +kernel
theorem dL_law_1591 : decode cL_law 1591 = .ok (.bipush (-13), 2) := by decide +kernel
theorem dL_law_1593 : decode cL_law 1593 = .ok (.goto 5, 3) := by decide +kernel
theorem dL_law_1596 : decode cL_law 1596 = .ok (.iload 26, 2) := by decide +kernel
theorem dL_law_1598 : decode cL_law 1598 = .ok (.if_icmp .ne 7, 3) := by decide +kernel
theorem dL_law_1601 : decode cL_law 1601 = .ok (.iconst 1, 1) := by decide +kernel
theorem dL_law_1602 : decode cL_law 1602 = .ok (.goto 4, 3) := by decide +kernel
theorem dL_law_1605 : decode cL_law 1605 = .ok (.iconst 0, 1) := by decide +kernel
theorem dL_law_1606 : decode cL_law 1606 = .ok (.istore 16, 2) := by decide +kernel
theorem dL_law_1608 : decode cL_law 1608 = .ok (.goto 947, 3) := by decide +kernel
theorem dL_law_1611 : decode cL_law 1611 = .ok (.iload 19, 2) := by decide +kernel
theorem dL_law_1613 : decode cL_law 1613 = .ok (.bipush 22, 2) := by decide +kernel
theorem dL_law_1615 : decode cL_law 1615 = .ok (.if_icmp .ge 67, 3) := by decide +kernel
theorem dL_law_1618 : decode cL_law 1618 = .ok (.aload_n 2, 1) := by decide +kernel
theorem dL_law_1619 : decode cL_law 1619 = .ok (.iconst 1, 1) := by decide +kernel
theorem dL_law_1620 : decode cL_law 1620 = .ok (.iaload, 1) := by decide +kernel
theorem dL_law_1621 : decode cL_law 1621 = .ok (.bipush 10, 2) := by decide +kernel
theorem dL_law_1623 : decode cL_law 1623 = .ok (.if_icmp .ge 59, 3) := by decide +kernel
theorem dL_law_1626 : decode cL_law 1626 = .ok (.aload_n 1, 1) := by decide +kernel
theorem dL_law_1627 : decode cL_law 1627 = .ok (.bipush 9, 2) := by decide +kernel
theorem dL_law_1629 : decode cL_law 1629 = .ok (.iload 22, 2) := by decide +kernel
theorem dL_law_1631 : decode cL_law 1631 = .ok (.iconst 0, 1) := by decide +kernel
theorem dL_law_1632 : decode cL_law 1632 = .ok (.iconst 0, 1) := by decide +kernel
theorem dL_law_1633 : decode cL_law 1633 = .ok (.invokestatic 127, 3) := by decide +kernel
theorem dL_law_1636 : decode cL_law 1636 = .ok (.aload_n 2, 1) := by decide +kernel
theorem dL_law_1637 : decode cL_law 1637 = .ok (.iconst 1, 1) := by decide +kernel
theorem dL_law_1638 : decode cL_law 1638 = .ok (.iaload, 1) := by decide +kernel
theorem dL_law_1639 : decode cL_law 1639 = .ok (.if_icmp .ne 7, 3) := by decide +kernel
theorem dL_law_1642 : decode cL_law 1642 = .ok (.iconst 1, 1) := by decide +kernel
theorem dL_law_1643 : decode cL_law 1643 = .ok (.goto 4, 3) := by decide +kernel
theorem dL_law_1646 : decode cL_law 1646 = .ok (.iconst 0, 1) := by decide +kernel
theorem dL_law_1647 : decode cL_law 1647 = .ok (.istore 16, 2) := by decide +kernel
theorem dL_law_1649 : decode cL_law 1649 = .ok (.aload 11, 2) := by decide +kernel
theorem dL_law_1651 : decode cL_law 1651 = .ok (.aload_n 2, 1) := by decide +kernel
theorem dL_law_1652 : decode cL_law 1652 = .ok (.iconst 1, 1) := by decide +kernel
theorem dL_law_1653 : decode cL_law 1653 = .ok (.iaload, 1) := by decide +kernel
theorem dL_law_1654 : decode cL_law 1654 = .ok (.iload 22, 2) := by decide +kernel
theorem dL_law_1656 : decode cL_law 1656 = .ok (.iconst 3, 1) := by decide +kernel
theorem dL_law_1657 : decode cL_law 1657 = .ok (.idiv, 1) := by decide +kernel
theorem dL_law_1658 : decode cL_law 1658 = .ok (.iconst 4, 1) := by decide +kernel
theorem dL_law_1659 : decode cL_law 1659 = .ok (.iload 22, 2) := by decide +kernel
theorem dL_law_1661 : decode cL_law 1661 = .ok (.imul, 1) := by decide +kernel
theorem dL_law_1662 : decode cL_law 1662 = .ok (.iadd, 1) := by decide +kernel
theorem dL_law_1663 : decode cL_law 1663 = .ok (.iastore, 1) := by decide +kernel
theorem dL_law_1664 : decode cL_law 1664 = .ok (.aload 13, 2) := by decide +kernel
theorem dL_law_1666 : decode cL_law 1666 = .ok (.aload_n 2, 1) := by decide +kernel
theorem dL_law_1667 : decode cL_law 1667 = .ok (.iconst 1, 1) := by decide +kernel
theorem dL_law_1668 : decode cL_law 1668 = .ok (.iaload, 1) := by decide +kernel
theorem dL_law_1669 : decode cL_law 1669 = .ok (.bipush 20, 2) := by decide +kernel
theorem dL_law_1671 : decode cL_law 1671 = .ok (.iastore, 1) := by decide +kernel
theorem dL_law_1672 : decode cL_law 1672 = .ok (.aload_n 2, 1) := by decide +kernel
theorem dL_law_1673 : decode cL_law 1673 = .ok (.iconst 1, 1) := by decide +kernel
theorem dL_law_1674 : decode cL_law 1674 = .ok (.dup2, 1) := by decide +kernel
theorem dL_law_1675 : decode cL_law 1675 = .ok (.iaload, 1) := by decide +kernel
theorem dL_law_1676 : decode cL_law 1676 = .ok (.iconst 1, 1) := by decide +kernel
theorem dL_law_1677 : decode cL_law 1677 = .ok (.iadd, 1) := by decide +kernel
theorem dL_law_1678 : decode cL_law 1678 = .ok (.iastore, 1) := by decide +kernel
theorem dL_law_1679 : decode cL_law 1679 = .ok (.goto 876, 3) := by decide +kernel
theorem dL_law_1682 : decode cL_law 1682 = .ok (.iload 19, 2) := by decide +kernel
theorem dL_law_1684 : decode cL_law 1684 = .ok (.bipush 24, 2) := by decide +kernel
theorem dL_law_1686 : decode cL_law 1686 = .ok (.if_icmp .ge 99, 3) := by decide +kernel
theorem dL_law_1689 : decode cL_law 1689 = .ok (.aload_n 2, 1) := by decide +kernel
theorem dL_law_1690 : decode cL_law 1690 = .ok (.iconst 1, 1) := by decide +kernel
theorem dL_law_1691 : decode cL_law 1691 = .ok (.iaload, 1) := by decide +kernel
theorem dL_law_1692 : decode cL_law 1692 = .ok (.ifCond .le 93, 3) := by decide +kernel
theorem dL_law_1695 : decode cL_law 1695 = .ok (.aload 11, 2) := by decide +kernel
theorem dL_law_1697 : decode cL_law 1697 = .ok (.iload 25, 2) := by decide +kernel
theorem dL_law_1699 : decode cL_law 1699 = .ok (.iaload, 1) := by decide +kernel
theorem dL_law_1700 : decode cL_law 1700 = .ok (.iconst 4, 1) := by decide +kernel
theorem dL_law_1701 : decode cL_law 1701 = .ok (.idiv, 1) := by decide +kernel
theorem dL_law_1702 : decode cL_law 1702 = .ok (.bipush 16, 2) := by decide +kernel
theorem dL_law_1704 : decode cL_law 1704 = .ok (.irem, 1) := by decide +kernel
theorem dL_law_1705 : decode cL_law 1705 = .ok (.istore 26, 2) := by decide +kernel
theorem dL_law_1707 : decode cL_law 1707 = .ok (.iload 26, 2) := by decide +kernel
theorem dL_law_1709 : decode cL_law 1709 = .ok (.iconst 3, 1) := by decide +kernel
theorem dL_law_1710 : decode cL_law 1710 = .ok (.idiv, 1) := by decide +kernel
theorem dL_law_1711 : decode cL_law 1711 = .ok (.iload 22, 2) := by decide +kernel
theorem dL_law_1713 : decode cL_law 1713 = .ok (.iconst 3, 1) := by decide +kernel
theorem dL_law_1714 : decode cL_law 1714 = .ok (.idiv, 1) := by decide +kernel
theorem dL_law_1715 : decode cL_law 1715 = .ok (.if_icmp .ne 7, 3) := by decide +kernel
theorem dL_law_1718 : decode cL_law 1718 = .ok (.iconst 1, 1) := by decide +kernel
theorem dL_law_1719 : decode cL_law 1719 = .ok (.goto 4, 3) := by decide +kernel
theorem dL_law_1722 : decode cL_law 1722 = .ok (.iconst 0, 1) := by decide +kernel
theorem dL_law_1723 : decode cL_law 1723 = .ok (.istore 27, 2) := by decide +kernel
theorem dL_law_1725 : decode cL_law 1725 = .ok (.aload 11, 2) := by decide +kernel
theorem dL_law_1727 : decode cL_law 1727 = .ok (.iload 25, 2) := by decide +kernel
theorem dL_law_1729 : decode cL_law 1729 = .ok (.dup2, 1) := by decide +kernel
theorem dL_law_1730 : decode cL_law 1730 = .ok (.iaload, 1) := by decide +kernel
theorem dL_law_1731 : decode cL_law 1731 = .ok (.iload 27, 2) := by decide +kernel
theorem dL_law_1733 : decode cL_law 1733 = .ok (.ifCond .eq 13, 3) := by decide +kernel
theorem dL_law_1736 : decode cL_law 1736 = .ok (.iconst 4, 1) := by decide +kernel
theorem dL_law_1737 : decode cL_law 1737 = .ok (.iload 22, 2) := by decide +kernel
theorem dL_law_1739 : decode cL_law 1739 = .ok (.iload 26, 2) := by decide +kernel
theorem dL_law_1741 : decode cL_law 1741 = .ok (.isub, 1) := by decide +kernel
theorem dL_law_1742 : decode cL_law 1742 = .ok (.imul, 1) := by decide +kernel
theorem dL_law_1743 : decode cL_law 1743 = .ok (.goto 4, 3) := by decide +kernel
theorem dL_law_1746 : decode cL_law 1746 = .ok (.iconst 0, 1) := by decide +kernel
theorem dL_law_1747 : decode cL_law 1747 = .ok (.iadd, 1) := by decide +kernel
theorem dL_law_1748 : decode cL_law 1748 = .ok (.iastore, 1) := by decide +kernel
theorem dL_law_1749 : decode cL_law 1749 = .ok (.aload_n 1, 1) := by decide +kernel
theorem dL_law_1750 : decode cL_law 1750 = .ok (.bipush 6, 2) := by decide +kernel
theorem dL_law_1752 : decode cL_law 1752 = .ok (.iload 25, 2) := by decide +kernel
theorem dL_law_1754 : decode cL_law 1754 = .ok (.iload 22, 2) := by decide +kernel
theorem dL_law_1756 : decode cL_law 1756 = .ok (.iconst 0, 1) := by decide +kernel
theorem dL_law_1757 : decode cL_law 1757 = .ok (.invokestatic 127, 3) := by decide +kernel
theorem dL_law_1760 : decode cL_law 1760 = .ok (.iload 27, 2) := by decide +kernel
theorem dL_law_1762 : decode cL_law 1762 = .ok (.ifCond .eq 8, 3) := by decide +kernel
theorem dL_law_1765 : decode cL_law 1765 = .ok (.iload 26, 2) := by decide +kernel
theorem dL_law_1767 : decode cL_law 1767 = .ok (.goto 5, 3) := by decide +kernel
theorem dL_law_1770 : decode cL_law 1770 = .ok (.bipush (-13), 2) := by decide +kernel
theorem dL_law_1772 : decode cL_law 1772 = .ok (.if_icmp .ne 7, 3) := by decide +kernel
theorem dL_law_1775 : decode cL_law 1775 = .ok (.iconst 1, 1) := by decide +kernel
theorem dL_law_1776 : decode cL_law 1776 = .ok (.goto 4, 3) := by decide +kernel
theorem dL_law_1779 : decode cL_law 1779 = .ok (.iconst 0, 1) := by decide +kernel
theorem dL_law_1780 : decode cL_law 1780 = .ok (.istore 16, 2) := by decide +kernel
theorem dL_law_1782 : decode cL_law 1782 = .ok (.goto 773, 3) := by decide +kernel
theorem dL_law_1785 : decode cL_law 1785 = .ok (.iload 19, 2) := by decide +kernel
theorem dL_law_1787 : decode cL_law 1787 = .ok (.bipush 26, 2) := by decide +kernel
theorem dL_law_1789 : decode cL_law 1789 = .ok (.if_icmp .ge 164, 3) := by decide +kernel
theorem dL_law_1792 : decode cL_law 1792 = .ok (.aload_n 2, 1) := by decide +kernel
theorem dL_law_1793 : decode cL_law 1793 = .ok (.iconst 1, 1) := by decide +kernel
theorem dL_law_1794 : decode cL_law 1794 = .ok (.iaload, 1) := by decide +kernel
theorem dL_law_1795 : decode cL_law 1795 = .ok (.ifCond .le 158, 3) := by decide +kernel
theorem dL_law_1798 : decode cL_law 1798 = .ok (.aload 11, 2) := by decide +kernel
theorem dL_law_1800 : decode cL_law 1800 = .ok (.iload 25, 2) := by decide +kernel
theorem dL_law_1802 : decode cL_law 1802 = .ok (.iaload, 1) := by decide +kernel
theorem dL_law_1803 : decode cL_law 1803 = .ok (.bipush 64, 2) := by decide +kernel
theorem dL_law_1805 : decode cL_law 1805 = .ok (.idiv, 1) := by decide +kernel
theorem dL_law_1806 : decode cL_law 1806 = .ok (.iconst 2, 1) := by decide +kernel
theorem dL_law_1807 : decode cL_law 1807 = .ok (.irem, 1) := by decide +kernel
theorem dL_law_1808 : decode cL_law 1808 = .ok (.iconst 1, 1) := by decide +kernel
theorem dL_law_1809 : decode cL_law 1809 = .ok (.if_icmp .ne 7, 3) := by decide +kernel
theorem dL_law_1812 : decode cL_law 1812 = .ok (.iconst 1, 1) := by decide +kernel
theorem dL_law_1813 : decode cL_law 1813 = .ok (.goto 4, 3) := by decide +kernel
theorem dL_law_1816 : decode cL_law 1816 = .ok (.iconst 0, 1) := by decide +kernel
theorem dL_law_1817 : decode cL_law 1817 = .ok (.istore 26, 2) := by decide +kernel
theorem dL_law_1819 : decode cL_law 1819 = .ok (.iload 26, 2) := by decide +kernel
theorem dL_law_1821 : decode cL_law 1821 = .ok (.ifCond .ne 21, 3) := by decide +kernel
theorem dL_law_1824 : decode cL_law 1824 = .ok (.iload 22, 2) := by decide +kernel
theorem dL_law_1826 : decode cL_law 1826 = .ok (.iconst 3, 1) := by decide +kernel
theorem dL_law_1827 : decode cL_law 1827 = .ok (.idiv, 1) := by decide +kernel
theorem dL_law_1828 : decode cL_law 1828 = .ok (.aload 11, 2) := by decide +kernel
theorem dL_law_1830 : decode cL_law 1830 = .ok (.iload 25, 2) := by decide +kernel
theorem dL_law_1832 : decode cL_law 1832 = .ok (.iaload, 1) := by decide +kernel
theorem dL_law_1833 : decode cL_law 1833 = .ok (.iconst 4, 1) := by decide +kernel
theorem dL_law_1834 : decode cL_law 1834 = .ok (.irem, 1) := by decide +kernel
theorem dL_law_1835 : decode cL_law 1835 = .ok (.if_icmp .eq 7, 3) := by decide +kernel
theorem dL_law_1838 : decode cL_law 1838 = .ok (.iconst 1, 1) := by decide +kernel
theorem dL_law_1839 : decode cL_law 1839 = .ok (.goto 4, 3) := by decide +kernel
theorem dL_law_1842 : decode cL_law 1842 = .ok (.iconst 0, 1) := by decide +kernel
theorem dL_law_1843 : decode cL_law 1843 = .ok (.istore 27, 2) := by decide +kernel
theorem dL_law_1845 : decode cL_law 1845 = .ok (.iload 20, 2) := by decide +kernel
theorem dL_law_1847 : decode cL_law 1847 = .ok (.bipush 30, 2) := by decide +kernel
theorem dL_law_1849 : decode cL_law 1849 = .ok (.idiv, 1) := by decide +kernel
theorem dL_law_1850 : decode cL_law 1850 = .ok (.bipush 60, 2) := by decide +kernel
theorem dL_law_1852 : decode cL_law 1852 = .ok (.irem, 1) := by decide +kernel
theorem dL_law_1853 : decode cL_law 1853 = .ok (.istore 28, 2) := by decide +kernel
theorem dL_law_1855 : decode cL_law 1855 = .ok (.aload 12, 2) := by decide +kernel
theorem dL_law_1857 : decode cL_law 1857 = .ok (.iload 25, 2) := by decide +kernel
theorem dL_law_1859 : decode cL_law 1859 = .ok (.iload 27, 2) := by decide +kernel
theorem dL_law_1861 : decode cL_law 1861 = .ok (.ifCond .eq 7, 3) := by decide +kernel
theorem dL_law_1864 : decode cL_law 1864 = .ok (.iconst 0, 1) := by decide +kernel
theorem dL_law_1865 : decode cL_law 1865 = .ok (.goto 8, 3) := by decide +kernel
theorem dL_law_1868 : decode cL_law 1868 = .ok (.aload 12, 2) := by decide +kernel
theorem dL_law_1870 : decode cL_law 1870 = .ok (.iload 25, 2) := by decide +kernel
theorem dL_law_1872 : decode cL_law 1872 = .ok (.iaload, 1) := by decide +kernel
theorem dL_law_1873 : decode cL_law 1873 = .ok (.iastore, 1) := by decide +kernel
theorem dL_law_1874 : decode cL_law 1874 = .ok (.aload 11, 2) := by decide +kernel
theorem dL_law_1876 : decode cL_law 1876 = .ok (.iload 25, 2) := by decide +kernel
theorem dL_law_1878 : decode cL_law 1878 = .ok (.iload 27, 2) := by decide +kernel
theorem dL_law_1880 : decode cL_law 1880 = .ok (.ifCond .eq 28, 3) := by decide +kernel
theorem dL_law_1883 : decode cL_law 1883 = .ok (.aload 11, 2) := by decide +kernel
theorem dL_law_1885 : decode cL_law 1885 = .ok (.iload 25, 2) := by decide +kernel
theorem dL_law_1887 : decode cL_law 1887 = .ok (.iaload, 1) := by decide +kernel
theorem dL_law_1888 : decode cL_law 1888 = .ok (.iconst 4, 1) := by decide +kernel
theorem dL_law_1889 : decode cL_law 1889 = .ok (.irem, 1) := by decide +kernel
theorem dL_law_1890 : decode cL_law 1890 = .ok (.iconst 4, 1) := by decide +kernel
theorem dL_law_1891 : decode cL_law 1891 = .ok (.iload 22, 2) := by decide +kernel
theorem dL_law_1893 : decode cL_law 1893 = .ok (.imul, 1) := by decide +kernel
theorem dL_law_1894 : decode cL_law 1894 = .ok (.iadd, 1) := by decide +kernel
theorem dL_law_1895 : decode cL_law 1895 = .ok (.bipush 64, 2) := by decide +kernel
theorem dL_law_1897 : decode cL_law 1897 = .ok (.iadd, 1) := by decide +kernel
theorem dL_law_1898 : decode cL_law 1898 = .ok (.sipush 128, 3) := by decide +kernel
theorem dL_law_1901 : decode cL_law 1901 = .ok (.iload 28, 2) := by decide +kernel
theorem dL_law_1903 : decode cL_law 1903 = .ok (.imul, 1) := by decide +kernel
theorem dL_law_1904 : decode cL_law 1904 = .ok (.iadd, 1) := by decide +kernel
theorem dL_law_1905 : decode cL_law 1905 = .ok (.goto 8, 3) := by decide +kernel
theorem dL_law_1908 : decode cL_law 1908 = .ok (.aload 11, 2) := by decide +kernel
theorem dL_law_1910 : decode cL_law 1910 = .ok (.iload 25, 2) := by decide +kernel
theorem dL_law_1912 : decode cL_law 1912 = .ok (.iaload, 1) := by decide +kernel
theorem dL_law_1913 : decode cL_law 1913 = .ok (.iastore, 1) := by decide +kernel
theorem dL_law_1914 : decode cL_law 1914 = .ok (.aload_n 1, 1) := by decide +kernel
theorem dL_law_1915 : decode cL_law 1915 = .ok (.bipush 7, 2) := by decide +kernel
theorem dL_law_1917 : decode cL_law 1917 = .ok (.iload 25, 2) := by decide +kernel
theorem dL_law_1919 : decode cL_law 1919 = .ok (.iload 22, 2) := by decide +kernel
theorem dL_law_1921 : decode cL_law 1921 = .ok (.iload 28, 2) := by decide +kernel
theorem dL_law_1923 : decode cL_law 1923 = .ok (.invokestatic 127, 3) := by decide +kernel
theorem dL_law_1926 : decode cL_law 1926 = .ok (.iload 27, 2) := by decide +kernel
theorem dL_law_1928 : decode cL_law 1928 = .ok (.ifCond .eq 10, 3) := by decide +kernel
theorem dL_law_1931 : decode cL_law 1931 = .ok (.iload 22, 2) := by decide +kernel
theorem dL_law_1933 : decode cL_law 1933 = .ok (.iconst 3, 1) := by decide +kernel
theorem dL_law_1934 : decode cL_law 1934 = .ok (.idiv, 1) := by decide +kernel
theorem dL_law_1935 : decode cL_law 1935 = .ok (.goto 5, 3) := by decide +kernel
theorem dL_law_1938 : decode cL_law 1938 = .ok (.bipush (-13), 2) := by decide +kernel
theorem dL_law_1940 : decode cL_law 1940 = .ok (.if_icmp .ne 7, 3) := by decide +kernel
theorem dL_law_1943 : decode cL_law 1943 = .ok (.iconst 1, 1) := by decide +kernel
theorem dL_law_1944 : decode cL_law 1944 = .ok (.goto 4, 3) := by decide +kernel
theorem dL_law_1947 : decode cL_law 1947 = .ok (.iconst 0, 1) := by decide +kernel
theorem dL_law_1948 : decode cL_law 1948 = .ok (.istore 16, 2) := by decide +kernel
theorem dL_law_1950 : decode cL_law 1950 = .ok (.goto 605, 3) := by decide +kernel
theorem dL_law_1953 : decode cL_law 1953 = .ok (.iload 19, 2) := by decide +kernel
theorem dL_law_1955 : decode cL_law 1955 = .ok (.bipush 26, 2) := by decide +kernel
theorem dL_law_1957 : decode cL_law 1957 = .ok (.if_icmp .ne 113, 3) := by decide +kernel
theorem dL_law_1960 : decode cL_law 1960 = .ok (.aload_n 2, 1) := by decide +kernel
theorem dL_law_1961 : decode cL_law 1961 = .ok (.iconst 1, 1) := by decide +kernel
theorem dL_law_1962 : decode cL_law 1962 = .ok (.iaload, 1) := by decide +kernel
theorem dL_law_1963 : decode cL_law 1963 = .ok (.ifCond .le 107, 3) := by decide +kernel
theorem dL_law_1966 : decode cL_law 1966 = .ok (.aload 11, 2) := by decide +kernel
theorem dL_law_1968 : decode cL_law 1968 = .ok (.iload 25, 2) := by decide +kernel
theorem dL_law_1970 : decode cL_law 1970 = .ok (.iaload, 1) := by decide +kernel
theorem dL_law_1971 : decode cL_law 1971 = .ok (.bipush 64, 2) := by decide +kernel
theorem dL_law_1973 : decode cL_law 1973 = .ok (.idiv, 1) := by decide +kernel
theorem dL_law_1974 : decode cL_law 1974 = .ok (.iconst 2, 1) := by decide +kernel
theorem dL_law_1975 : decode cL_law 1975 = .ok (.irem, 1) := by decide +kernel
theorem dL_law_1976 : decode cL_law 1976 = .ok (.iconst 1, 1) := by decide +kernel
theorem dL_law_1977 : decode cL_law 1977 = .ok (.if_icmp .ne 21, 3) := by decide +kernel
theorem dL_law_1980 : decode cL_law 1980 = .ok (.iload 22, 2) := by decide +kernel
theorem dL_law_1982 : decode cL_law 1982 = .ok (.iconst 3, 1) := by decide +kernel
theorem dL_law_1983 : decode cL_law 1983 = .ok (.idiv, 1) := by decide +kernel
theorem dL_law_1984 : decode cL_law 1984 = .ok (.aload 11, 2) := by decide +kernel
theorem dL_law_1986 : decode cL_law 1986 = .ok (.iload 25, 2) := by decide +kernel
theorem dL_law_1988 : decode cL_law 1988 = .ok (.iaload, 1) := by decide +kernel
theorem dL_law_1989 : decode cL_law 1989 = .ok (.iconst 4, 1) := by decide +kernel
theorem dL_law_1990 : decode cL_law 1990 = .ok (.irem, 1) := by decide +kernel
theorem dL_law_1991 : decode cL_law 1991 = .ok (.if_icmp .ne 7, 3) := by decide +kernel
theorem dL_law_1994 : decode cL_law 1994 = .ok (.iconst 1, 1) := by decide +kernel
theorem dL_law_1995 : decode cL_law 1995 = .ok (.goto 4, 3) := by decide +kernel
theorem dL_law_1998 : decode cL_law 1998 = .ok (.iconst 0, 1) := by decide +kernel
theorem dL_law_1999 : decode cL_law 1999 = .ok (.istore 26, 2) := by decide +kernel
theorem dL_law_2001 : decode cL_law 2001 = .ok (.aload 11, 2) := by decide +kernel
theorem dL_law_2003 : decode cL_law 2003 = .ok (.iload 25, 2) := by decide +kernel
theorem dL_law_2005 : decode cL_law 2005 = .ok (.iload 26, 2) := by decide +kernel
theorem dL_law_2007 : decode cL_law 2007 = .ok (.ifCond .eq 18, 3) := by decide +kernel
theorem dL_law_2010 : decode cL_law 2010 = .ok (.aload 11, 2) := by decide +kernel
theorem dL_law_2012 : decode cL_law 2012 = .ok (.iload 25, 2) := by decide +kernel
theorem dL_law_2014 : decode cL_law 2014 = .ok (.iaload, 1) := by decide +kernel
theorem dL_law_2015 : decode cL_law 2015 = .ok (.iconst 4, 1) := by decide +kernel
theorem dL_law_2016 : decode cL_law 2016 = .ok (.irem, 1) := by decide +kernel
theorem dL_law_2017 : decode cL_law 2017 = .ok (.iconst 4, 1) := by decide +kernel
theorem dL_law_2018 : decode cL_law 2018 = .ok (.iload 22, 2) := by decide +kernel
theorem dL_law_2020 : decode cL_law 2020 = .ok (.imul, 1) := by decide +kernel
theorem dL_law_2021 : decode cL_law 2021 = .ok (.iadd, 1) := by decide +kernel
theorem dL_law_2022 : decode cL_law 2022 = .ok (.goto 8, 3) := by decide +kernel
theorem dL_law_2025 : decode cL_law 2025 = .ok (.aload 11, 2) := by decide +kernel
theorem dL_law_2027 : decode cL_law 2027 = .ok (.iload 25, 2) := by decide +kernel
theorem dL_law_2029 : decode cL_law 2029 = .ok (.iaload, 1) := by decide +kernel
theorem dL_law_2030 : decode cL_law 2030 = .ok (.iastore, 1) := by decide +kernel
theorem dL_law_2031 : decode cL_law 2031 = .ok (.aload_n 1, 1) := by decide +kernel
theorem dL_law_2032 : decode cL_law 2032 = .ok (.bipush 8, 2) := by decide +kernel
theorem dL_law_2034 : decode cL_law 2034 = .ok (.iload 25, 2) := by decide +kernel
theorem dL_law_2036 : decode cL_law 2036 = .ok (.iload 22, 2) := by decide +kernel
theorem dL_law_2038 : decode cL_law 2038 = .ok (.iconst 0, 1) := by decide +kernel
theorem dL_law_2039 : decode cL_law 2039 = .ok (.invokestatic 127, 3) := by decide +kernel
theorem dL_law_2042 : decode cL_law 2042 = .ok (.iload 26, 2) := by decide +kernel
theorem dL_law_2044 : decode cL_law 2044 = .ok (.ifCond .eq 11, 3) := by decide +kernel
theorem dL_law_2047 : decode cL_law 2047 = .ok (.aload 12, 2) := by decide +kernel
theorem dL_law_2049 : decode cL_law 2049 = .ok (.iload 25, 2) := by decide +kernel
theorem dL_law_2051 : decode cL_law 2051 = .ok (.iaload, 1) := by decide +kernel
theorem dL_law_2052 : decode cL_law 2052 = .ok (.goto 5, 3) := by decide +kernel
theorem dL_law_2055 : decode cL_law 2055 = .ok (.bipush (-13), 2) := by decide +kernel
theorem dL_law_2057 : decode cL_law 2057 = .ok (.if_icmp .ne 7, 3) := by decide +kernel
theorem dL_law_2060 : decode cL_law 2060 = .ok (.iconst 1, 1) := by decide +kernel
theorem dL_law_2061 : decode cL_law 2061 = .ok (.goto 4, 3) := by decide +kernel
theorem dL_law_2064 : decode cL_law 2064 = .ok (.iconst 0, 1) := by decide +kernel
theorem dL_law_2065 : decode cL_law 2065 = .ok (.istore 16, 2) := by decide +kernel
theorem dL_law_2067 : decode cL_law 2067 = .ok (.goto 488, 3) := by decide +kernel
theorem dL_law_2070 : decode cL_law 2070 = .ok (.iload 19, 2) := by decide +kernel
theorem dL_law_2072 : decode cL_law 2072 = .ok (.bipush 27, 2) := by decide +kernel
theorem dL_law_2074 : decode cL_law 2074 = .ok (.if_icmp .ne 52, 3) := by decide +kernel
theorem dL_law_2077 : decode cL_law 2077 = .ok (.aload_n 2, 1) := by decide +kernel
theorem dL_law_2078 : decode cL_law 2078 = .ok (.iconst 1, 1) := by decide +kernel
theorem dL_law_2079 : decode cL_law 2079 = .ok (.iaload, 1) := by decide +kernel
theorem dL_law_2080 : decode cL_law 2080 = .ok (.ifCond .le 46, 3) := by decide +kernel
theorem dL_law_2083 : decode cL_law 2083 = .ok (.iload 20, 2) := by decide +kernel
theorem dL_law_2085 : decode cL_law 2085 = .ok (.bipush 11, 2) := by decide +kernel
theorem dL_law_2087 : decode cL_law 2087 = .ok (.idiv, 1) := by decide +kernel
