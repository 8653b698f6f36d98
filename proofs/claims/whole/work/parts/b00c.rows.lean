/-! rows of the law -/
section
variable {d : Nat} {Q : XO → Hp → Prop} {S : SH} {I : MI} {L : ML} {R : MR} {G : MG} {A : Hp} {st : List Value} {x y z x0 x1 x2 x3 x4 x5 x6 x7 x8 x9 : Int32} {lx ly l0 l1 l2 l3 l4 l5 l6 : Int64} {t kk jj a b a0 a1 a2 a3 a4 a5 a6 a7 a8 a9 : Nat} {o o0 o1 o2 o3 o4 : Option Nat} {v0 v1 v2 v3 v4 v5 v6 v7 v8 v9 v10 v11 v12 v13 v14 v15 v16 v17 v18 v19 v20 : Option Value}
theorem i_268_1626 : t_ins 268 1626 = some (.iaload) := by decide +kernel
theorem i_268_1627 : t_ins 268 1627 = some (.invokevirtual 185) := by decide +kernel
theorem i_268_1630 : t_ins 268 1630 = some (.istore 6) := by decide +kernel
theorem i_268_1632 : t_ins 268 1632 = some (.aload_n 2) := by decide +kernel
theorem i_268_1633 : t_ins 268 1633 = some (.invokevirtual 117) := by decide +kernel
theorem i_268_1636 : t_ins 268 1636 = some (.iload 5) := by decide +kernel
theorem i_268_1638 : t_ins 268 1638 = some (.if_icmp .eq 5) := by decide +kernel
theorem i_268_1641 : t_ins 268 1641 = some (.iconst 0) := by decide +kernel
theorem i_268_1642 : t_ins 268 1642 = some (.ireturn) := by decide +kernel
theorem i_268_1643 : t_ins 268 1643 = some (.iload 5) := by decide +kernel
theorem i_268_1645 : t_ins 268 1645 = some (.ifCond .ne 15) := by decide +kernel
theorem i_268_1648 : t_ins 268 1648 = some (.aload_n 3) := by decide +kernel
theorem i_268_1649 : t_ins 268 1649 = some (.iconst 0) := by decide +kernel
theorem i_268_1650 : t_ins 268 1650 = some (.laload) := by decide +kernel
theorem i_268_1651 : t_ins 268 1651 = some (.iload 6) := by decide +kernel
theorem i_268_1653 : t_ins 268 1653 = some (.i2l) := by decide +kernel
theorem i_268_1654 : t_ins 268 1654 = some (.lcmp) := by decide +kernel
theorem i_268_1655 : t_ins 268 1655 = some (.ifCond .eq 5) := by decide +kernel
theorem i_268_1658 : t_ins 268 1658 = some (.iconst 0) := by decide +kernel
theorem i_268_1659 : t_ins 268 1659 = some (.ireturn) := by decide +kernel
theorem i_268_1660 : t_ins 268 1660 = some (.goto 628) := by decide +kernel
theorem i_268_1663 : t_ins 268 1663 = some (.aload_n 1) := by decide +kernel
theorem i_268_1664 : t_ins 268 1664 = some (.aload_n 0) := by decide +kernel
theorem i_268_1665 : t_ins 268 1665 = some (.iload 4) := by decide +kernel
theorem i_268_1667 : t_ins 268 1667 = some (.iconst 1) := by decide +kernel
theorem i_268_1668 : t_ins 268 1668 = some (.iadd) := by decide +kernel
theorem i_268_1669 : t_ins 268 1669 = some (.iaload) := by decide +kernel
theorem i_268_1670 : t_ins 268 1670 = some (.aload_n 0) := by decide +kernel
theorem i_268_1671 : t_ins 268 1671 = some (.iload 4) := by decide +kernel
theorem i_268_1673 : t_ins 268 1673 = some (.iconst 2) := by decide +kernel
theorem i_268_1674 : t_ins 268 1674 = some (.iadd) := by decide +kernel
theorem i_268_1675 : t_ins 268 1675 = some (.iaload) := by decide +kernel
theorem i_268_1676 : t_ins 268 1676 = some (.aload_n 3) := by decide +kernel
theorem i_268_1677 : t_ins 268 1677 = some (.invokestatic 186) := by decide +kernel
theorem i_268_1680 : t_ins 268 1680 = some (.istore 5) := by decide +kernel
theorem i_268_1682 : t_ins 268 1682 = some (.aload_n 2) := by decide +kernel
theorem i_268_1683 : t_ins 268 1683 = some (.aload_n 0) := by decide +kernel
theorem i_268_1684 : t_ins 268 1684 = some (.iload 4) := by decide +kernel
theorem i_268_1686 : t_ins 268 1686 = some (.iconst 1) := by decide +kernel
theorem i_268_1687 : t_ins 268 1687 = some (.iadd) := by decide +kernel
theorem i_268_1688 : t_ins 268 1688 = some (.iaload) := by decide +kernel
theorem i_268_1689 : t_ins 268 1689 = some (.aload_n 0) := by decide +kernel
theorem i_268_1690 : t_ins 268 1690 = some (.iload 4) := by decide +kernel
theorem i_268_1692 : t_ins 268 1692 = some (.iconst 2) := by decide +kernel
theorem i_268_1693 : t_ins 268 1693 = some (.iadd) := by decide +kernel
theorem i_268_1694 : t_ins 268 1694 = some (.iaload) := by decide +kernel
theorem i_268_1695 : t_ins 268 1695 = some (.invokevirtual 188) := by decide +kernel
theorem i_268_1698 : t_ins 268 1698 = some (.istore 6) := by decide +kernel
theorem i_268_1700 : t_ins 268 1700 = some (.aload_n 2) := by decide +kernel
theorem i_268_1701 : t_ins 268 1701 = some (.invokevirtual 117) := by decide +kernel
theorem i_268_1704 : t_ins 268 1704 = some (.iload 5) := by decide +kernel
theorem i_268_1706 : t_ins 268 1706 = some (.if_icmp .eq 5) := by decide +kernel
theorem i_268_1709 : t_ins 268 1709 = some (.iconst 0) := by decide +kernel
theorem i_268_1710 : t_ins 268 1710 = some (.ireturn) := by decide +kernel
theorem i_268_1711 : t_ins 268 1711 = some (.iload 5) := by decide +kernel
theorem i_268_1713 : t_ins 268 1713 = some (.ifCond .ne 15) := by decide +kernel
theorem i_268_1716 : t_ins 268 1716 = some (.aload_n 3) := by decide +kernel
theorem i_268_1717 : t_ins 268 1717 = some (.iconst 0) := by decide +kernel
theorem i_268_1718 : t_ins 268 1718 = some (.laload) := by decide +kernel
theorem i_268_1719 : t_ins 268 1719 = some (.iload 6) := by decide +kernel
theorem i_268_1721 : t_ins 268 1721 = some (.i2l) := by decide +kernel
theorem i_268_1722 : t_ins 268 1722 = some (.lcmp) := by decide +kernel
theorem i_268_1723 : t_ins 268 1723 = some (.ifCond .eq 5) := by decide +kernel
theorem i_268_1726 : t_ins 268 1726 = some (.iconst 0) := by decide +kernel
theorem i_268_1727 : t_ins 268 1727 = some (.ireturn) := by decide +kernel
theorem i_268_1728 : t_ins 268 1728 = some (.goto 560) := by decide +kernel
theorem i_268_1731 : t_ins 268 1731 = some (.aload_n 1) := by decide +kernel
theorem i_268_1732 : t_ins 268 1732 = some (.aload_n 0) := by decide +kernel
theorem i_268_1733 : t_ins 268 1733 = some (.iload 4) := by decide +kernel
theorem i_268_1735 : t_ins 268 1735 = some (.iconst 1) := by decide +kernel
theorem i_268_1736 : t_ins 268 1736 = some (.iadd) := by decide +kernel
theorem i_268_1737 : t_ins 268 1737 = some (.iaload) := by decide +kernel
theorem i_268_1738 : t_ins 268 1738 = some (.aload_n 0) := by decide +kernel
theorem i_268_1739 : t_ins 268 1739 = some (.iload 4) := by decide +kernel
theorem i_268_1741 : t_ins 268 1741 = some (.iconst 2) := by decide +kernel
theorem i_268_1742 : t_ins 268 1742 = some (.iadd) := by decide +kernel
theorem i_268_1743 : t_ins 268 1743 = some (.iaload) := by decide +kernel
theorem i_268_1744 : t_ins 268 1744 = some (.aload_n 3) := by decide +kernel
theorem i_268_1745 : t_ins 268 1745 = some (.invokestatic 189) := by decide +kernel
theorem i_268_1748 : t_ins 268 1748 = some (.istore 5) := by decide +kernel
theorem i_268_1750 : t_ins 268 1750 = some (.aload_n 2) := by decide +kernel
theorem i_268_1751 : t_ins 268 1751 = some (.aload_n 0) := by decide +kernel
theorem i_268_1752 : t_ins 268 1752 = some (.iload 4) := by decide +kernel
theorem i_268_1754 : t_ins 268 1754 = some (.iconst 1) := by decide +kernel
theorem i_268_1755 : t_ins 268 1755 = some (.iadd) := by decide +kernel
theorem i_268_1756 : t_ins 268 1756 = some (.iaload) := by decide +kernel
theorem i_268_1757 : t_ins 268 1757 = some (.aload_n 0) := by decide +kernel
theorem i_268_1758 : t_ins 268 1758 = some (.iload 4) := by decide +kernel
theorem i_268_1760 : t_ins 268 1760 = some (.iconst 2) := by decide +kernel
theorem i_268_1761 : t_ins 268 1761 = some (.iadd) := by decide +kernel
theorem i_268_1762 : t_ins 268 1762 = some (.iaload) := by decide +kernel
theorem i_268_1763 : t_ins 268 1763 = some (.invokevirtual 191) := by decide +kernel
theorem i_268_1766 : t_ins 268 1766 = some (.istore 6) := by decide +kernel
theorem i_268_1768 : t_ins 268 1768 = some (.aload_n 2) := by decide +kernel
theorem i_268_1769 : t_ins 268 1769 = some (.invokevirtual 117) := by decide +kernel
theorem i_268_1772 : t_ins 268 1772 = some (.iload 5) := by decide +kernel
theorem i_268_1774 : t_ins 268 1774 = some (.if_icmp .eq 5) := by decide +kernel
theorem i_268_1777 : t_ins 268 1777 = some (.iconst 0) := by decide +kernel
theorem i_268_1778 : t_ins 268 1778 = some (.ireturn) := by decide +kernel
theorem i_268_1779 : t_ins 268 1779 = some (.iload 5) := by decide +kernel
theorem i_268_1781 : t_ins 268 1781 = some (.ifCond .ne 15) := by decide +kernel
theorem i_268_1784 : t_ins 268 1784 = some (.aload_n 3) := by decide +kernel
theorem i_268_1785 : t_ins 268 1785 = some (.iconst 0) := by decide +kernel
theorem i_268_1786 : t_ins 268 1786 = some (.laload) := by decide +kernel
theorem i_268_1787 : t_ins 268 1787 = some (.iload 6) := by decide +kernel
theorem i_268_1789 : t_ins 268 1789 = some (.i2l) := by decide +kernel
theorem i_268_1790 : t_ins 268 1790 = some (.lcmp) := by decide +kernel
theorem i_268_1791 : t_ins 268 1791 = some (.ifCond .eq 5) := by decide +kernel
theorem i_268_1794 : t_ins 268 1794 = some (.iconst 0) := by decide +kernel
theorem i_268_1795 : t_ins 268 1795 = some (.ireturn) := by decide +kernel
theorem i_268_1796 : t_ins 268 1796 = some (.goto 492) := by decide +kernel
theorem i_268_1799 : t_ins 268 1799 = some (.aload_n 1) := by decide +kernel
theorem i_268_1800 : t_ins 268 1800 = some (.invokevirtual 192) := by decide +kernel
theorem i_268_1803 : t_ins 268 1803 = some (.aload_n 2) := by decide +kernel
theorem i_268_1804 : t_ins 268 1804 = some (.invokevirtual 195) := by decide +kernel
theorem i_268_1807 : t_ins 268 1807 = some (.if_icmp .eq 481) := by decide +kernel
theorem i_268_1810 : t_ins 268 1810 = some (.iconst 0) := by decide +kernel
theorem i_268_1811 : t_ins 268 1811 = some (.ireturn) := by decide +kernel
theorem i_268_1812 : t_ins 268 1812 = some (.aload_n 1) := by decide +kernel
theorem i_268_1813 : t_ins 268 1813 = some (.aload_n 0) := by decide +kernel
theorem i_268_1814 : t_ins 268 1814 = some (.iload 4) := by decide +kernel
theorem i_268_1816 : t_ins 268 1816 = some (.iconst 1) := by decide +kernel
theorem i_268_1817 : t_ins 268 1817 = some (.iadd) := by decide +kernel
theorem i_268_1818 : t_ins 268 1818 = some (.iaload) := by decide +kernel
theorem i_268_1819 : t_ins 268 1819 = some (.aload_n 0) := by decide +kernel
theorem i_268_1820 : t_ins 268 1820 = some (.iload 4) := by decide +kernel
theorem i_268_1822 : t_ins 268 1822 = some (.iconst 2) := by decide +kernel
theorem i_268_1823 : t_ins 268 1823 = some (.iadd) := by decide +kernel
theorem i_268_1824 : t_ins 268 1824 = some (.iaload) := by decide +kernel
theorem i_268_1825 : t_ins 268 1825 = some (.aload_n 3) := by decide +kernel
theorem i_268_1826 : t_ins 268 1826 = some (.invokestatic 196) := by decide +kernel
theorem i_268_1829 : t_ins 268 1829 = some (.istore 5) := by decide +kernel
theorem i_268_1831 : t_ins 268 1831 = some (.aload_n 2) := by decide +kernel
theorem i_268_1832 : t_ins 268 1832 = some (.aload_n 0) := by decide +kernel
theorem i_268_1833 : t_ins 268 1833 = some (.iload 4) := by decide +kernel
theorem i_268_1835 : t_ins 268 1835 = some (.iconst 1) := by decide +kernel
theorem i_268_1836 : t_ins 268 1836 = some (.iadd) := by decide +kernel
theorem i_268_1837 : t_ins 268 1837 = some (.iaload) := by decide +kernel
theorem i_268_1838 : t_ins 268 1838 = some (.aload_n 0) := by decide +kernel
theorem i_268_1839 : t_ins 268 1839 = some (.iload 4) := by decide +kernel
theorem i_268_1841 : t_ins 268 1841 = some (.iconst 2) := by decide +kernel
theorem i_268_1842 : t_ins 268 1842 = some (.iadd) := by decide +kernel
theorem i_268_1843 : t_ins 268 1843 = some (.iaload) := by decide +kernel
theorem i_268_1844 : t_ins 268 1844 = some (.invokevirtual 198) := by decide +kernel
theorem i_268_1847 : t_ins 268 1847 = some (.istore 6) := by decide +kernel
theorem i_268_1849 : t_ins 268 1849 = some (.aload_n 2) := by decide +kernel
theorem i_268_1850 : t_ins 268 1850 = some (.invokevirtual 117) := by decide +kernel
theorem i_268_1853 : t_ins 268 1853 = some (.iload 5) := by decide +kernel
theorem i_268_1855 : t_ins 268 1855 = some (.if_icmp .eq 5) := by decide +kernel
theorem i_268_1858 : t_ins 268 1858 = some (.iconst 0) := by decide +kernel
theorem i_268_1859 : t_ins 268 1859 = some (.ireturn) := by decide +kernel
theorem i_268_1860 : t_ins 268 1860 = some (.iload 5) := by decide +kernel
theorem i_268_1862 : t_ins 268 1862 = some (.ifCond .ne 15) := by decide +kernel
theorem i_268_1865 : t_ins 268 1865 = some (.aload_n 3) := by decide +kernel
theorem i_268_1866 : t_ins 268 1866 = some (.iconst 0) := by decide +kernel
theorem i_268_1867 : t_ins 268 1867 = some (.laload) := by decide +kernel
theorem i_268_1868 : t_ins 268 1868 = some (.iload 6) := by decide +kernel
theorem i_268_1870 : t_ins 268 1870 = some (.i2l) := by decide +kernel
theorem i_268_1871 : t_ins 268 1871 = some (.lcmp) := by decide +kernel
theorem i_268_1872 : t_ins 268 1872 = some (.ifCond .eq 5) := by decide +kernel
theorem i_268_1875 : t_ins 268 1875 = some (.iconst 0) := by decide +kernel
theorem i_268_1876 : t_ins 268 1876 = some (.ireturn) := by decide +kernel
theorem i_268_1877 : t_ins 268 1877 = some (.goto 411) := by decide +kernel
theorem i_268_1880 : t_ins 268 1880 = some (.aload_n 1) := by decide +kernel
theorem i_268_1881 : t_ins 268 1881 = some (.aload_n 0) := by decide +kernel
theorem i_268_1882 : t_ins 268 1882 = some (.iload 4) := by decide +kernel
theorem i_268_1884 : t_ins 268 1884 = some (.iconst 1) := by decide +kernel
theorem i_268_1885 : t_ins 268 1885 = some (.iadd) := by decide +kernel
theorem i_268_1886 : t_ins 268 1886 = some (.iaload) := by decide +kernel
theorem i_268_1887 : t_ins 268 1887 = some (.aload_n 0) := by decide +kernel
theorem i_268_1888 : t_ins 268 1888 = some (.iload 4) := by decide +kernel
theorem i_268_1890 : t_ins 268 1890 = some (.iconst 2) := by decide +kernel
theorem i_268_1891 : t_ins 268 1891 = some (.iadd) := by decide +kernel
theorem i_268_1892 : t_ins 268 1892 = some (.iaload) := by decide +kernel
theorem i_268_1893 : t_ins 268 1893 = some (.aload_n 3) := by decide +kernel
theorem i_268_1894 : t_ins 268 1894 = some (.invokestatic 199) := by decide +kernel
theorem i_268_1897 : t_ins 268 1897 = some (.istore 5) := by decide +kernel
theorem i_268_1899 : t_ins 268 1899 = some (.aload_n 2) := by decide +kernel
theorem i_268_1900 : t_ins 268 1900 = some (.aload_n 0) := by decide +kernel
theorem i_268_1901 : t_ins 268 1901 = some (.iload 4) := by decide +kernel
theorem i_268_1903 : t_ins 268 1903 = some (.iconst 1) := by decide +kernel
theorem i_268_1904 : t_ins 268 1904 = some (.iadd) := by decide +kernel
theorem i_268_1905 : t_ins 268 1905 = some (.iaload) := by decide +kernel
theorem i_268_1906 : t_ins 268 1906 = some (.aload_n 0) := by decide +kernel
theorem i_268_1907 : t_ins 268 1907 = some (.iload 4) := by decide +kernel
theorem i_268_1909 : t_ins 268 1909 = some (.iconst 2) := by decide +kernel
theorem i_268_1910 : t_ins 268 1910 = some (.iadd) := by decide +kernel
theorem i_268_1911 : t_ins 268 1911 = some (.iaload) := by decide +kernel
theorem i_268_1912 : t_ins 268 1912 = some (.invokevirtual 201) := by decide +kernel
theorem i_268_1915 : t_ins 268 1915 = some (.istore 6) := by decide +kernel
theorem i_268_1917 : t_ins 268 1917 = some (.aload_n 2) := by decide +kernel
theorem i_268_1918 : t_ins 268 1918 = some (.invokevirtual 117) := by decide +kernel
theorem i_268_1921 : t_ins 268 1921 = some (.iload 5) := by decide +kernel
theorem i_268_1923 : t_ins 268 1923 = some (.if_icmp .eq 5) := by decide +kernel
theorem i_268_1926 : t_ins 268 1926 = some (.iconst 0) := by decide +kernel
theorem i_268_1927 : t_ins 268 1927 = some (.ireturn) := by decide +kernel
theorem i_268_1928 : t_ins 268 1928 = some (.iload 5) := by decide +kernel
theorem i_268_1930 : t_ins 268 1930 = some (.ifCond .ne 15) := by decide +kernel
theorem i_268_1933 : t_ins 268 1933 = some (.aload_n 3) := by decide +kernel
theorem i_268_1934 : t_ins 268 1934 = some (.iconst 0) := by decide +kernel
theorem i_268_1935 : t_ins 268 1935 = some (.laload) := by decide +kernel
theorem i_268_1936 : t_ins 268 1936 = some (.iload 6) := by decide +kernel
theorem i_268_1938 : t_ins 268 1938 = some (.i2l) := by decide +kernel
theorem i_268_1939 : t_ins 268 1939 = some (.lcmp) := by decide +kernel
theorem i_268_1940 : t_ins 268 1940 = some (.ifCond .eq 5) := by decide +kernel
theorem i_268_1943 : t_ins 268 1943 = some (.iconst 0) := by decide +kernel
theorem i_268_1944 : t_ins 268 1944 = some (.ireturn) := by decide +kernel
theorem i_268_1945 : t_ins 268 1945 = some (.goto 343) := by decide +kernel
theorem i_268_1948 : t_ins 268 1948 = some (.aload_n 1) := by decide +kernel
theorem i_268_1949 : t_ins 268 1949 = some (.aload_n 0) := by decide +kernel
theorem i_268_1950 : t_ins 268 1950 = some (.iload 4) := by decide +kernel
theorem i_268_1952 : t_ins 268 1952 = some (.iconst 1) := by decide +kernel
theorem i_268_1953 : t_ins 268 1953 = some (.iadd) := by decide +kernel
theorem i_268_1954 : t_ins 268 1954 = some (.iaload) := by decide +kernel
theorem i_268_1955 : t_ins 268 1955 = some (.aload_n 0) := by decide +kernel
theorem i_268_1956 : t_ins 268 1956 = some (.iload 4) := by decide +kernel
theorem i_268_1958 : t_ins 268 1958 = some (.iconst 2) := by decide +kernel
theorem i_268_1959 : t_ins 268 1959 = some (.iadd) := by decide +kernel
theorem i_268_1960 : t_ins 268 1960 = some (.iaload) := by decide +kernel
theorem i_268_1961 : t_ins 268 1961 = some (.aload_n 0) := by decide +kernel
theorem i_268_1962 : t_ins 268 1962 = some (.iload 4) := by decide +kernel
theorem i_268_1964 : t_ins 268 1964 = some (.iconst 3) := by decide +kernel
theorem i_268_1965 : t_ins 268 1965 = some (.iadd) := by decide +kernel
theorem i_268_1966 : t_ins 268 1966 = some (.iaload) := by decide +kernel
theorem i_268_1967 : t_ins 268 1967 = some (.aload_n 3) := by decide +kernel
theorem i_268_1968 : t_ins 268 1968 = some (.invokestatic 202) := by decide +kernel
theorem i_268_1971 : t_ins 268 1971 = some (.istore 5) := by decide +kernel
theorem i_268_1973 : t_ins 268 1973 = some (.aload_n 2) := by decide +kernel
theorem i_268_1974 : t_ins 268 1974 = some (.aload_n 0) := by decide +kernel
theorem i_268_1975 : t_ins 268 1975 = some (.iload 4) := by decide +kernel
theorem i_268_1977 : t_ins 268 1977 = some (.iconst 1) := by decide +kernel
theorem i_268_1978 : t_ins 268 1978 = some (.iadd) := by decide +kernel
theorem i_268_1979 : t_ins 268 1979 = some (.iaload) := by decide +kernel
theorem i_268_1980 : t_ins 268 1980 = some (.aload_n 0) := by decide +kernel
theorem i_268_1981 : t_ins 268 1981 = some (.iload 4) := by decide +kernel
theorem i_268_1983 : t_ins 268 1983 = some (.iconst 2) := by decide +kernel
theorem i_268_1984 : t_ins 268 1984 = some (.iadd) := by decide +kernel
theorem i_268_1985 : t_ins 268 1985 = some (.iaload) := by decide +kernel
theorem i_268_1986 : t_ins 268 1986 = some (.aload_n 0) := by decide +kernel
theorem i_268_1987 : t_ins 268 1987 = some (.iload 4) := by decide +kernel
theorem i_268_1989 : t_ins 268 1989 = some (.iconst 3) := by decide +kernel
theorem i_268_1990 : t_ins 268 1990 = some (.iadd) := by decide +kernel
theorem i_268_1991 : t_ins 268 1991 = some (.iaload) := by decide +kernel
theorem i_268_1992 : t_ins 268 1992 = some (.invokevirtual 204) := by decide +kernel
theorem i_268_1995 : t_ins 268 1995 = some (.istore 6) := by decide +kernel
theorem i_268_1997 : t_ins 268 1997 = some (.aload_n 2) := by decide +kernel
theorem i_268_1998 : t_ins 268 1998 = some (.invokevirtual 117) := by decide +kernel
theorem i_268_2001 : t_ins 268 2001 = some (.iload 5) := by decide +kernel
theorem i_268_2003 : t_ins 268 2003 = some (.if_icmp .eq 5) := by decide +kernel
theorem i_268_2006 : t_ins 268 2006 = some (.iconst 0) := by decide +kernel
theorem i_268_2007 : t_ins 268 2007 = some (.ireturn) := by decide +kernel
theorem i_268_2008 : t_ins 268 2008 = some (.iload 5) := by decide +kernel
theorem i_268_2010 : t_ins 268 2010 = some (.ifCond .ne 15) := by decide +kernel
theorem i_268_2013 : t_ins 268 2013 = some (.aload_n 3) := by decide +kernel
theorem i_268_2014 : t_ins 268 2014 = some (.iconst 0) := by decide +kernel
theorem i_268_2015 : t_ins 268 2015 = some (.laload) := by decide +kernel
theorem i_268_2016 : t_ins 268 2016 = some (.iload 6) := by decide +kernel
theorem i_268_2018 : t_ins 268 2018 = some (.i2l) := by decide +kernel
theorem i_268_2019 : t_ins 268 2019 = some (.lcmp) := by decide +kernel
theorem i_268_2020 : t_ins 268 2020 = some (.ifCond .eq 5) := by decide +kernel
theorem i_268_2023 : t_ins 268 2023 = some (.iconst 0) := by decide +kernel
theorem i_268_2024 : t_ins 268 2024 = some (.ireturn) := by decide +kernel
theorem i_268_2025 : t_ins 268 2025 = some (.goto 263) := by decide +kernel
theorem i_268_2028 : t_ins 268 2028 = some (.aload_n 1) := by decide +kernel
theorem i_268_2029 : t_ins 268 2029 = some (.aload_n 0) := by decide +kernel
theorem i_268_2030 : t_ins 268 2030 = some (.iload 4) := by decide +kernel
theorem i_268_2032 : t_ins 268 2032 = some (.iconst 1) := by decide +kernel
theorem i_268_2033 : t_ins 268 2033 = some (.iadd) := by decide +kernel
theorem i_268_2034 : t_ins 268 2034 = some (.iaload) := by decide +kernel
theorem i_268_2035 : t_ins 268 2035 = some (.aload_n 3) := by decide +kernel
theorem i_268_2036 : t_ins 268 2036 = some (.invokestatic 205) := by decide +kernel
theorem i_268_2039 : t_ins 268 2039 = some (.istore 5) := by decide +kernel
theorem i_268_2041 : t_ins 268 2041 = some (.aload_n 2) := by decide +kernel
theorem i_268_2042 : t_ins 268 2042 = some (.aload_n 0) := by decide +kernel
theorem i_268_2043 : t_ins 268 2043 = some (.iload 4) := by decide +kernel
theorem i_268_2045 : t_ins 268 2045 = some (.iconst 1) := by decide +kernel
theorem i_268_2046 : t_ins 268 2046 = some (.iadd) := by decide +kernel
theorem i_268_2047 : t_ins 268 2047 = some (.iaload) := by decide +kernel
theorem i_268_2048 : t_ins 268 2048 = some (.invokevirtual 207) := by decide +kernel
theorem i_268_2051 : t_ins 268 2051 = some (.istore 6) := by decide +kernel
theorem i_268_2053 : t_ins 268 2053 = some (.aload_n 2) := by decide +kernel
theorem i_268_2054 : t_ins 268 2054 = some (.invokevirtual 117) := by decide +kernel
theorem i_268_2057 : t_ins 268 2057 = some (.iload 5) := by decide +kernel
theorem i_268_2059 : t_ins 268 2059 = some (.if_icmp .eq 5) := by decide +kernel
theorem i_268_2062 : t_ins 268 2062 = some (.iconst 0) := by decide +kernel
theorem i_268_2063 : t_ins 268 2063 = some (.ireturn) := by decide +kernel
theorem i_268_2064 : t_ins 268 2064 = some (.iload 5) := by decide +kernel
theorem i_268_2066 : t_ins 268 2066 = some (.ifCond .ne 15) := by decide +kernel
theorem i_268_2069 : t_ins 268 2069 = some (.aload_n 3) := by decide +kernel
theorem i_268_2070 : t_ins 268 2070 = some (.iconst 0) := by decide +kernel
theorem i_268_2071 : t_ins 268 2071 = some (.laload) := by decide +kernel
theorem i_268_2072 : t_ins 268 2072 = some (.iload 6) := by decide +kernel
theorem i_268_2074 : t_ins 268 2074 = some (.i2l) := by decide +kernel
theorem i_268_2075 : t_ins 268 2075 = some (.lcmp) := by decide +kernel
theorem i_268_2076 : t_ins 268 2076 = some (.ifCond .eq 5) := by decide +kernel
theorem i_268_2079 : t_ins 268 2079 = some (.iconst 0) := by decide +kernel
theorem i_268_2080 : t_ins 268 2080 = some (.ireturn) := by decide +kernel
theorem i_268_2081 : t_ins 268 2081 = some (.goto 207) := by decide +kernel
theorem i_268_2084 : t_ins 268 2084 = some (.aload_n 1) := by decide +kernel
theorem i_268_2085 : t_ins 268 2085 = some (.aload_n 0) := by decide +kernel
theorem i_268_2086 : t_ins 268 2086 = some (.iload 4) := by decide +kernel
theorem i_268_2088 : t_ins 268 2088 = some (.iconst 1) := by decide +kernel
theorem i_268_2089 : t_ins 268 2089 = some (.iadd) := by decide +kernel
theorem i_268_2090 : t_ins 268 2090 = some (.iaload) := by decide +kernel
theorem i_268_2091 : t_ins 268 2091 = some (.aload_n 0) := by decide +kernel
theorem i_268_2092 : t_ins 268 2092 = some (.iload 4) := by decide +kernel
theorem i_268_2094 : t_ins 268 2094 = some (.iconst 2) := by decide +kernel
theorem i_268_2095 : t_ins 268 2095 = some (.iadd) := by decide +kernel
theorem i_268_2096 : t_ins 268 2096 = some (.iaload) := by decide +kernel
theorem i_268_2097 : t_ins 268 2097 = some (.aload_n 3) := by decide +kernel
theorem i_268_2098 : t_ins 268 2098 = some (.invokestatic 208) := by decide +kernel
theorem i_268_2101 : t_ins 268 2101 = some (.istore 5) := by decide +kernel
theorem i_268_2103 : t_ins 268 2103 = some (.aload_n 2) := by decide +kernel
theorem i_268_2104 : t_ins 268 2104 = some (.aload_n 0) := by decide +kernel
theorem i_268_2105 : t_ins 268 2105 = some (.iload 4) := by decide +kernel
theorem i_268_2107 : t_ins 268 2107 = some (.iconst 1) := by decide +kernel
theorem i_268_2108 : t_ins 268 2108 = some (.iadd) := by decide +kernel
theorem i_268_2109 : t_ins 268 2109 = some (.iaload) := by decide +kernel
theorem i_268_2110 : t_ins 268 2110 = some (.aload_n 0) := by decide +kernel
theorem i_268_2111 : t_ins 268 2111 = some (.iload 4) := by decide +kernel
theorem i_268_2113 : t_ins 268 2113 = some (.iconst 2) := by decide +kernel
theorem i_268_2114 : t_ins 268 2114 = some (.iadd) := by decide +kernel
theorem i_268_2115 : t_ins 268 2115 = some (.iaload) := by decide +kernel
theorem i_268_2116 : t_ins 268 2116 = some (.invokevirtual 210) := by decide +kernel
theorem i_268_2119 : t_ins 268 2119 = some (.istore 6) := by decide +kernel
theorem i_268_2121 : t_ins 268 2121 = some (.aload_n 2) := by decide +kernel
theorem i_268_2122 : t_ins 268 2122 = some (.invokevirtual 117) := by decide +kernel
theorem i_268_2125 : t_ins 268 2125 = some (.iload 5) := by decide +kernel
theorem i_268_2127 : t_ins 268 2127 = some (.if_icmp .eq 5) := by decide +kernel
theorem i_268_2130 : t_ins 268 2130 = some (.iconst 0) := by decide +kernel
theorem i_268_2131 : t_ins 268 2131 = some (.ireturn) := by decide +kernel
theorem i_268_2132 : t_ins 268 2132 = some (.iload 5) := by decide +kernel
theorem i_268_2134 : t_ins 268 2134 = some (.ifCond .ne 15) := by decide +kernel
theorem i_268_2137 : t_ins 268 2137 = some (.aload_n 3) := by decide +kernel
theorem i_268_2138 : t_ins 268 2138 = some (.iconst 0) := by decide +kernel
theorem i_268_2139 : t_ins 268 2139 = some (.laload) := by decide +kernel
theorem i_268_2140 : t_ins 268 2140 = some (.iload 6) := by decide +kernel
theorem i_268_2142 : t_ins 268 2142 = some (.i2l) := by decide +kernel
theorem i_268_2143 : t_ins 268 2143 = some (.lcmp) := by decide +kernel
theorem i_268_2144 : t_ins 268 2144 = some (.ifCond .eq 5) := by decide +kernel
theorem i_268_2147 : t_ins 268 2147 = some (.iconst 0) := by decide +kernel
theorem i_268_2148 : t_ins 268 2148 = some (.ireturn) := by decide +kernel
theorem i_268_2149 : t_ins 268 2149 = some (.goto 139) := by decide +kernel
theorem i_268_2152 : t_ins 268 2152 = some (.aload_n 1) := by decide +kernel
theorem i_268_2153 : t_ins 268 2153 = some (.aload_n 0) := by decide +kernel
theorem i_268_2154 : t_ins 268 2154 = some (.iload 4) := by decide +kernel
theorem i_268_2156 : t_ins 268 2156 = some (.iconst 1) := by decide +kernel
theorem i_268_2157 : t_ins 268 2157 = some (.iadd) := by decide +kernel
theorem i_268_2158 : t_ins 268 2158 = some (.iaload) := by decide +kernel
theorem i_268_2159 : t_ins 268 2159 = some (.aload_n 3) := by decide +kernel
theorem i_268_2160 : t_ins 268 2160 = some (.invokestatic 211) := by decide +kernel
theorem i_268_2163 : t_ins 268 2163 = some (.istore 5) := by decide +kernel
theorem i_268_2165 : t_ins 268 2165 = some (.aload_n 2) := by decide +kernel
theorem i_268_2166 : t_ins 268 2166 = some (.aload_n 0) := by decide +kernel
theorem i_268_2167 : t_ins 268 2167 = some (.iload 4) := by decide +kernel
theorem i_268_2169 : t_ins 268 2169 = some (.iconst 1) := by decide +kernel
theorem i_268_2170 : t_ins 268 2170 = some (.iadd) := by decide +kernel
theorem i_268_2171 : t_ins 268 2171 = some (.iaload) := by decide +kernel
theorem i_268_2172 : t_ins 268 2172 = some (.invokevirtual 213) := by decide +kernel
theorem i_268_2175 : t_ins 268 2175 = some (.istore 6) := by decide +kernel
theorem i_268_2177 : t_ins 268 2177 = some (.aload_n 2) := by decide +kernel
theorem i_268_2178 : t_ins 268 2178 = some (.invokevirtual 117) := by decide +kernel
theorem i_268_2181 : t_ins 268 2181 = some (.iload 5) := by decide +kernel
theorem i_268_2183 : t_ins 268 2183 = some (.if_icmp .eq 5) := by decide +kernel
theorem i_268_2186 : t_ins 268 2186 = some (.iconst 0) := by decide +kernel
theorem i_268_2187 : t_ins 268 2187 = some (.ireturn) := by decide +kernel
theorem i_268_2188 : t_ins 268 2188 = some (.iload 5) := by decide +kernel
theorem i_268_2190 : t_ins 268 2190 = some (.ifCond .ne 15) := by decide +kernel
theorem i_268_2193 : t_ins 268 2193 = some (.aload_n 3) := by decide +kernel
theorem i_268_2194 : t_ins 268 2194 = some (.iconst 0) := by decide +kernel
theorem i_268_2195 : t_ins 268 2195 = some (.laload) := by decide +kernel
theorem i_268_2196 : t_ins 268 2196 = some (.iload 6) := by decide +kernel
theorem i_268_2198 : t_ins 268 2198 = some (.i2l) := by decide +kernel
theorem i_268_2199 : t_ins 268 2199 = some (.lcmp) := by decide +kernel
theorem i_268_2200 : t_ins 268 2200 = some (.ifCond .eq 5) := by decide +kernel
theorem i_268_2203 : t_ins 268 2203 = some (.iconst 0) := by decide +kernel
theorem i_268_2204 : t_ins 268 2204 = some (.ireturn) := by decide +kernel
theorem i_268_2205 : t_ins 268 2205 = some (.goto 83) := by decide +kernel
theorem i_268_2208 : t_ins 268 2208 = some (.aload_n 1) := by decide +kernel
theorem i_268_2209 : t_ins 268 2209 = some (.aload_n 0) := by decide +kernel
theorem i_268_2210 : t_ins 268 2210 = some (.iload 4) := by decide +kernel
theorem i_268_2212 : t_ins 268 2212 = some (.iconst 1) := by decide +kernel
theorem i_268_2213 : t_ins 268 2213 = some (.iadd) := by decide +kernel
theorem i_268_2214 : t_ins 268 2214 = some (.iaload) := by decide +kernel
theorem i_268_2215 : t_ins 268 2215 = some (.aload_n 3) := by decide +kernel
theorem i_268_2216 : t_ins 268 2216 = some (.invokestatic 214) := by decide +kernel
theorem i_268_2219 : t_ins 268 2219 = some (.istore 5) := by decide +kernel
theorem i_268_2221 : t_ins 268 2221 = some (.aload_n 2) := by decide +kernel
theorem i_268_2222 : t_ins 268 2222 = some (.aload_n 0) := by decide +kernel
theorem i_268_2223 : t_ins 268 2223 = some (.iload 4) := by decide +kernel
theorem i_268_2225 : t_ins 268 2225 = some (.iconst 1) := by decide +kernel
theorem i_268_2226 : t_ins 268 2226 = some (.iadd) := by decide +kernel
theorem i_268_2227 : t_ins 268 2227 = some (.iaload) := by decide +kernel
theorem i_268_2228 : t_ins 268 2228 = some (.invokevirtual 216) := by decide +kernel
theorem i_268_2231 : t_ins 268 2231 = some (.lstore 6) := by decide +kernel
theorem i_268_2233 : t_ins 268 2233 = some (.aload_n 2) := by decide +kernel
theorem i_268_2234 : t_ins 268 2234 = some (.invokevirtual 117) := by decide +kernel
theorem i_268_2237 : t_ins 268 2237 = some (.iload 5) := by decide +kernel
theorem i_268_2239 : t_ins 268 2239 = some (.if_icmp .eq 5) := by decide +kernel
theorem i_268_2242 : t_ins 268 2242 = some (.iconst 0) := by decide +kernel
theorem i_268_2243 : t_ins 268 2243 = some (.ireturn) := by decide +kernel
theorem i_268_2244 : t_ins 268 2244 = some (.iload 5) := by decide +kernel
theorem i_268_2246 : t_ins 268 2246 = some (.ifCond .ne 14) := by decide +kernel
theorem i_268_2249 : t_ins 268 2249 = some (.aload_n 3) := by decide +kernel
theorem i_268_2250 : t_ins 268 2250 = some (.iconst 0) := by decide +kernel
theorem i_268_2251 : t_ins 268 2251 = some (.laload) := by decide +kernel
theorem i_268_2252 : t_ins 268 2252 = some (.lload 6) := by decide +kernel
theorem i_268_2254 : t_ins 268 2254 = some (.lcmp) := by decide +kernel
theorem i_268_2255 : t_ins 268 2255 = some (.ifCond .eq 5) := by decide +kernel
theorem i_268_2258 : t_ins 268 2258 = some (.iconst 0) := by decide +kernel
theorem i_268_2259 : t_ins 268 2259 = some (.ireturn) := by decide +kernel
theorem i_268_2260 : t_ins 268 2260 = some (.goto 28) := by decide +kernel
theorem i_268_2263 : t_ins 268 2263 = some (.aload_n 1) := by decide +kernel
theorem i_268_2264 : t_ins 268 2264 = some (.aload_n 0) := by decide +kernel
theorem i_268_2265 : t_ins 268 2265 = some (.iload 4) := by decide +kernel
theorem i_268_2267 : t_ins 268 2267 = some (.iconst 1) := by decide +kernel
theorem i_268_2268 : t_ins 268 2268 = some (.iadd) := by decide +kernel
theorem i_268_2269 : t_ins 268 2269 = some (.iaload) := by decide +kernel
theorem i_268_2270 : t_ins 268 2270 = some (.invokevirtual 217) := by decide +kernel
theorem i_268_2273 : t_ins 268 2273 = some (.aload_n 2) := by decide +kernel
theorem i_268_2274 : t_ins 268 2274 = some (.aload_n 0) := by decide +kernel
theorem i_268_2275 : t_ins 268 2275 = some (.iload 4) := by decide +kernel
theorem i_268_2277 : t_ins 268 2277 = some (.iconst 1) := by decide +kernel
theorem i_268_2278 : t_ins 268 2278 = some (.iadd) := by decide +kernel
theorem i_268_2279 : t_ins 268 2279 = some (.iaload) := by decide +kernel
theorem i_268_2280 : t_ins 268 2280 = some (.invokevirtual 220) := by decide +kernel
theorem i_268_2283 : t_ins 268 2283 = some (.if_icmp .eq 5) := by decide +kernel
theorem i_268_2286 : t_ins 268 2286 = some (.iconst 0) := by decide +kernel
theorem i_268_2287 : t_ins 268 2287 = some (.ireturn) := by decide +kernel
theorem i_268_2288 : t_ins 268 2288 = some (.iinc 4 6) := by decide +kernel
theorem i_268_2291 : t_ins 268 2291 = some (.goto (-2268)) := by decide +kernel
theorem i_268_2294 : t_ins 268 2294 = some (.iconst 1) := by decide +kernel
theorem i_268_2295 : t_ins 268 2295 = some (.ireturn) := by decide +kernel
theorem q_268_1626 : XX d 268 1626 [v0, v1, v2, v3, v4, v5, v6, v7] (.int x :: .ref a :: st) (mk S I L R G) Q ↔ inA (S a) ok_i x ∧ XX d 268 1627 [v0, v1, v2, v3, v4, v5, v6, v7] (.int (I a (ix x)) :: st) (mk S I L R G) Q := r_ia i_268_1626
theorem q_268_1627 : XX (d + 1) 268 1627 [v0, v1, v2, v3, v4, v5, v6, v7] [.int x4, .int x3, .int x2, .int x1, .ref a0] (mk S I L R G) Q ↔ S a0 = some (.inr 12) ∧ XC d 226 [.ref a0, .int x1, .int x2, .int x3, .int x4] (mk S I L R G) (XK (d + 1) 268 1627 [v0, v1, v2, v3, v4, v5, v6, v7] [] Q) := c_callV i_268_1627 rfl rfl rfl rfl (Nat.le_of_ble_eq_true rfl) (Nat.le_of_ble_eq_true rfl) rfl
theorem q_268_1630 : XX d 268 1630 [v0, v1, v2, v3, v4, some (.int z), v6, v7] (.int x :: st) A Q ↔ XX d 268 1632 [v0, v1, v2, v3, v4, some (.int z), some (.int x), v7] st A Q := c_lcl i_268_1630 rfl rfl
theorem q_268_1632 : XX d 268 1632 [v0, v1, some (.ref a), v3, v4, v5, v6, v7] st A Q ↔ XX d 268 1633 [v0, v1, some (.ref a), v3, v4, v5, v6, v7] (.ref a :: st) A Q := c_lcl i_268_1632 rfl rfl
theorem q_268_1633 : XX (d + 1) 268 1633 [v0, v1, v2, v3, v4, v5, v6, v7] [.ref a0] (mk S I L R G) Q ↔ S a0 = some (.inr 12) ∧ XC d 153 [.ref a0] (mk S I L R G) (XK (d + 1) 268 1633 [v0, v1, v2, v3, v4, v5, v6, v7] [] Q) := c_callV i_268_1633 rfl rfl rfl rfl (Nat.le_of_ble_eq_true rfl) (Nat.le_of_ble_eq_true rfl) rfl
theorem q_268_1636 : XX d 268 1636 [v0, v1, v2, v3, v4, some (.int x), v6, v7] st A Q ↔ XX d 268 1638 [v0, v1, v2, v3, v4, some (.int x), v6, v7] (.int x :: st) A Q := c_lcl i_268_1636 rfl rfl
theorem q_268_1638 : XX d 268 1638 [v0, v1, v2, v3, v4, v5, v6, v7] (.int y :: .int x :: st) A Q ↔ if x = y then XX d 268 1643 [v0, v1, v2, v3, v4, v5, v6, v7] st A Q else XX d 268 1641 [v0, v1, v2, v3, v4, v5, v6, v7] st A Q := b_eq i_268_1638 rfl rfl rfl
theorem q_268_1641 : XX d 268 1641 [v0, v1, v2, v3, v4, v5, v6, v7] st A Q ↔ XX d 268 1642 [v0, v1, v2, v3, v4, v5, v6, v7] (.int (w 0) :: st) A Q := c_stk i_268_1641 rfl
theorem q_268_1642 : XX d 268 1642 [v0, v1, v2, v3, v4, v5, v6, v7] [.int x] A Q ↔ (x = w 0 ∨ x = w 1) ∧ Q (.inl (some (.int x))) A := e_retZ i_268_1642 rfl
theorem q_268_1643 : XX d 268 1643 [v0, v1, v2, v3, v4, some (.int x), v6, v7] st A Q ↔ XX d 268 1645 [v0, v1, v2, v3, v4, some (.int x), v6, v7] (.int x :: st) A Q := c_lcl i_268_1643 rfl rfl
theorem q_268_1645 : XX d 268 1645 [v0, v1, v2, v3, v4, v5, v6, v7] (.int x :: st) A Q ↔ if x = w 0 then XX d 268 1648 [v0, v1, v2, v3, v4, v5, v6, v7] st A Q else XX d 268 1660 [v0, v1, v2, v3, v4, v5, v6, v7] st A Q := z_ne i_268_1645 rfl rfl rfl
theorem q_268_1648 : XX d 268 1648 [v0, v1, v2, some (.ref a), v4, v5, v6, v7] st A Q ↔ XX d 268 1649 [v0, v1, v2, some (.ref a), v4, v5, v6, v7] (.ref a :: st) A Q := c_lcl i_268_1648 rfl rfl
theorem q_268_1649 : XX d 268 1649 [v0, v1, v2, v3, v4, v5, v6, v7] st A Q ↔ XX d 268 1650 [v0, v1, v2, v3, v4, v5, v6, v7] (.int (w 0) :: st) A Q := c_stk i_268_1649 rfl
theorem q_268_1650 : XX d 268 1650 [v0, v1, v2, v3, v4, v5, v6, v7] (.int x :: .ref a :: st) (mk S I L R G) Q ↔ inA (S a) ok_l x ∧ XX d 268 1651 [v0, v1, v2, v3, v4, v5, v6, v7] (.long (L a (ix x)) :: st) (mk S I L R G) Q := r_la i_268_1650
theorem q_268_1651 : XX d 268 1651 [v0, v1, v2, v3, v4, v5, some (.int x), v7] st A Q ↔ XX d 268 1653 [v0, v1, v2, v3, v4, v5, some (.int x), v7] (.int x :: st) A Q := c_lcl i_268_1651 rfl rfl
theorem q_268_1653 : XX d 268 1653 [v0, v1, v2, v3, v4, v5, v6, v7] (.int x :: st) A Q ↔ XX d 268 1654 [v0, v1, v2, v3, v4, v5, v6, v7] (.long x.toInt64 :: st) A Q := c_stk i_268_1653 rfl
theorem q_268_1654 : XX d 268 1654 [v0, v1, v2, v3, v4, v5, v6, v7] (.long ly :: .long lx :: st) A Q ↔ XX d 268 1655 [v0, v1, v2, v3, v4, v5, v6, v7] (.int (lg_cmp lx ly) :: st) A Q := c_stk i_268_1654 rfl
theorem q_268_1655 : XX d 268 1655 [v0, v1, v2, v3, v4, v5, v6, v7] (.int x :: st) A Q ↔ if x = w 0 then XX d 268 1660 [v0, v1, v2, v3, v4, v5, v6, v7] st A Q else XX d 268 1658 [v0, v1, v2, v3, v4, v5, v6, v7] st A Q := z_eq i_268_1655 rfl rfl rfl
theorem q_268_1658 : XX d 268 1658 [v0, v1, v2, v3, v4, v5, v6, v7] st A Q ↔ XX d 268 1659 [v0, v1, v2, v3, v4, v5, v6, v7] (.int (w 0) :: st) A Q := c_stk i_268_1658 rfl
theorem q_268_1659 : XX d 268 1659 [v0, v1, v2, v3, v4, v5, v6, v7] [.int x] A Q ↔ (x = w 0 ∨ x = w 1) ∧ Q (.inl (some (.int x))) A := e_retZ i_268_1659 rfl
theorem q_268_1660 : XX d 268 1660 [v0, v1, v2, v3, v4, v5, v6, v7] st A Q ↔ XX d 268 2288 [v0, v1, v2, v3, v4, v5, v6, v7] st A Q := c_go i_268_1660 rfl rfl
theorem q_268_1663 : XX d 268 1663 [v0, some (.ref a), v2, v3, v4, v5, v6, v7] st A Q ↔ XX d 268 1664 [v0, some (.ref a), v2, v3, v4, v5, v6, v7] (.ref a :: st) A Q := c_lcl i_268_1663 rfl rfl
theorem q_268_1664 : XX d 268 1664 [some (.ref a), v1, v2, v3, v4, v5, v6, v7] st A Q ↔ XX d 268 1665 [some (.ref a), v1, v2, v3, v4, v5, v6, v7] (.ref a :: st) A Q := c_lcl i_268_1664 rfl rfl
theorem q_268_1665 : XX d 268 1665 [v0, v1, v2, v3, some (.int x), v5, v6, v7] st A Q ↔ XX d 268 1667 [v0, v1, v2, v3, some (.int x), v5, v6, v7] (.int x :: st) A Q := c_lcl i_268_1665 rfl rfl
theorem q_268_1667 : XX d 268 1667 [v0, v1, v2, v3, v4, v5, v6, v7] st A Q ↔ XX d 268 1668 [v0, v1, v2, v3, v4, v5, v6, v7] (.int (w 1) :: st) A Q := c_stk i_268_1667 rfl
theorem q_268_1668 : XX d 268 1668 [v0, v1, v2, v3, v4, v5, v6, v7] (.int y :: .int x :: st) A Q ↔ XX d 268 1669 [v0, v1, v2, v3, v4, v5, v6, v7] (.int (x + y) :: st) A Q := c_stk i_268_1668 rfl
theorem q_268_1669 : XX d 268 1669 [v0, v1, v2, v3, v4, v5, v6, v7] (.int x :: .ref a :: st) (mk S I L R G) Q ↔ inA (S a) ok_i x ∧ XX d 268 1670 [v0, v1, v2, v3, v4, v5, v6, v7] (.int (I a (ix x)) :: st) (mk S I L R G) Q := r_ia i_268_1669
theorem q_268_1670 : XX d 268 1670 [some (.ref a), v1, v2, v3, v4, v5, v6, v7] st A Q ↔ XX d 268 1671 [some (.ref a), v1, v2, v3, v4, v5, v6, v7] (.ref a :: st) A Q := c_lcl i_268_1670 rfl rfl
theorem q_268_1671 : XX d 268 1671 [v0, v1, v2, v3, some (.int x), v5, v6, v7] st A Q ↔ XX d 268 1673 [v0, v1, v2, v3, some (.int x), v5, v6, v7] (.int x :: st) A Q := c_lcl i_268_1671 rfl rfl
theorem q_268_1673 : XX d 268 1673 [v0, v1, v2, v3, v4, v5, v6, v7] st A Q ↔ XX d 268 1674 [v0, v1, v2, v3, v4, v5, v6, v7] (.int (w 2) :: st) A Q := c_stk i_268_1673 rfl
theorem q_268_1674 : XX d 268 1674 [v0, v1, v2, v3, v4, v5, v6, v7] (.int y :: .int x :: st) A Q ↔ XX d 268 1675 [v0, v1, v2, v3, v4, v5, v6, v7] (.int (x + y) :: st) A Q := c_stk i_268_1674 rfl
theorem q_268_1675 : XX d 268 1675 [v0, v1, v2, v3, v4, v5, v6, v7] (.int x :: .ref a :: st) (mk S I L R G) Q ↔ inA (S a) ok_i x ∧ XX d 268 1676 [v0, v1, v2, v3, v4, v5, v6, v7] (.int (I a (ix x)) :: st) (mk S I L R G) Q := r_ia i_268_1675
theorem q_268_1676 : XX d 268 1676 [v0, v1, v2, some (.ref a), v4, v5, v6, v7] st A Q ↔ XX d 268 1677 [v0, v1, v2, some (.ref a), v4, v5, v6, v7] (.ref a :: st) A Q := c_lcl i_268_1676 rfl rfl
theorem q_268_1677 : XX (d + 1) 268 1677 [v0, v1, v2, v3, v4, v5, v6, v7] [.ref a3, .int x2, .int x1, .ref a0] A Q ↔ XC d 259 [.ref a0, .int x1, .int x2, .ref a3] A (XK (d + 1) 268 1677 [v0, v1, v2, v3, v4, v5, v6, v7] [] Q) := c_callS i_268_1677 rfl rfl rfl rfl (Nat.le_of_ble_eq_true rfl) (Nat.le_of_ble_eq_true rfl)
theorem q_268_1680 : XX d 268 1680 [v0, v1, v2, v3, some (.int z), v5, v6, v7] (.int x :: st) A Q ↔ XX d 268 1682 [v0, v1, v2, v3, some (.int z), some (.int x), v6, v7] st A Q := c_lcl i_268_1680 rfl rfl
theorem q_268_1682 : XX d 268 1682 [v0, v1, some (.ref a), v3, v4, v5, v6, v7] st A Q ↔ XX d 268 1683 [v0, v1, some (.ref a), v3, v4, v5, v6, v7] (.ref a :: st) A Q := c_lcl i_268_1682 rfl rfl
theorem q_268_1683 : XX d 268 1683 [some (.ref a), v1, v2, v3, v4, v5, v6, v7] st A Q ↔ XX d 268 1684 [some (.ref a), v1, v2, v3, v4, v5, v6, v7] (.ref a :: st) A Q := c_lcl i_268_1683 rfl rfl
theorem q_268_1684 : XX d 268 1684 [v0, v1, v2, v3, some (.int x), v5, v6, v7] st A Q ↔ XX d 268 1686 [v0, v1, v2, v3, some (.int x), v5, v6, v7] (.int x :: st) A Q := c_lcl i_268_1684 rfl rfl
theorem q_268_1686 : XX d 268 1686 [v0, v1, v2, v3, v4, v5, v6, v7] st A Q ↔ XX d 268 1687 [v0, v1, v2, v3, v4, v5, v6, v7] (.int (w 1) :: st) A Q := c_stk i_268_1686 rfl
theorem q_268_1687 : XX d 268 1687 [v0, v1, v2, v3, v4, v5, v6, v7] (.int y :: .int x :: st) A Q ↔ XX d 268 1688 [v0, v1, v2, v3, v4, v5, v6, v7] (.int (x + y) :: st) A Q := c_stk i_268_1687 rfl
theorem q_268_1688 : XX d 268 1688 [v0, v1, v2, v3, v4, v5, v6, v7] (.int x :: .ref a :: st) (mk S I L R G) Q ↔ inA (S a) ok_i x ∧ XX d 268 1689 [v0, v1, v2, v3, v4, v5, v6, v7] (.int (I a (ix x)) :: st) (mk S I L R G) Q := r_ia i_268_1688
theorem q_268_1689 : XX d 268 1689 [some (.ref a), v1, v2, v3, v4, v5, v6, v7] st A Q ↔ XX d 268 1690 [some (.ref a), v1, v2, v3, v4, v5, v6, v7] (.ref a :: st) A Q := c_lcl i_268_1689 rfl rfl
theorem q_268_1690 : XX d 268 1690 [v0, v1, v2, v3, some (.int x), v5, v6, v7] st A Q ↔ XX d 268 1692 [v0, v1, v2, v3, some (.int x), v5, v6, v7] (.int x :: st) A Q := c_lcl i_268_1690 rfl rfl
theorem q_268_1692 : XX d 268 1692 [v0, v1, v2, v3, v4, v5, v6, v7] st A Q ↔ XX d 268 1693 [v0, v1, v2, v3, v4, v5, v6, v7] (.int (w 2) :: st) A Q := c_stk i_268_1692 rfl
theorem q_268_1693 : XX d 268 1693 [v0, v1, v2, v3, v4, v5, v6, v7] (.int y :: .int x :: st) A Q ↔ XX d 268 1694 [v0, v1, v2, v3, v4, v5, v6, v7] (.int (x + y) :: st) A Q := c_stk i_268_1693 rfl
theorem q_268_1694 : XX d 268 1694 [v0, v1, v2, v3, v4, v5, v6, v7] (.int x :: .ref a :: st) (mk S I L R G) Q ↔ inA (S a) ok_i x ∧ XX d 268 1695 [v0, v1, v2, v3, v4, v5, v6, v7] (.int (I a (ix x)) :: st) (mk S I L R G) Q := r_ia i_268_1694
theorem q_268_1695 : XX (d + 1) 268 1695 [v0, v1, v2, v3, v4, v5, v6, v7] [.int x2, .int x1, .ref a0] (mk S I L R G) Q ↔ S a0 = some (.inr 12) ∧ XC d 227 [.ref a0, .int x1, .int x2] (mk S I L R G) (XK (d + 1) 268 1695 [v0, v1, v2, v3, v4, v5, v6, v7] [] Q) := c_callV i_268_1695 rfl rfl rfl rfl (Nat.le_of_ble_eq_true rfl) (Nat.le_of_ble_eq_true rfl) rfl
theorem q_268_1698 : XX d 268 1698 [v0, v1, v2, v3, v4, some (.int z), v6, v7] (.int x :: st) A Q ↔ XX d 268 1700 [v0, v1, v2, v3, v4, some (.int z), some (.int x), v7] st A Q := c_lcl i_268_1698 rfl rfl
theorem q_268_1700 : XX d 268 1700 [v0, v1, some (.ref a), v3, v4, v5, v6, v7] st A Q ↔ XX d 268 1701 [v0, v1, some (.ref a), v3, v4, v5, v6, v7] (.ref a :: st) A Q := c_lcl i_268_1700 rfl rfl
theorem q_268_1701 : XX (d + 1) 268 1701 [v0, v1, v2, v3, v4, v5, v6, v7] [.ref a0] (mk S I L R G) Q ↔ S a0 = some (.inr 12) ∧ XC d 153 [.ref a0] (mk S I L R G) (XK (d + 1) 268 1701 [v0, v1, v2, v3, v4, v5, v6, v7] [] Q) := c_callV i_268_1701 rfl rfl rfl rfl (Nat.le_of_ble_eq_true rfl) (Nat.le_of_ble_eq_true rfl) rfl
theorem q_268_1704 : XX d 268 1704 [v0, v1, v2, v3, v4, some (.int x), v6, v7] st A Q ↔ XX d 268 1706 [v0, v1, v2, v3, v4, some (.int x), v6, v7] (.int x :: st) A Q := c_lcl i_268_1704 rfl rfl
theorem q_268_1706 : XX d 268 1706 [v0, v1, v2, v3, v4, v5, v6, v7] (.int y :: .int x :: st) A Q ↔ if x = y then XX d 268 1711 [v0, v1, v2, v3, v4, v5, v6, v7] st A Q else XX d 268 1709 [v0, v1, v2, v3, v4, v5, v6, v7] st A Q := b_eq i_268_1706 rfl rfl rfl
theorem q_268_1709 : XX d 268 1709 [v0, v1, v2, v3, v4, v5, v6, v7] st A Q ↔ XX d 268 1710 [v0, v1, v2, v3, v4, v5, v6, v7] (.int (w 0) :: st) A Q := c_stk i_268_1709 rfl
theorem q_268_1710 : XX d 268 1710 [v0, v1, v2, v3, v4, v5, v6, v7] [.int x] A Q ↔ (x = w 0 ∨ x = w 1) ∧ Q (.inl (some (.int x))) A := e_retZ i_268_1710 rfl
theorem q_268_1711 : XX d 268 1711 [v0, v1, v2, v3, v4, some (.int x), v6, v7] st A Q ↔ XX d 268 1713 [v0, v1, v2, v3, v4, some (.int x), v6, v7] (.int x :: st) A Q := c_lcl i_268_1711 rfl rfl
theorem q_268_1713 : XX d 268 1713 [v0, v1, v2, v3, v4, v5, v6, v7] (.int x :: st) A Q ↔ if x = w 0 then XX d 268 1716 [v0, v1, v2, v3, v4, v5, v6, v7] st A Q else XX d 268 1728 [v0, v1, v2, v3, v4, v5, v6, v7] st A Q := z_ne i_268_1713 rfl rfl rfl
theorem q_268_1716 : XX d 268 1716 [v0, v1, v2, some (.ref a), v4, v5, v6, v7] st A Q ↔ XX d 268 1717 [v0, v1, v2, some (.ref a), v4, v5, v6, v7] (.ref a :: st) A Q := c_lcl i_268_1716 rfl rfl
theorem q_268_1717 : XX d 268 1717 [v0, v1, v2, v3, v4, v5, v6, v7] st A Q ↔ XX d 268 1718 [v0, v1, v2, v3, v4, v5, v6, v7] (.int (w 0) :: st) A Q := c_stk i_268_1717 rfl
theorem q_268_1718 : XX d 268 1718 [v0, v1, v2, v3, v4, v5, v6, v7] (.int x :: .ref a :: st) (mk S I L R G) Q ↔ inA (S a) ok_l x ∧ XX d 268 1719 [v0, v1, v2, v3, v4, v5, v6, v7] (.long (L a (ix x)) :: st) (mk S I L R G) Q := r_la i_268_1718
theorem q_268_1719 : XX d 268 1719 [v0, v1, v2, v3, v4, v5, some (.int x), v7] st A Q ↔ XX d 268 1721 [v0, v1, v2, v3, v4, v5, some (.int x), v7] (.int x :: st) A Q := c_lcl i_268_1719 rfl rfl
theorem q_268_1721 : XX d 268 1721 [v0, v1, v2, v3, v4, v5, v6, v7] (.int x :: st) A Q ↔ XX d 268 1722 [v0, v1, v2, v3, v4, v5, v6, v7] (.long x.toInt64 :: st) A Q := c_stk i_268_1721 rfl
theorem q_268_1722 : XX d 268 1722 [v0, v1, v2, v3, v4, v5, v6, v7] (.long ly :: .long lx :: st) A Q ↔ XX d 268 1723 [v0, v1, v2, v3, v4, v5, v6, v7] (.int (lg_cmp lx ly) :: st) A Q := c_stk i_268_1722 rfl
theorem q_268_1723 : XX d 268 1723 [v0, v1, v2, v3, v4, v5, v6, v7] (.int x :: st) A Q ↔ if x = w 0 then XX d 268 1728 [v0, v1, v2, v3, v4, v5, v6, v7] st A Q else XX d 268 1726 [v0, v1, v2, v3, v4, v5, v6, v7] st A Q := z_eq i_268_1723 rfl rfl rfl
theorem q_268_1726 : XX d 268 1726 [v0, v1, v2, v3, v4, v5, v6, v7] st A Q ↔ XX d 268 1727 [v0, v1, v2, v3, v4, v5, v6, v7] (.int (w 0) :: st) A Q := c_stk i_268_1726 rfl
theorem q_268_1727 : XX d 268 1727 [v0, v1, v2, v3, v4, v5, v6, v7] [.int x] A Q ↔ (x = w 0 ∨ x = w 1) ∧ Q (.inl (some (.int x))) A := e_retZ i_268_1727 rfl
theorem q_268_1728 : XX d 268 1728 [v0, v1, v2, v3, v4, v5, v6, v7] st A Q ↔ XX d 268 2288 [v0, v1, v2, v3, v4, v5, v6, v7] st A Q := c_go i_268_1728 rfl rfl
theorem q_268_1731 : XX d 268 1731 [v0, some (.ref a), v2, v3, v4, v5, v6, v7] st A Q ↔ XX d 268 1732 [v0, some (.ref a), v2, v3, v4, v5, v6, v7] (.ref a :: st) A Q := c_lcl i_268_1731 rfl rfl
theorem q_268_1732 : XX d 268 1732 [some (.ref a), v1, v2, v3, v4, v5, v6, v7] st A Q ↔ XX d 268 1733 [some (.ref a), v1, v2, v3, v4, v5, v6, v7] (.ref a :: st) A Q := c_lcl i_268_1732 rfl rfl
theorem q_268_1733 : XX d 268 1733 [v0, v1, v2, v3, some (.int x), v5, v6, v7] st A Q ↔ XX d 268 1735 [v0, v1, v2, v3, some (.int x), v5, v6, v7] (.int x :: st) A Q := c_lcl i_268_1733 rfl rfl
theorem q_268_1735 : XX d 268 1735 [v0, v1, v2, v3, v4, v5, v6, v7] st A Q ↔ XX d 268 1736 [v0, v1, v2, v3, v4, v5, v6, v7] (.int (w 1) :: st) A Q := c_stk i_268_1735 rfl
theorem q_268_1736 : XX d 268 1736 [v0, v1, v2, v3, v4, v5, v6, v7] (.int y :: .int x :: st) A Q ↔ XX d 268 1737 [v0, v1, v2, v3, v4, v5, v6, v7] (.int (x + y) :: st) A Q := c_stk i_268_1736 rfl
theorem q_268_1737 : XX d 268 1737 [v0, v1, v2, v3, v4, v5, v6, v7] (.int x :: .ref a :: st) (mk S I L R G) Q ↔ inA (S a) ok_i x ∧ XX d 268 1738 [v0, v1, v2, v3, v4, v5, v6, v7] (.int (I a (ix x)) :: st) (mk S I L R G) Q := r_ia i_268_1737
theorem q_268_1738 : XX d 268 1738 [some (.ref a), v1, v2, v3, v4, v5, v6, v7] st A Q ↔ XX d 268 1739 [some (.ref a), v1, v2, v3, v4, v5, v6, v7] (.ref a :: st) A Q := c_lcl i_268_1738 rfl rfl
theorem q_268_1739 : XX d 268 1739 [v0, v1, v2, v3, some (.int x), v5, v6, v7] st A Q ↔ XX d 268 1741 [v0, v1, v2, v3, some (.int x), v5, v6, v7] (.int x :: st) A Q := c_lcl i_268_1739 rfl rfl
theorem q_268_1741 : XX d 268 1741 [v0, v1, v2, v3, v4, v5, v6, v7] st A Q ↔ XX d 268 1742 [v0, v1, v2, v3, v4, v5, v6, v7] (.int (w 2) :: st) A Q := c_stk i_268_1741 rfl
theorem q_268_1742 : XX d 268 1742 [v0, v1, v2, v3, v4, v5, v6, v7] (.int y :: .int x :: st) A Q ↔ XX d 268 1743 [v0, v1, v2, v3, v4, v5, v6, v7] (.int (x + y) :: st) A Q := c_stk i_268_1742 rfl
theorem q_268_1743 : XX d 268 1743 [v0, v1, v2, v3, v4, v5, v6, v7] (.int x :: .ref a :: st) (mk S I L R G) Q ↔ inA (S a) ok_i x ∧ XX d 268 1744 [v0, v1, v2, v3, v4, v5, v6, v7] (.int (I a (ix x)) :: st) (mk S I L R G) Q := r_ia i_268_1743
theorem q_268_1744 : XX d 268 1744 [v0, v1, v2, some (.ref a), v4, v5, v6, v7] st A Q ↔ XX d 268 1745 [v0, v1, v2, some (.ref a), v4, v5, v6, v7] (.ref a :: st) A Q := c_lcl i_268_1744 rfl rfl
theorem q_268_1745 : XX (d + 1) 268 1745 [v0, v1, v2, v3, v4, v5, v6, v7] [.ref a3, .int x2, .int x1, .ref a0] A Q ↔ XC d 260 [.ref a0, .int x1, .int x2, .ref a3] A (XK (d + 1) 268 1745 [v0, v1, v2, v3, v4, v5, v6, v7] [] Q) := c_callS i_268_1745 rfl rfl rfl rfl (Nat.le_of_ble_eq_true rfl) (Nat.le_of_ble_eq_true rfl)
theorem q_268_1748 : XX d 268 1748 [v0, v1, v2, v3, some (.int z), v5, v6, v7] (.int x :: st) A Q ↔ XX d 268 1750 [v0, v1, v2, v3, some (.int z), some (.int x), v6, v7] st A Q := c_lcl i_268_1748 rfl rfl
theorem q_268_1750 : XX d 268 1750 [v0, v1, some (.ref a), v3, v4, v5, v6, v7] st A Q ↔ XX d 268 1751 [v0, v1, some (.ref a), v3, v4, v5, v6, v7] (.ref a :: st) A Q := c_lcl i_268_1750 rfl rfl
theorem q_268_1751 : XX d 268 1751 [some (.ref a), v1, v2, v3, v4, v5, v6, v7] st A Q ↔ XX d 268 1752 [some (.ref a), v1, v2, v3, v4, v5, v6, v7] (.ref a :: st) A Q := c_lcl i_268_1751 rfl rfl
theorem q_268_1752 : XX d 268 1752 [v0, v1, v2, v3, some (.int x), v5, v6, v7] st A Q ↔ XX d 268 1754 [v0, v1, v2, v3, some (.int x), v5, v6, v7] (.int x :: st) A Q := c_lcl i_268_1752 rfl rfl
theorem q_268_1754 : XX d 268 1754 [v0, v1, v2, v3, v4, v5, v6, v7] st A Q ↔ XX d 268 1755 [v0, v1, v2, v3, v4, v5, v6, v7] (.int (w 1) :: st) A Q := c_stk i_268_1754 rfl
theorem q_268_1755 : XX d 268 1755 [v0, v1, v2, v3, v4, v5, v6, v7] (.int y :: .int x :: st) A Q ↔ XX d 268 1756 [v0, v1, v2, v3, v4, v5, v6, v7] (.int (x + y) :: st) A Q := c_stk i_268_1755 rfl
theorem q_268_1756 : XX d 268 1756 [v0, v1, v2, v3, v4, v5, v6, v7] (.int x :: .ref a :: st) (mk S I L R G) Q ↔ inA (S a) ok_i x ∧ XX d 268 1757 [v0, v1, v2, v3, v4, v5, v6, v7] (.int (I a (ix x)) :: st) (mk S I L R G) Q := r_ia i_268_1756
theorem q_268_1757 : XX d 268 1757 [some (.ref a), v1, v2, v3, v4, v5, v6, v7] st A Q ↔ XX d 268 1758 [some (.ref a), v1, v2, v3, v4, v5, v6, v7] (.ref a :: st) A Q := c_lcl i_268_1757 rfl rfl
theorem q_268_1758 : XX d 268 1758 [v0, v1, v2, v3, some (.int x), v5, v6, v7] st A Q ↔ XX d 268 1760 [v0, v1, v2, v3, some (.int x), v5, v6, v7] (.int x :: st) A Q := c_lcl i_268_1758 rfl rfl
theorem q_268_1760 : XX d 268 1760 [v0, v1, v2, v3, v4, v5, v6, v7] st A Q ↔ XX d 268 1761 [v0, v1, v2, v3, v4, v5, v6, v7] (.int (w 2) :: st) A Q := c_stk i_268_1760 rfl
theorem q_268_1761 : XX d 268 1761 [v0, v1, v2, v3, v4, v5, v6, v7] (.int y :: .int x :: st) A Q ↔ XX d 268 1762 [v0, v1, v2, v3, v4, v5, v6, v7] (.int (x + y) :: st) A Q := c_stk i_268_1761 rfl
theorem q_268_1762 : XX d 268 1762 [v0, v1, v2, v3, v4, v5, v6, v7] (.int x :: .ref a :: st) (mk S I L R G) Q ↔ inA (S a) ok_i x ∧ XX d 268 1763 [v0, v1, v2, v3, v4, v5, v6, v7] (.int (I a (ix x)) :: st) (mk S I L R G) Q := r_ia i_268_1762
theorem q_268_1763 : XX (d + 1) 268 1763 [v0, v1, v2, v3, v4, v5, v6, v7] [.int x2, .int x1, .ref a0] (mk S I L R G) Q ↔ S a0 = some (.inr 12) ∧ XC d 228 [.ref a0, .int x1, .int x2] (mk S I L R G) (XK (d + 1) 268 1763 [v0, v1, v2, v3, v4, v5, v6, v7] [] Q) := c_callV i_268_1763 rfl rfl rfl rfl (Nat.le_of_ble_eq_true rfl) (Nat.le_of_ble_eq_true rfl) rfl
theorem q_268_1766 : XX d 268 1766 [v0, v1, v2, v3, v4, some (.int z), v6, v7] (.int x :: st) A Q ↔ XX d 268 1768 [v0, v1, v2, v3, v4, some (.int z), some (.int x), v7] st A Q := c_lcl i_268_1766 rfl rfl
theorem q_268_1768 : XX d 268 1768 [v0, v1, some (.ref a), v3, v4, v5, v6, v7] st A Q ↔ XX d 268 1769 [v0, v1, some (.ref a), v3, v4, v5, v6, v7] (.ref a :: st) A Q := c_lcl i_268_1768 rfl rfl
theorem q_268_1769 : XX (d + 1) 268 1769 [v0, v1, v2, v3, v4, v5, v6, v7] [.ref a0] (mk S I L R G) Q ↔ S a0 = some (.inr 12) ∧ XC d 153 [.ref a0] (mk S I L R G) (XK (d + 1) 268 1769 [v0, v1, v2, v3, v4, v5, v6, v7] [] Q) := c_callV i_268_1769 rfl rfl rfl rfl (Nat.le_of_ble_eq_true rfl) (Nat.le_of_ble_eq_true rfl) rfl
theorem q_268_1772 : XX d 268 1772 [v0, v1, v2, v3, v4, some (.int x), v6, v7] st A Q ↔ XX d 268 1774 [v0, v1, v2, v3, v4, some (.int x), v6, v7] (.int x :: st) A Q := c_lcl i_268_1772 rfl rfl
theorem q_268_1774 : XX d 268 1774 [v0, v1, v2, v3, v4, v5, v6, v7] (.int y :: .int x :: st) A Q ↔ if x = y then XX d 268 1779 [v0, v1, v2, v3, v4, v5, v6, v7] st A Q else XX d 268 1777 [v0, v1, v2, v3, v4, v5, v6, v7] st A Q := b_eq i_268_1774 rfl rfl rfl
theorem q_268_1777 : XX d 268 1777 [v0, v1, v2, v3, v4, v5, v6, v7] st A Q ↔ XX d 268 1778 [v0, v1, v2, v3, v4, v5, v6, v7] (.int (w 0) :: st) A Q := c_stk i_268_1777 rfl
theorem q_268_1778 : XX d 268 1778 [v0, v1, v2, v3, v4, v5, v6, v7] [.int x] A Q ↔ (x = w 0 ∨ x = w 1) ∧ Q (.inl (some (.int x))) A := e_retZ i_268_1778 rfl
theorem q_268_1779 : XX d 268 1779 [v0, v1, v2, v3, v4, some (.int x), v6, v7] st A Q ↔ XX d 268 1781 [v0, v1, v2, v3, v4, some (.int x), v6, v7] (.int x :: st) A Q := c_lcl i_268_1779 rfl rfl
theorem q_268_1781 : XX d 268 1781 [v0, v1, v2, v3, v4, v5, v6, v7] (.int x :: st) A Q ↔ if x = w 0 then XX d 268 1784 [v0, v1, v2, v3, v4, v5, v6, v7] st A Q else XX d 268 1796 [v0, v1, v2, v3, v4, v5, v6, v7] st A Q := z_ne i_268_1781 rfl rfl rfl
theorem q_268_1784 : XX d 268 1784 [v0, v1, v2, some (.ref a), v4, v5, v6, v7] st A Q ↔ XX d 268 1785 [v0, v1, v2, some (.ref a), v4, v5, v6, v7] (.ref a :: st) A Q := c_lcl i_268_1784 rfl rfl
theorem q_268_1785 : XX d 268 1785 [v0, v1, v2, v3, v4, v5, v6, v7] st A Q ↔ XX d 268 1786 [v0, v1, v2, v3, v4, v5, v6, v7] (.int (w 0) :: st) A Q := c_stk i_268_1785 rfl
theorem q_268_1786 : XX d 268 1786 [v0, v1, v2, v3, v4, v5, v6, v7] (.int x :: .ref a :: st) (mk S I L R G) Q ↔ inA (S a) ok_l x ∧ XX d 268 1787 [v0, v1, v2, v3, v4, v5, v6, v7] (.long (L a (ix x)) :: st) (mk S I L R G) Q := r_la i_268_1786
theorem q_268_1787 : XX d 268 1787 [v0, v1, v2, v3, v4, v5, some (.int x), v7] st A Q ↔ XX d 268 1789 [v0, v1, v2, v3, v4, v5, some (.int x), v7] (.int x :: st) A Q := c_lcl i_268_1787 rfl rfl
theorem q_268_1789 : XX d 268 1789 [v0, v1, v2, v3, v4, v5, v6, v7] (.int x :: st) A Q ↔ XX d 268 1790 [v0, v1, v2, v3, v4, v5, v6, v7] (.long x.toInt64 :: st) A Q := c_stk i_268_1789 rfl
theorem q_268_1790 : XX d 268 1790 [v0, v1, v2, v3, v4, v5, v6, v7] (.long ly :: .long lx :: st) A Q ↔ XX d 268 1791 [v0, v1, v2, v3, v4, v5, v6, v7] (.int (lg_cmp lx ly) :: st) A Q := c_stk i_268_1790 rfl
theorem q_268_1791 : XX d 268 1791 [v0, v1, v2, v3, v4, v5, v6, v7] (.int x :: st) A Q ↔ if x = w 0 then XX d 268 1796 [v0, v1, v2, v3, v4, v5, v6, v7] st A Q else XX d 268 1794 [v0, v1, v2, v3, v4, v5, v6, v7] st A Q := z_eq i_268_1791 rfl rfl rfl
theorem q_268_1794 : XX d 268 1794 [v0, v1, v2, v3, v4, v5, v6, v7] st A Q ↔ XX d 268 1795 [v0, v1, v2, v3, v4, v5, v6, v7] (.int (w 0) :: st) A Q := c_stk i_268_1794 rfl
theorem q_268_1795 : XX d 268 1795 [v0, v1, v2, v3, v4, v5, v6, v7] [.int x] A Q ↔ (x = w 0 ∨ x = w 1) ∧ Q (.inl (some (.int x))) A := e_retZ i_268_1795 rfl
theorem q_268_1796 : XX d 268 1796 [v0, v1, v2, v3, v4, v5, v6, v7] st A Q ↔ XX d 268 2288 [v0, v1, v2, v3, v4, v5, v6, v7] st A Q := c_go i_268_1796 rfl rfl
theorem q_268_1799 : XX d 268 1799 [v0, some (.ref a), v2, v3, v4, v5, v6, v7] st A Q ↔ XX d 268 1800 [v0, some (.ref a), v2, v3, v4, v5, v6, v7] (.ref a :: st) A Q := c_lcl i_268_1799 rfl rfl
theorem q_268_1800 : XX (d + 1) 268 1800 [v0, v1, v2, v3, v4, v5, v6, v7] [.ref a0] (mk S I L R G) Q ↔ S a0 = some (.inr 11) ∧ XC d 131 [.ref a0] (mk S I L R G) (XK (d + 1) 268 1800 [v0, v1, v2, v3, v4, v5, v6, v7] [] Q) := c_callV i_268_1800 rfl rfl rfl rfl (Nat.le_of_ble_eq_true rfl) (Nat.le_of_ble_eq_true rfl) rfl
theorem q_268_1803 : XX d 268 1803 [v0, v1, some (.ref a), v3, v4, v5, v6, v7] st A Q ↔ XX d 268 1804 [v0, v1, some (.ref a), v3, v4, v5, v6, v7] (.ref a :: st) A Q := c_lcl i_268_1803 rfl rfl
theorem q_268_1804 : XX (d + 1) 268 1804 [v0, v1, v2, v3, v4, v5, v6, v7] [.ref a0, .int x1] (mk S I L R G) Q ↔ S a0 = some (.inr 12) ∧ XC d 229 [.ref a0] (mk S I L R G) (XK (d + 1) 268 1804 [v0, v1, v2, v3, v4, v5, v6, v7] [.int x1] Q) := c_callV i_268_1804 rfl rfl rfl rfl (Nat.le_of_ble_eq_true rfl) (Nat.le_of_ble_eq_true rfl) rfl
theorem q_268_1807 : XX d 268 1807 [v0, v1, v2, v3, v4, v5, v6, v7] (.int y :: .int x :: st) A Q ↔ if x = y then XX d 268 2288 [v0, v1, v2, v3, v4, v5, v6, v7] st A Q else XX d 268 1810 [v0, v1, v2, v3, v4, v5, v6, v7] st A Q := b_eq i_268_1807 rfl rfl rfl
theorem q_268_1810 : XX d 268 1810 [v0, v1, v2, v3, v4, v5, v6, v7] st A Q ↔ XX d 268 1811 [v0, v1, v2, v3, v4, v5, v6, v7] (.int (w 0) :: st) A Q := c_stk i_268_1810 rfl
theorem q_268_1811 : XX d 268 1811 [v0, v1, v2, v3, v4, v5, v6, v7] [.int x] A Q ↔ (x = w 0 ∨ x = w 1) ∧ Q (.inl (some (.int x))) A := e_retZ i_268_1811 rfl
theorem q_268_1812 : XX d 268 1812 [v0, some (.ref a), v2, v3, v4, v5, v6, v7] st A Q ↔ XX d 268 1813 [v0, some (.ref a), v2, v3, v4, v5, v6, v7] (.ref a :: st) A Q := c_lcl i_268_1812 rfl rfl
theorem q_268_1813 : XX d 268 1813 [some (.ref a), v1, v2, v3, v4, v5, v6, v7] st A Q ↔ XX d 268 1814 [some (.ref a), v1, v2, v3, v4, v5, v6, v7] (.ref a :: st) A Q := c_lcl i_268_1813 rfl rfl
theorem q_268_1814 : XX d 268 1814 [v0, v1, v2, v3, some (.int x), v5, v6, v7] st A Q ↔ XX d 268 1816 [v0, v1, v2, v3, some (.int x), v5, v6, v7] (.int x :: st) A Q := c_lcl i_268_1814 rfl rfl
theorem q_268_1816 : XX d 268 1816 [v0, v1, v2, v3, v4, v5, v6, v7] st A Q ↔ XX d 268 1817 [v0, v1, v2, v3, v4, v5, v6, v7] (.int (w 1) :: st) A Q := c_stk i_268_1816 rfl
theorem q_268_1817 : XX d 268 1817 [v0, v1, v2, v3, v4, v5, v6, v7] (.int y :: .int x :: st) A Q ↔ XX d 268 1818 [v0, v1, v2, v3, v4, v5, v6, v7] (.int (x + y) :: st) A Q := c_stk i_268_1817 rfl
theorem q_268_1818 : XX d 268 1818 [v0, v1, v2, v3, v4, v5, v6, v7] (.int x :: .ref a :: st) (mk S I L R G) Q ↔ inA (S a) ok_i x ∧ XX d 268 1819 [v0, v1, v2, v3, v4, v5, v6, v7] (.int (I a (ix x)) :: st) (mk S I L R G) Q := r_ia i_268_1818
theorem q_268_1819 : XX d 268 1819 [some (.ref a), v1, v2, v3, v4, v5, v6, v7] st A Q ↔ XX d 268 1820 [some (.ref a), v1, v2, v3, v4, v5, v6, v7] (.ref a :: st) A Q := c_lcl i_268_1819 rfl rfl
theorem q_268_1820 : XX d 268 1820 [v0, v1, v2, v3, some (.int x), v5, v6, v7] st A Q ↔ XX d 268 1822 [v0, v1, v2, v3, some (.int x), v5, v6, v7] (.int x :: st) A Q := c_lcl i_268_1820 rfl rfl
theorem q_268_1822 : XX d 268 1822 [v0, v1, v2, v3, v4, v5, v6, v7] st A Q ↔ XX d 268 1823 [v0, v1, v2, v3, v4, v5, v6, v7] (.int (w 2) :: st) A Q := c_stk i_268_1822 rfl
theorem q_268_1823 : XX d 268 1823 [v0, v1, v2, v3, v4, v5, v6, v7] (.int y :: .int x :: st) A Q ↔ XX d 268 1824 [v0, v1, v2, v3, v4, v5, v6, v7] (.int (x + y) :: st) A Q := c_stk i_268_1823 rfl
theorem q_268_1824 : XX d 268 1824 [v0, v1, v2, v3, v4, v5, v6, v7] (.int x :: .ref a :: st) (mk S I L R G) Q ↔ inA (S a) ok_i x ∧ XX d 268 1825 [v0, v1, v2, v3, v4, v5, v6, v7] (.int (I a (ix x)) :: st) (mk S I L R G) Q := r_ia i_268_1824
theorem q_268_1825 : XX d 268 1825 [v0, v1, v2, some (.ref a), v4, v5, v6, v7] st A Q ↔ XX d 268 1826 [v0, v1, v2, some (.ref a), v4, v5, v6, v7] (.ref a :: st) A Q := c_lcl i_268_1825 rfl rfl
theorem q_268_1826 : XX (d + 1) 268 1826 [v0, v1, v2, v3, v4, v5, v6, v7] [.ref a3, .int x2, .int x1, .ref a0] A Q ↔ XC d 261 [.ref a0, .int x1, .int x2, .ref a3] A (XK (d + 1) 268 1826 [v0, v1, v2, v3, v4, v5, v6, v7] [] Q) := c_callS i_268_1826 rfl rfl rfl rfl (Nat.le_of_ble_eq_true rfl) (Nat.le_of_ble_eq_true rfl)
theorem q_268_1829 : XX d 268 1829 [v0, v1, v2, v3, some (.int z), v5, v6, v7] (.int x :: st) A Q ↔ XX d 268 1831 [v0, v1, v2, v3, some (.int z), some (.int x), v6, v7] st A Q := c_lcl i_268_1829 rfl rfl
theorem q_268_1831 : XX d 268 1831 [v0, v1, some (.ref a), v3, v4, v5, v6, v7] st A Q ↔ XX d 268 1832 [v0, v1, some (.ref a), v3, v4, v5, v6, v7] (.ref a :: st) A Q := c_lcl i_268_1831 rfl rfl
theorem q_268_1832 : XX d 268 1832 [some (.ref a), v1, v2, v3, v4, v5, v6, v7] st A Q ↔ XX d 268 1833 [some (.ref a), v1, v2, v3, v4, v5, v6, v7] (.ref a :: st) A Q := c_lcl i_268_1832 rfl rfl
theorem q_268_1833 : XX d 268 1833 [v0, v1, v2, v3, some (.int x), v5, v6, v7] st A Q ↔ XX d 268 1835 [v0, v1, v2, v3, some (.int x), v5, v6, v7] (.int x :: st) A Q := c_lcl i_268_1833 rfl rfl
theorem q_268_1835 : XX d 268 1835 [v0, v1, v2, v3, v4, v5, v6, v7] st A Q ↔ XX d 268 1836 [v0, v1, v2, v3, v4, v5, v6, v7] (.int (w 1) :: st) A Q := c_stk i_268_1835 rfl
theorem q_268_1836 : XX d 268 1836 [v0, v1, v2, v3, v4, v5, v6, v7] (.int y :: .int x :: st) A Q ↔ XX d 268 1837 [v0, v1, v2, v3, v4, v5, v6, v7] (.int (x + y) :: st) A Q := c_stk i_268_1836 rfl
theorem q_268_1837 : XX d 268 1837 [v0, v1, v2, v3, v4, v5, v6, v7] (.int x :: .ref a :: st) (mk S I L R G) Q ↔ inA (S a) ok_i x ∧ XX d 268 1838 [v0, v1, v2, v3, v4, v5, v6, v7] (.int (I a (ix x)) :: st) (mk S I L R G) Q := r_ia i_268_1837
theorem q_268_1838 : XX d 268 1838 [some (.ref a), v1, v2, v3, v4, v5, v6, v7] st A Q ↔ XX d 268 1839 [some (.ref a), v1, v2, v3, v4, v5, v6, v7] (.ref a :: st) A Q := c_lcl i_268_1838 rfl rfl
theorem q_268_1839 : XX d 268 1839 [v0, v1, v2, v3, some (.int x), v5, v6, v7] st A Q ↔ XX d 268 1841 [v0, v1, v2, v3, some (.int x), v5, v6, v7] (.int x :: st) A Q := c_lcl i_268_1839 rfl rfl
theorem q_268_1841 : XX d 268 1841 [v0, v1, v2, v3, v4, v5, v6, v7] st A Q ↔ XX d 268 1842 [v0, v1, v2, v3, v4, v5, v6, v7] (.int (w 2) :: st) A Q := c_stk i_268_1841 rfl
theorem q_268_1842 : XX d 268 1842 [v0, v1, v2, v3, v4, v5, v6, v7] (.int y :: .int x :: st) A Q ↔ XX d 268 1843 [v0, v1, v2, v3, v4, v5, v6, v7] (.int (x + y) :: st) A Q := c_stk i_268_1842 rfl
theorem q_268_1843 : XX d 268 1843 [v0, v1, v2, v3, v4, v5, v6, v7] (.int x :: .ref a :: st) (mk S I L R G) Q ↔ inA (S a) ok_i x ∧ XX d 268 1844 [v0, v1, v2, v3, v4, v5, v6, v7] (.int (I a (ix x)) :: st) (mk S I L R G) Q := r_ia i_268_1843
theorem q_268_1844 : XX (d + 1) 268 1844 [v0, v1, v2, v3, v4, v5, v6, v7] [.int x2, .int x1, .ref a0] (mk S I L R G) Q ↔ S a0 = some (.inr 12) ∧ XC d 216 [.ref a0, .int x1, .int x2] (mk S I L R G) (XK (d + 1) 268 1844 [v0, v1, v2, v3, v4, v5, v6, v7] [] Q) := c_callV i_268_1844 rfl rfl rfl rfl (Nat.le_of_ble_eq_true rfl) (Nat.le_of_ble_eq_true rfl) rfl
theorem q_268_1847 : XX d 268 1847 [v0, v1, v2, v3, v4, some (.int z), v6, v7] (.int x :: st) A Q ↔ XX d 268 1849 [v0, v1, v2, v3, v4, some (.int z), some (.int x), v7] st A Q := c_lcl i_268_1847 rfl rfl
theorem q_268_1849 : XX d 268 1849 [v0, v1, some (.ref a), v3, v4, v5, v6, v7] st A Q ↔ XX d 268 1850 [v0, v1, some (.ref a), v3, v4, v5, v6, v7] (.ref a :: st) A Q := c_lcl i_268_1849 rfl rfl
theorem q_268_1850 : XX (d + 1) 268 1850 [v0, v1, v2, v3, v4, v5, v6, v7] [.ref a0] (mk S I L R G) Q ↔ S a0 = some (.inr 12) ∧ XC d 153 [.ref a0] (mk S I L R G) (XK (d + 1) 268 1850 [v0, v1, v2, v3, v4, v5, v6, v7] [] Q) := c_callV i_268_1850 rfl rfl rfl rfl (Nat.le_of_ble_eq_true rfl) (Nat.le_of_ble_eq_true rfl) rfl
theorem q_268_1853 : XX d 268 1853 [v0, v1, v2, v3, v4, some (.int x), v6, v7] st A Q ↔ XX d 268 1855 [v0, v1, v2, v3, v4, some (.int x), v6, v7] (.int x :: st) A Q := c_lcl i_268_1853 rfl rfl
theorem q_268_1855 : XX d 268 1855 [v0, v1, v2, v3, v4, v5, v6, v7] (.int y :: .int x :: st) A Q ↔ if x = y then XX d 268 1860 [v0, v1, v2, v3, v4, v5, v6, v7] st A Q else XX d 268 1858 [v0, v1, v2, v3, v4, v5, v6, v7] st A Q := b_eq i_268_1855 rfl rfl rfl
theorem q_268_1858 : XX d 268 1858 [v0, v1, v2, v3, v4, v5, v6, v7] st A Q ↔ XX d 268 1859 [v0, v1, v2, v3, v4, v5, v6, v7] (.int (w 0) :: st) A Q := c_stk i_268_1858 rfl
theorem q_268_1859 : XX d 268 1859 [v0, v1, v2, v3, v4, v5, v6, v7] [.int x] A Q ↔ (x = w 0 ∨ x = w 1) ∧ Q (.inl (some (.int x))) A := e_retZ i_268_1859 rfl
theorem q_268_1860 : XX d 268 1860 [v0, v1, v2, v3, v4, some (.int x), v6, v7] st A Q ↔ XX d 268 1862 [v0, v1, v2, v3, v4, some (.int x), v6, v7] (.int x :: st) A Q := c_lcl i_268_1860 rfl rfl
theorem q_268_1862 : XX d 268 1862 [v0, v1, v2, v3, v4, v5, v6, v7] (.int x :: st) A Q ↔ if x = w 0 then XX d 268 1865 [v0, v1, v2, v3, v4, v5, v6, v7] st A Q else XX d 268 1877 [v0, v1, v2, v3, v4, v5, v6, v7] st A Q := z_ne i_268_1862 rfl rfl rfl
theorem q_268_1865 : XX d 268 1865 [v0, v1, v2, some (.ref a), v4, v5, v6, v7] st A Q ↔ XX d 268 1866 [v0, v1, v2, some (.ref a), v4, v5, v6, v7] (.ref a :: st) A Q := c_lcl i_268_1865 rfl rfl
theorem q_268_1866 : XX d 268 1866 [v0, v1, v2, v3, v4, v5, v6, v7] st A Q ↔ XX d 268 1867 [v0, v1, v2, v3, v4, v5, v6, v7] (.int (w 0) :: st) A Q := c_stk i_268_1866 rfl
theorem q_268_1867 : XX d 268 1867 [v0, v1, v2, v3, v4, v5, v6, v7] (.int x :: .ref a :: st) (mk S I L R G) Q ↔ inA (S a) ok_l x ∧ XX d 268 1868 [v0, v1, v2, v3, v4, v5, v6, v7] (.long (L a (ix x)) :: st) (mk S I L R G) Q := r_la i_268_1867
theorem q_268_1868 : XX d 268 1868 [v0, v1, v2, v3, v4, v5, some (.int x), v7] st A Q ↔ XX d 268 1870 [v0, v1, v2, v3, v4, v5, some (.int x), v7] (.int x :: st) A Q := c_lcl i_268_1868 rfl rfl
theorem q_268_1870 : XX d 268 1870 [v0, v1, v2, v3, v4, v5, v6, v7] (.int x :: st) A Q ↔ XX d 268 1871 [v0, v1, v2, v3, v4, v5, v6, v7] (.long x.toInt64 :: st) A Q := c_stk i_268_1870 rfl
theorem q_268_1871 : XX d 268 1871 [v0, v1, v2, v3, v4, v5, v6, v7] (.long ly :: .long lx :: st) A Q ↔ XX d 268 1872 [v0, v1, v2, v3, v4, v5, v6, v7] (.int (lg_cmp lx ly) :: st) A Q := c_stk i_268_1871 rfl
theorem q_268_1872 : XX d 268 1872 [v0, v1, v2, v3, v4, v5, v6, v7] (.int x :: st) A Q ↔ if x = w 0 then XX d 268 1877 [v0, v1, v2, v3, v4, v5, v6, v7] st A Q else XX d 268 1875 [v0, v1, v2, v3, v4, v5, v6, v7] st A Q := z_eq i_268_1872 rfl rfl rfl
theorem q_268_1875 : XX d 268 1875 [v0, v1, v2, v3, v4, v5, v6, v7] st A Q ↔ XX d 268 1876 [v0, v1, v2, v3, v4, v5, v6, v7] (.int (w 0) :: st) A Q := c_stk i_268_1875 rfl
theorem q_268_1876 : XX d 268 1876 [v0, v1, v2, v3, v4, v5, v6, v7] [.int x] A Q ↔ (x = w 0 ∨ x = w 1) ∧ Q (.inl (some (.int x))) A := e_retZ i_268_1876 rfl
theorem q_268_1877 : XX d 268 1877 [v0, v1, v2, v3, v4, v5, v6, v7] st A Q ↔ XX d 268 2288 [v0, v1, v2, v3, v4, v5, v6, v7] st A Q := c_go i_268_1877 rfl rfl
theorem q_268_1880 : XX d 268 1880 [v0, some (.ref a), v2, v3, v4, v5, v6, v7] st A Q ↔ XX d 268 1881 [v0, some (.ref a), v2, v3, v4, v5, v6, v7] (.ref a :: st) A Q := c_lcl i_268_1880 rfl rfl
theorem q_268_1881 : XX d 268 1881 [some (.ref a), v1, v2, v3, v4, v5, v6, v7] st A Q ↔ XX d 268 1882 [some (.ref a), v1, v2, v3, v4, v5, v6, v7] (.ref a :: st) A Q := c_lcl i_268_1881 rfl rfl
theorem q_268_1882 : XX d 268 1882 [v0, v1, v2, v3, some (.int x), v5, v6, v7] st A Q ↔ XX d 268 1884 [v0, v1, v2, v3, some (.int x), v5, v6, v7] (.int x :: st) A Q := c_lcl i_268_1882 rfl rfl
theorem q_268_1884 : XX d 268 1884 [v0, v1, v2, v3, v4, v5, v6, v7] st A Q ↔ XX d 268 1885 [v0, v1, v2, v3, v4, v5, v6, v7] (.int (w 1) :: st) A Q := c_stk i_268_1884 rfl
theorem q_268_1885 : XX d 268 1885 [v0, v1, v2, v3, v4, v5, v6, v7] (.int y :: .int x :: st) A Q ↔ XX d 268 1886 [v0, v1, v2, v3, v4, v5, v6, v7] (.int (x + y) :: st) A Q := c_stk i_268_1885 rfl
theorem q_268_1886 : XX d 268 1886 [v0, v1, v2, v3, v4, v5, v6, v7] (.int x :: .ref a :: st) (mk S I L R G) Q ↔ inA (S a) ok_i x ∧ XX d 268 1887 [v0, v1, v2, v3, v4, v5, v6, v7] (.int (I a (ix x)) :: st) (mk S I L R G) Q := r_ia i_268_1886
theorem q_268_1887 : XX d 268 1887 [some (.ref a), v1, v2, v3, v4, v5, v6, v7] st A Q ↔ XX d 268 1888 [some (.ref a), v1, v2, v3, v4, v5, v6, v7] (.ref a :: st) A Q := c_lcl i_268_1887 rfl rfl
theorem q_268_1888 : XX d 268 1888 [v0, v1, v2, v3, some (.int x), v5, v6, v7] st A Q ↔ XX d 268 1890 [v0, v1, v2, v3, some (.int x), v5, v6, v7] (.int x :: st) A Q := c_lcl i_268_1888 rfl rfl
theorem q_268_1890 : XX d 268 1890 [v0, v1, v2, v3, v4, v5, v6, v7] st A Q ↔ XX d 268 1891 [v0, v1, v2, v3, v4, v5, v6, v7] (.int (w 2) :: st) A Q := c_stk i_268_1890 rfl
theorem q_268_1891 : XX d 268 1891 [v0, v1, v2, v3, v4, v5, v6, v7] (.int y :: .int x :: st) A Q ↔ XX d 268 1892 [v0, v1, v2, v3, v4, v5, v6, v7] (.int (x + y) :: st) A Q := c_stk i_268_1891 rfl
theorem q_268_1892 : XX d 268 1892 [v0, v1, v2, v3, v4, v5, v6, v7] (.int x :: .ref a :: st) (mk S I L R G) Q ↔ inA (S a) ok_i x ∧ XX d 268 1893 [v0, v1, v2, v3, v4, v5, v6, v7] (.int (I a (ix x)) :: st) (mk S I L R G) Q := r_ia i_268_1892
theorem q_268_1893 : XX d 268 1893 [v0, v1, v2, some (.ref a), v4, v5, v6, v7] st A Q ↔ XX d 268 1894 [v0, v1, v2, some (.ref a), v4, v5, v6, v7] (.ref a :: st) A Q := c_lcl i_268_1893 rfl rfl
theorem q_268_1894 : XX (d + 1) 268 1894 [v0, v1, v2, v3, v4, v5, v6, v7] [.ref a3, .int x2, .int x1, .ref a0] A Q ↔ XC d 262 [.ref a0, .int x1, .int x2, .ref a3] A (XK (d + 1) 268 1894 [v0, v1, v2, v3, v4, v5, v6, v7] [] Q) := c_callS i_268_1894 rfl rfl rfl rfl (Nat.le_of_ble_eq_true rfl) (Nat.le_of_ble_eq_true rfl)
theorem q_268_1897 : XX d 268 1897 [v0, v1, v2, v3, some (.int z), v5, v6, v7] (.int x :: st) A Q ↔ XX d 268 1899 [v0, v1, v2, v3, some (.int z), some (.int x), v6, v7] st A Q := c_lcl i_268_1897 rfl rfl
theorem q_268_1899 : XX d 268 1899 [v0, v1, some (.ref a), v3, v4, v5, v6, v7] st A Q ↔ XX d 268 1900 [v0, v1, some (.ref a), v3, v4, v5, v6, v7] (.ref a :: st) A Q := c_lcl i_268_1899 rfl rfl
theorem q_268_1900 : XX d 268 1900 [some (.ref a), v1, v2, v3, v4, v5, v6, v7] st A Q ↔ XX d 268 1901 [some (.ref a), v1, v2, v3, v4, v5, v6, v7] (.ref a :: st) A Q := c_lcl i_268_1900 rfl rfl
theorem q_268_1901 : XX d 268 1901 [v0, v1, v2, v3, some (.int x), v5, v6, v7] st A Q ↔ XX d 268 1903 [v0, v1, v2, v3, some (.int x), v5, v6, v7] (.int x :: st) A Q := c_lcl i_268_1901 rfl rfl
theorem q_268_1903 : XX d 268 1903 [v0, v1, v2, v3, v4, v5, v6, v7] st A Q ↔ XX d 268 1904 [v0, v1, v2, v3, v4, v5, v6, v7] (.int (w 1) :: st) A Q := c_stk i_268_1903 rfl
theorem q_268_1904 : XX d 268 1904 [v0, v1, v2, v3, v4, v5, v6, v7] (.int y :: .int x :: st) A Q ↔ XX d 268 1905 [v0, v1, v2, v3, v4, v5, v6, v7] (.int (x + y) :: st) A Q := c_stk i_268_1904 rfl
theorem q_268_1905 : XX d 268 1905 [v0, v1, v2, v3, v4, v5, v6, v7] (.int x :: .ref a :: st) (mk S I L R G) Q ↔ inA (S a) ok_i x ∧ XX d 268 1906 [v0, v1, v2, v3, v4, v5, v6, v7] (.int (I a (ix x)) :: st) (mk S I L R G) Q := r_ia i_268_1905
theorem q_268_1906 : XX d 268 1906 [some (.ref a), v1, v2, v3, v4, v5, v6, v7] st A Q ↔ XX d 268 1907 [some (.ref a), v1, v2, v3, v4, v5, v6, v7] (.ref a :: st) A Q := c_lcl i_268_1906 rfl rfl
theorem q_268_1907 : XX d 268 1907 [v0, v1, v2, v3, some (.int x), v5, v6, v7] st A Q ↔ XX d 268 1909 [v0, v1, v2, v3, some (.int x), v5, v6, v7] (.int x :: st) A Q := c_lcl i_268_1907 rfl rfl
theorem q_268_1909 : XX d 268 1909 [v0, v1, v2, v3, v4, v5, v6, v7] st A Q ↔ XX d 268 1910 [v0, v1, v2, v3, v4, v5, v6, v7] (.int (w 2) :: st) A Q := c_stk i_268_1909 rfl
theorem q_268_1910 : XX d 268 1910 [v0, v1, v2, v3, v4, v5, v6, v7] (.int y :: .int x :: st) A Q ↔ XX d 268 1911 [v0, v1, v2, v3, v4, v5, v6, v7] (.int (x + y) :: st) A Q := c_stk i_268_1910 rfl
theorem q_268_1911 : XX d 268 1911 [v0, v1, v2, v3, v4, v5, v6, v7] (.int x :: .ref a :: st) (mk S I L R G) Q ↔ inA (S a) ok_i x ∧ XX d 268 1912 [v0, v1, v2, v3, v4, v5, v6, v7] (.int (I a (ix x)) :: st) (mk S I L R G) Q := r_ia i_268_1911
theorem q_268_1912 : XX (d + 1) 268 1912 [v0, v1, v2, v3, v4, v5, v6, v7] [.int x2, .int x1, .ref a0] (mk S I L R G) Q ↔ S a0 = some (.inr 12) ∧ XC d 230 [.ref a0, .int x1, .int x2] (mk S I L R G) (XK (d + 1) 268 1912 [v0, v1, v2, v3, v4, v5, v6, v7] [] Q) := c_callV i_268_1912 rfl rfl rfl rfl (Nat.le_of_ble_eq_true rfl) (Nat.le_of_ble_eq_true rfl) rfl
theorem q_268_1915 : XX d 268 1915 [v0, v1, v2, v3, v4, some (.int z), v6, v7] (.int x :: st) A Q ↔ XX d 268 1917 [v0, v1, v2, v3, v4, some (.int z), some (.int x), v7] st A Q := c_lcl i_268_1915 rfl rfl
theorem q_268_1917 : XX d 268 1917 [v0, v1, some (.ref a), v3, v4, v5, v6, v7] st A Q ↔ XX d 268 1918 [v0, v1, some (.ref a), v3, v4, v5, v6, v7] (.ref a :: st) A Q := c_lcl i_268_1917 rfl rfl
theorem q_268_1918 : XX (d + 1) 268 1918 [v0, v1, v2, v3, v4, v5, v6, v7] [.ref a0] (mk S I L R G) Q ↔ S a0 = some (.inr 12) ∧ XC d 153 [.ref a0] (mk S I L R G) (XK (d + 1) 268 1918 [v0, v1, v2, v3, v4, v5, v6, v7] [] Q) := c_callV i_268_1918 rfl rfl rfl rfl (Nat.le_of_ble_eq_true rfl) (Nat.le_of_ble_eq_true rfl) rfl
theorem q_268_1921 : XX d 268 1921 [v0, v1, v2, v3, v4, some (.int x), v6, v7] st A Q ↔ XX d 268 1923 [v0, v1, v2, v3, v4, some (.int x), v6, v7] (.int x :: st) A Q := c_lcl i_268_1921 rfl rfl
theorem q_268_1923 : XX d 268 1923 [v0, v1, v2, v3, v4, v5, v6, v7] (.int y :: .int x :: st) A Q ↔ if x = y then XX d 268 1928 [v0, v1, v2, v3, v4, v5, v6, v7] st A Q else XX d 268 1926 [v0, v1, v2, v3, v4, v5, v6, v7] st A Q := b_eq i_268_1923 rfl rfl rfl
theorem q_268_1926 : XX d 268 1926 [v0, v1, v2, v3, v4, v5, v6, v7] st A Q ↔ XX d 268 1927 [v0, v1, v2, v3, v4, v5, v6, v7] (.int (w 0) :: st) A Q := c_stk i_268_1926 rfl
theorem q_268_1927 : XX d 268 1927 [v0, v1, v2, v3, v4, v5, v6, v7] [.int x] A Q ↔ (x = w 0 ∨ x = w 1) ∧ Q (.inl (some (.int x))) A := e_retZ i_268_1927 rfl
theorem q_268_1928 : XX d 268 1928 [v0, v1, v2, v3, v4, some (.int x), v6, v7] st A Q ↔ XX d 268 1930 [v0, v1, v2, v3, v4, some (.int x), v6, v7] (.int x :: st) A Q := c_lcl i_268_1928 rfl rfl
theorem q_268_1930 : XX d 268 1930 [v0, v1, v2, v3, v4, v5, v6, v7] (.int x :: st) A Q ↔ if x = w 0 then XX d 268 1933 [v0, v1, v2, v3, v4, v5, v6, v7] st A Q else XX d 268 1945 [v0, v1, v2, v3, v4, v5, v6, v7] st A Q := z_ne i_268_1930 rfl rfl rfl
theorem q_268_1933 : XX d 268 1933 [v0, v1, v2, some (.ref a), v4, v5, v6, v7] st A Q ↔ XX d 268 1934 [v0, v1, v2, some (.ref a), v4, v5, v6, v7] (.ref a :: st) A Q := c_lcl i_268_1933 rfl rfl
theorem q_268_1934 : XX d 268 1934 [v0, v1, v2, v3, v4, v5, v6, v7] st A Q ↔ XX d 268 1935 [v0, v1, v2, v3, v4, v5, v6, v7] (.int (w 0) :: st) A Q := c_stk i_268_1934 rfl
theorem q_268_1935 : XX d 268 1935 [v0, v1, v2, v3, v4, v5, v6, v7] (.int x :: .ref a :: st) (mk S I L R G) Q ↔ inA (S a) ok_l x ∧ XX d 268 1936 [v0, v1, v2, v3, v4, v5, v6, v7] (.long (L a (ix x)) :: st) (mk S I L R G) Q := r_la i_268_1935
theorem q_268_1936 : XX d 268 1936 [v0, v1, v2, v3, v4, v5, some (.int x), v7] st A Q ↔ XX d 268 1938 [v0, v1, v2, v3, v4, v5, some (.int x), v7] (.int x :: st) A Q := c_lcl i_268_1936 rfl rfl
theorem q_268_1938 : XX d 268 1938 [v0, v1, v2, v3, v4, v5, v6, v7] (.int x :: st) A Q ↔ XX d 268 1939 [v0, v1, v2, v3, v4, v5, v6, v7] (.long x.toInt64 :: st) A Q := c_stk i_268_1938 rfl
theorem q_268_1939 : XX d 268 1939 [v0, v1, v2, v3, v4, v5, v6, v7] (.long ly :: .long lx :: st) A Q ↔ XX d 268 1940 [v0, v1, v2, v3, v4, v5, v6, v7] (.int (lg_cmp lx ly) :: st) A Q := c_stk i_268_1939 rfl
theorem q_268_1940 : XX d 268 1940 [v0, v1, v2, v3, v4, v5, v6, v7] (.int x :: st) A Q ↔ if x = w 0 then XX d 268 1945 [v0, v1, v2, v3, v4, v5, v6, v7] st A Q else XX d 268 1943 [v0, v1, v2, v3, v4, v5, v6, v7] st A Q := z_eq i_268_1940 rfl rfl rfl
theorem q_268_1943 : XX d 268 1943 [v0, v1, v2, v3, v4, v5, v6, v7] st A Q ↔ XX d 268 1944 [v0, v1, v2, v3, v4, v5, v6, v7] (.int (w 0) :: st) A Q := c_stk i_268_1943 rfl
theorem q_268_1944 : XX d 268 1944 [v0, v1, v2, v3, v4, v5, v6, v7] [.int x] A Q ↔ (x = w 0 ∨ x = w 1) ∧ Q (.inl (some (.int x))) A := e_retZ i_268_1944 rfl
theorem q_268_1945 : XX d 268 1945 [v0, v1, v2, v3, v4, v5, v6, v7] st A Q ↔ XX d 268 2288 [v0, v1, v2, v3, v4, v5, v6, v7] st A Q := c_go i_268_1945 rfl rfl
theorem q_268_1948 : XX d 268 1948 [v0, some (.ref a), v2, v3, v4, v5, v6, v7] st A Q ↔ XX d 268 1949 [v0, some (.ref a), v2, v3, v4, v5, v6, v7] (.ref a :: st) A Q := c_lcl i_268_1948 rfl rfl
theorem q_268_1949 : XX d 268 1949 [some (.ref a), v1, v2, v3, v4, v5, v6, v7] st A Q ↔ XX d 268 1950 [some (.ref a), v1, v2, v3, v4, v5, v6, v7] (.ref a :: st) A Q := c_lcl i_268_1949 rfl rfl
theorem q_268_1950 : XX d 268 1950 [v0, v1, v2, v3, some (.int x), v5, v6, v7] st A Q ↔ XX d 268 1952 [v0, v1, v2, v3, some (.int x), v5, v6, v7] (.int x :: st) A Q := c_lcl i_268_1950 rfl rfl
theorem q_268_1952 : XX d 268 1952 [v0, v1, v2, v3, v4, v5, v6, v7] st A Q ↔ XX d 268 1953 [v0, v1, v2, v3, v4, v5, v6, v7] (.int (w 1) :: st) A Q := c_stk i_268_1952 rfl
theorem q_268_1953 : XX d 268 1953 [v0, v1, v2, v3, v4, v5, v6, v7] (.int y :: .int x :: st) A Q ↔ XX d 268 1954 [v0, v1, v2, v3, v4, v5, v6, v7] (.int (x + y) :: st) A Q := c_stk i_268_1953 rfl
theorem q_268_1954 : XX d 268 1954 [v0, v1, v2, v3, v4, v5, v6, v7] (.int x :: .ref a :: st) (mk S I L R G) Q ↔ inA (S a) ok_i x ∧ XX d 268 1955 [v0, v1, v2, v3, v4, v5, v6, v7] (.int (I a (ix x)) :: st) (mk S I L R G) Q := r_ia i_268_1954
theorem q_268_1955 : XX d 268 1955 [some (.ref a), v1, v2, v3, v4, v5, v6, v7] st A Q ↔ XX d 268 1956 [some (.ref a), v1, v2, v3, v4, v5, v6, v7] (.ref a :: st) A Q := c_lcl i_268_1955 rfl rfl
theorem q_268_1956 : XX d 268 1956 [v0, v1, v2, v3, some (.int x), v5, v6, v7] st A Q ↔ XX d 268 1958 [v0, v1, v2, v3, some (.int x), v5, v6, v7] (.int x :: st) A Q := c_lcl i_268_1956 rfl rfl
theorem q_268_1958 : XX d 268 1958 [v0, v1, v2, v3, v4, v5, v6, v7] st A Q ↔ XX d 268 1959 [v0, v1, v2, v3, v4, v5, v6, v7] (.int (w 2) :: st) A Q := c_stk i_268_1958 rfl
theorem q_268_1959 : XX d 268 1959 [v0, v1, v2, v3, v4, v5, v6, v7] (.int y :: .int x :: st) A Q ↔ XX d 268 1960 [v0, v1, v2, v3, v4, v5, v6, v7] (.int (x + y) :: st) A Q := c_stk i_268_1959 rfl
theorem q_268_1960 : XX d 268 1960 [v0, v1, v2, v3, v4, v5, v6, v7] (.int x :: .ref a :: st) (mk S I L R G) Q ↔ inA (S a) ok_i x ∧ XX d 268 1961 [v0, v1, v2, v3, v4, v5, v6, v7] (.int (I a (ix x)) :: st) (mk S I L R G) Q := r_ia i_268_1960
theorem q_268_1961 : XX d 268 1961 [some (.ref a), v1, v2, v3, v4, v5, v6, v7] st A Q ↔ XX d 268 1962 [some (.ref a), v1, v2, v3, v4, v5, v6, v7] (.ref a :: st) A Q := c_lcl i_268_1961 rfl rfl
theorem q_268_1962 : XX d 268 1962 [v0, v1, v2, v3, some (.int x), v5, v6, v7] st A Q ↔ XX d 268 1964 [v0, v1, v2, v3, some (.int x), v5, v6, v7] (.int x :: st) A Q := c_lcl i_268_1962 rfl rfl
theorem q_268_1964 : XX d 268 1964 [v0, v1, v2, v3, v4, v5, v6, v7] st A Q ↔ XX d 268 1965 [v0, v1, v2, v3, v4, v5, v6, v7] (.int (w 3) :: st) A Q := c_stk i_268_1964 rfl
theorem q_268_1965 : XX d 268 1965 [v0, v1, v2, v3, v4, v5, v6, v7] (.int y :: .int x :: st) A Q ↔ XX d 268 1966 [v0, v1, v2, v3, v4, v5, v6, v7] (.int (x + y) :: st) A Q := c_stk i_268_1965 rfl
theorem q_268_1966 : XX d 268 1966 [v0, v1, v2, v3, v4, v5, v6, v7] (.int x :: .ref a :: st) (mk S I L R G) Q ↔ inA (S a) ok_i x ∧ XX d 268 1967 [v0, v1, v2, v3, v4, v5, v6, v7] (.int (I a (ix x)) :: st) (mk S I L R G) Q := r_ia i_268_1966
theorem q_268_1967 : XX d 268 1967 [v0, v1, v2, some (.ref a), v4, v5, v6, v7] st A Q ↔ XX d 268 1968 [v0, v1, v2, some (.ref a), v4, v5, v6, v7] (.ref a :: st) A Q := c_lcl i_268_1967 rfl rfl
theorem q_268_1968 : XX (d + 1) 268 1968 [v0, v1, v2, v3, v4, v5, v6, v7] [.ref a4, .int x3, .int x2, .int x1, .ref a0] A Q ↔ XC d 263 [.ref a0, .int x1, .int x2, .int x3, .ref a4] A (XK (d + 1) 268 1968 [v0, v1, v2, v3, v4, v5, v6, v7] [] Q) := c_callS i_268_1968 rfl rfl rfl rfl (Nat.le_of_ble_eq_true rfl) (Nat.le_of_ble_eq_true rfl)
theorem q_268_1971 : XX d 268 1971 [v0, v1, v2, v3, some (.int z), v5, v6, v7] (.int x :: st) A Q ↔ XX d 268 1973 [v0, v1, v2, v3, some (.int z), some (.int x), v6, v7] st A Q := c_lcl i_268_1971 rfl rfl
theorem q_268_1973 : XX d 268 1973 [v0, v1, some (.ref a), v3, v4, v5, v6, v7] st A Q ↔ XX d 268 1974 [v0, v1, some (.ref a), v3, v4, v5, v6, v7] (.ref a :: st) A Q := c_lcl i_268_1973 rfl rfl
theorem q_268_1974 : XX d 268 1974 [some (.ref a), v1, v2, v3, v4, v5, v6, v7] st A Q ↔ XX d 268 1975 [some (.ref a), v1, v2, v3, v4, v5, v6, v7] (.ref a :: st) A Q := c_lcl i_268_1974 rfl rfl
theorem q_268_1975 : XX d 268 1975 [v0, v1, v2, v3, some (.int x), v5, v6, v7] st A Q ↔ XX d 268 1977 [v0, v1, v2, v3, some (.int x), v5, v6, v7] (.int x :: st) A Q := c_lcl i_268_1975 rfl rfl
theorem q_268_1977 : XX d 268 1977 [v0, v1, v2, v3, v4, v5, v6, v7] st A Q ↔ XX d 268 1978 [v0, v1, v2, v3, v4, v5, v6, v7] (.int (w 1) :: st) A Q := c_stk i_268_1977 rfl
theorem q_268_1978 : XX d 268 1978 [v0, v1, v2, v3, v4, v5, v6, v7] (.int y :: .int x :: st) A Q ↔ XX d 268 1979 [v0, v1, v2, v3, v4, v5, v6, v7] (.int (x + y) :: st) A Q := c_stk i_268_1978 rfl
theorem q_268_1979 : XX d 268 1979 [v0, v1, v2, v3, v4, v5, v6, v7] (.int x :: .ref a :: st) (mk S I L R G) Q ↔ inA (S a) ok_i x ∧ XX d 268 1980 [v0, v1, v2, v3, v4, v5, v6, v7] (.int (I a (ix x)) :: st) (mk S I L R G) Q := r_ia i_268_1979
theorem q_268_1980 : XX d 268 1980 [some (.ref a), v1, v2, v3, v4, v5, v6, v7] st A Q ↔ XX d 268 1981 [some (.ref a), v1, v2, v3, v4, v5, v6, v7] (.ref a :: st) A Q := c_lcl i_268_1980 rfl rfl
theorem q_268_1981 : XX d 268 1981 [v0, v1, v2, v3, some (.int x), v5, v6, v7] st A Q ↔ XX d 268 1983 [v0, v1, v2, v3, some (.int x), v5, v6, v7] (.int x :: st) A Q := c_lcl i_268_1981 rfl rfl
theorem q_268_1983 : XX d 268 1983 [v0, v1, v2, v3, v4, v5, v6, v7] st A Q ↔ XX d 268 1984 [v0, v1, v2, v3, v4, v5, v6, v7] (.int (w 2) :: st) A Q := c_stk i_268_1983 rfl
theorem q_268_1984 : XX d 268 1984 [v0, v1, v2, v3, v4, v5, v6, v7] (.int y :: .int x :: st) A Q ↔ XX d 268 1985 [v0, v1, v2, v3, v4, v5, v6, v7] (.int (x + y) :: st) A Q := c_stk i_268_1984 rfl
theorem q_268_1985 : XX d 268 1985 [v0, v1, v2, v3, v4, v5, v6, v7] (.int x :: .ref a :: st) (mk S I L R G) Q ↔ inA (S a) ok_i x ∧ XX d 268 1986 [v0, v1, v2, v3, v4, v5, v6, v7] (.int (I a (ix x)) :: st) (mk S I L R G) Q := r_ia i_268_1985
theorem q_268_1986 : XX d 268 1986 [some (.ref a), v1, v2, v3, v4, v5, v6, v7] st A Q ↔ XX d 268 1987 [some (.ref a), v1, v2, v3, v4, v5, v6, v7] (.ref a :: st) A Q := c_lcl i_268_1986 rfl rfl
theorem q_268_1987 : XX d 268 1987 [v0, v1, v2, v3, some (.int x), v5, v6, v7] st A Q ↔ XX d 268 1989 [v0, v1, v2, v3, some (.int x), v5, v6, v7] (.int x :: st) A Q := c_lcl i_268_1987 rfl rfl
theorem q_268_1989 : XX d 268 1989 [v0, v1, v2, v3, v4, v5, v6, v7] st A Q ↔ XX d 268 1990 [v0, v1, v2, v3, v4, v5, v6, v7] (.int (w 3) :: st) A Q := c_stk i_268_1989 rfl
theorem q_268_1990 : XX d 268 1990 [v0, v1, v2, v3, v4, v5, v6, v7] (.int y :: .int x :: st) A Q ↔ XX d 268 1991 [v0, v1, v2, v3, v4, v5, v6, v7] (.int (x + y) :: st) A Q := c_stk i_268_1990 rfl
theorem q_268_1991 : XX d 268 1991 [v0, v1, v2, v3, v4, v5, v6, v7] (.int x :: .ref a :: st) (mk S I L R G) Q ↔ inA (S a) ok_i x ∧ XX d 268 1992 [v0, v1, v2, v3, v4, v5, v6, v7] (.int (I a (ix x)) :: st) (mk S I L R G) Q := r_ia i_268_1991
theorem q_268_1992 : XX (d + 1) 268 1992 [v0, v1, v2, v3, v4, v5, v6, v7] [.int x3, .int x2, .int x1, .ref a0] (mk S I L R G) Q ↔ S a0 = some (.inr 12) ∧ XC d 231 [.ref a0, .int x1, .int x2, .int x3] (mk S I L R G) (XK (d + 1) 268 1992 [v0, v1, v2, v3, v4, v5, v6, v7] [] Q) := c_callV i_268_1992 rfl rfl rfl rfl (Nat.le_of_ble_eq_true rfl) (Nat.le_of_ble_eq_true rfl) rfl
theorem q_268_1995 : XX d 268 1995 [v0, v1, v2, v3, v4, some (.int z), v6, v7] (.int x :: st) A Q ↔ XX d 268 1997 [v0, v1, v2, v3, v4, some (.int z), some (.int x), v7] st A Q := c_lcl i_268_1995 rfl rfl
theorem q_268_1997 : XX d 268 1997 [v0, v1, some (.ref a), v3, v4, v5, v6, v7] st A Q ↔ XX d 268 1998 [v0, v1, some (.ref a), v3, v4, v5, v6, v7] (.ref a :: st) A Q := c_lcl i_268_1997 rfl rfl
theorem q_268_1998 : XX (d + 1) 268 1998 [v0, v1, v2, v3, v4, v5, v6, v7] [.ref a0] (mk S I L R G) Q ↔ S a0 = some (.inr 12) ∧ XC d 153 [.ref a0] (mk S I L R G) (XK (d + 1) 268 1998 [v0, v1, v2, v3, v4, v5, v6, v7] [] Q) := c_callV i_268_1998 rfl rfl rfl rfl (Nat.le_of_ble_eq_true rfl) (Nat.le_of_ble_eq_true rfl) rfl
theorem q_268_2001 : XX d 268 2001 [v0, v1, v2, v3, v4, some (.int x), v6, v7] st A Q ↔ XX d 268 2003 [v0, v1, v2, v3, v4, some (.int x), v6, v7] (.int x :: st) A Q := c_lcl i_268_2001 rfl rfl
theorem q_268_2003 : XX d 268 2003 [v0, v1, v2, v3, v4, v5, v6, v7] (.int y :: .int x :: st) A Q ↔ if x = y then XX d 268 2008 [v0, v1, v2, v3, v4, v5, v6, v7] st A Q else XX d 268 2006 [v0, v1, v2, v3, v4, v5, v6, v7] st A Q := b_eq i_268_2003 rfl rfl rfl
theorem q_268_2006 : XX d 268 2006 [v0, v1, v2, v3, v4, v5, v6, v7] st A Q ↔ XX d 268 2007 [v0, v1, v2, v3, v4, v5, v6, v7] (.int (w 0) :: st) A Q := c_stk i_268_2006 rfl
theorem q_268_2007 : XX d 268 2007 [v0, v1, v2, v3, v4, v5, v6, v7] [.int x] A Q ↔ (x = w 0 ∨ x = w 1) ∧ Q (.inl (some (.int x))) A := e_retZ i_268_2007 rfl
theorem q_268_2008 : XX d 268 2008 [v0, v1, v2, v3, v4, some (.int x), v6, v7] st A Q ↔ XX d 268 2010 [v0, v1, v2, v3, v4, some (.int x), v6, v7] (.int x :: st) A Q := c_lcl i_268_2008 rfl rfl
theorem q_268_2010 : XX d 268 2010 [v0, v1, v2, v3, v4, v5, v6, v7] (.int x :: st) A Q ↔ if x = w 0 then XX d 268 2013 [v0, v1, v2, v3, v4, v5, v6, v7] st A Q else XX d 268 2025 [v0, v1, v2, v3, v4, v5, v6, v7] st A Q := z_ne i_268_2010 rfl rfl rfl
theorem q_268_2013 : XX d 268 2013 [v0, v1, v2, some (.ref a), v4, v5, v6, v7] st A Q ↔ XX d 268 2014 [v0, v1, v2, some (.ref a), v4, v5, v6, v7] (.ref a :: st) A Q := c_lcl i_268_2013 rfl rfl
theorem q_268_2014 : XX d 268 2014 [v0, v1, v2, v3, v4, v5, v6, v7] st A Q ↔ XX d 268 2015 [v0, v1, v2, v3, v4, v5, v6, v7] (.int (w 0) :: st) A Q := c_stk i_268_2014 rfl
theorem q_268_2015 : XX d 268 2015 [v0, v1, v2, v3, v4, v5, v6, v7] (.int x :: .ref a :: st) (mk S I L R G) Q ↔ inA (S a) ok_l x ∧ XX d 268 2016 [v0, v1, v2, v3, v4, v5, v6, v7] (.long (L a (ix x)) :: st) (mk S I L R G) Q := r_la i_268_2015
theorem q_268_2016 : XX d 268 2016 [v0, v1, v2, v3, v4, v5, some (.int x), v7] st A Q ↔ XX d 268 2018 [v0, v1, v2, v3, v4, v5, some (.int x), v7] (.int x :: st) A Q := c_lcl i_268_2016 rfl rfl
theorem q_268_2018 : XX d 268 2018 [v0, v1, v2, v3, v4, v5, v6, v7] (.int x :: st) A Q ↔ XX d 268 2019 [v0, v1, v2, v3, v4, v5, v6, v7] (.long x.toInt64 :: st) A Q := c_stk i_268_2018 rfl
theorem q_268_2019 : XX d 268 2019 [v0, v1, v2, v3, v4, v5, v6, v7] (.long ly :: .long lx :: st) A Q ↔ XX d 268 2020 [v0, v1, v2, v3, v4, v5, v6, v7] (.int (lg_cmp lx ly) :: st) A Q := c_stk i_268_2019 rfl
theorem q_268_2020 : XX d 268 2020 [v0, v1, v2, v3, v4, v5, v6, v7] (.int x :: st) A Q ↔ if x = w 0 then XX d 268 2025 [v0, v1, v2, v3, v4, v5, v6, v7] st A Q else XX d 268 2023 [v0, v1, v2, v3, v4, v5, v6, v7] st A Q := z_eq i_268_2020 rfl rfl rfl
theorem q_268_2023 : XX d 268 2023 [v0, v1, v2, v3, v4, v5, v6, v7] st A Q ↔ XX d 268 2024 [v0, v1, v2, v3, v4, v5, v6, v7] (.int (w 0) :: st) A Q := c_stk i_268_2023 rfl
theorem q_268_2024 : XX d 268 2024 [v0, v1, v2, v3, v4, v5, v6, v7] [.int x] A Q ↔ (x = w 0 ∨ x = w 1) ∧ Q (.inl (some (.int x))) A := e_retZ i_268_2024 rfl
theorem q_268_2025 : XX d 268 2025 [v0, v1, v2, v3, v4, v5, v6, v7] st A Q ↔ XX d 268 2288 [v0, v1, v2, v3, v4, v5, v6, v7] st A Q := c_go i_268_2025 rfl rfl
theorem q_268_2028 : XX d 268 2028 [v0, some (.ref a), v2, v3, v4, v5, v6, v7] st A Q ↔ XX d 268 2029 [v0, some (.ref a), v2, v3, v4, v5, v6, v7] (.ref a :: st) A Q := c_lcl i_268_2028 rfl rfl
theorem q_268_2029 : XX d 268 2029 [some (.ref a), v1, v2, v3, v4, v5, v6, v7] st A Q ↔ XX d 268 2030 [some (.ref a), v1, v2, v3, v4, v5, v6, v7] (.ref a :: st) A Q := c_lcl i_268_2029 rfl rfl
theorem q_268_2030 : XX d 268 2030 [v0, v1, v2, v3, some (.int x), v5, v6, v7] st A Q ↔ XX d 268 2032 [v0, v1, v2, v3, some (.int x), v5, v6, v7] (.int x :: st) A Q := c_lcl i_268_2030 rfl rfl
theorem q_268_2032 : XX d 268 2032 [v0, v1, v2, v3, v4, v5, v6, v7] st A Q ↔ XX d 268 2033 [v0, v1, v2, v3, v4, v5, v6, v7] (.int (w 1) :: st) A Q := c_stk i_268_2032 rfl
theorem q_268_2033 : XX d 268 2033 [v0, v1, v2, v3, v4, v5, v6, v7] (.int y :: .int x :: st) A Q ↔ XX d 268 2034 [v0, v1, v2, v3, v4, v5, v6, v7] (.int (x + y) :: st) A Q := c_stk i_268_2033 rfl
theorem q_268_2034 : XX d 268 2034 [v0, v1, v2, v3, v4, v5, v6, v7] (.int x :: .ref a :: st) (mk S I L R G) Q ↔ inA (S a) ok_i x ∧ XX d 268 2035 [v0, v1, v2, v3, v4, v5, v6, v7] (.int (I a (ix x)) :: st) (mk S I L R G) Q := r_ia i_268_2034
theorem q_268_2035 : XX d 268 2035 [v0, v1, v2, some (.ref a), v4, v5, v6, v7] st A Q ↔ XX d 268 2036 [v0, v1, v2, some (.ref a), v4, v5, v6, v7] (.ref a :: st) A Q := c_lcl i_268_2035 rfl rfl
theorem q_268_2036 : XX (d + 1) 268 2036 [v0, v1, v2, v3, v4, v5, v6, v7] [.ref a2, .int x1, .ref a0] A Q ↔ XC d 264 [.ref a0, .int x1, .ref a2] A (XK (d + 1) 268 2036 [v0, v1, v2, v3, v4, v5, v6, v7] [] Q) := c_callS i_268_2036 rfl rfl rfl rfl (Nat.le_of_ble_eq_true rfl) (Nat.le_of_ble_eq_true rfl)
theorem q_268_2039 : XX d 268 2039 [v0, v1, v2, v3, some (.int z), v5, v6, v7] (.int x :: st) A Q ↔ XX d 268 2041 [v0, v1, v2, v3, some (.int z), some (.int x), v6, v7] st A Q := c_lcl i_268_2039 rfl rfl
theorem q_268_2041 : XX d 268 2041 [v0, v1, some (.ref a), v3, v4, v5, v6, v7] st A Q ↔ XX d 268 2042 [v0, v1, some (.ref a), v3, v4, v5, v6, v7] (.ref a :: st) A Q := c_lcl i_268_2041 rfl rfl
theorem q_268_2042 : XX d 268 2042 [some (.ref a), v1, v2, v3, v4, v5, v6, v7] st A Q ↔ XX d 268 2043 [some (.ref a), v1, v2, v3, v4, v5, v6, v7] (.ref a :: st) A Q := c_lcl i_268_2042 rfl rfl
theorem q_268_2043 : XX d 268 2043 [v0, v1, v2, v3, some (.int x), v5, v6, v7] st A Q ↔ XX d 268 2045 [v0, v1, v2, v3, some (.int x), v5, v6, v7] (.int x :: st) A Q := c_lcl i_268_2043 rfl rfl
theorem q_268_2045 : XX d 268 2045 [v0, v1, v2, v3, v4, v5, v6, v7] st A Q ↔ XX d 268 2046 [v0, v1, v2, v3, v4, v5, v6, v7] (.int (w 1) :: st) A Q := c_stk i_268_2045 rfl
theorem q_268_2046 : XX d 268 2046 [v0, v1, v2, v3, v4, v5, v6, v7] (.int y :: .int x :: st) A Q ↔ XX d 268 2047 [v0, v1, v2, v3, v4, v5, v6, v7] (.int (x + y) :: st) A Q := c_stk i_268_2046 rfl
theorem q_268_2047 : XX d 268 2047 [v0, v1, v2, v3, v4, v5, v6, v7] (.int x :: .ref a :: st) (mk S I L R G) Q ↔ inA (S a) ok_i x ∧ XX d 268 2048 [v0, v1, v2, v3, v4, v5, v6, v7] (.int (I a (ix x)) :: st) (mk S I L R G) Q := r_ia i_268_2047
theorem q_268_2048 : XX (d + 1) 268 2048 [v0, v1, v2, v3, v4, v5, v6, v7] [.int x1, .ref a0] (mk S I L R G) Q ↔ S a0 = some (.inr 12) ∧ XC d 232 [.ref a0, .int x1] (mk S I L R G) (XK (d + 1) 268 2048 [v0, v1, v2, v3, v4, v5, v6, v7] [] Q) := c_callV i_268_2048 rfl rfl rfl rfl (Nat.le_of_ble_eq_true rfl) (Nat.le_of_ble_eq_true rfl) rfl
theorem q_268_2051 : XX d 268 2051 [v0, v1, v2, v3, v4, some (.int z), v6, v7] (.int x :: st) A Q ↔ XX d 268 2053 [v0, v1, v2, v3, v4, some (.int z), some (.int x), v7] st A Q := c_lcl i_268_2051 rfl rfl
theorem q_268_2053 : XX d 268 2053 [v0, v1, some (.ref a), v3, v4, v5, v6, v7] st A Q ↔ XX d 268 2054 [v0, v1, some (.ref a), v3, v4, v5, v6, v7] (.ref a :: st) A Q := c_lcl i_268_2053 rfl rfl
theorem q_268_2054 : XX (d + 1) 268 2054 [v0, v1, v2, v3, v4, v5, v6, v7] [.ref a0] (mk S I L R G) Q ↔ S a0 = some (.inr 12) ∧ XC d 153 [.ref a0] (mk S I L R G) (XK (d + 1) 268 2054 [v0, v1, v2, v3, v4, v5, v6, v7] [] Q) := c_callV i_268_2054 rfl rfl rfl rfl (Nat.le_of_ble_eq_true rfl) (Nat.le_of_ble_eq_true rfl) rfl
theorem q_268_2057 : XX d 268 2057 [v0, v1, v2, v3, v4, some (.int x), v6, v7] st A Q ↔ XX d 268 2059 [v0, v1, v2, v3, v4, some (.int x), v6, v7] (.int x :: st) A Q := c_lcl i_268_2057 rfl rfl
theorem q_268_2059 : XX d 268 2059 [v0, v1, v2, v3, v4, v5, v6, v7] (.int y :: .int x :: st) A Q ↔ if x = y then XX d 268 2064 [v0, v1, v2, v3, v4, v5, v6, v7] st A Q else XX d 268 2062 [v0, v1, v2, v3, v4, v5, v6, v7] st A Q := b_eq i_268_2059 rfl rfl rfl
theorem q_268_2062 : XX d 268 2062 [v0, v1, v2, v3, v4, v5, v6, v7] st A Q ↔ XX d 268 2063 [v0, v1, v2, v3, v4, v5, v6, v7] (.int (w 0) :: st) A Q := c_stk i_268_2062 rfl
theorem q_268_2063 : XX d 268 2063 [v0, v1, v2, v3, v4, v5, v6, v7] [.int x] A Q ↔ (x = w 0 ∨ x = w 1) ∧ Q (.inl (some (.int x))) A := e_retZ i_268_2063 rfl
theorem q_268_2064 : XX d 268 2064 [v0, v1, v2, v3, v4, some (.int x), v6, v7] st A Q ↔ XX d 268 2066 [v0, v1, v2, v3, v4, some (.int x), v6, v7] (.int x :: st) A Q := c_lcl i_268_2064 rfl rfl
theorem q_268_2066 : XX d 268 2066 [v0, v1, v2, v3, v4, v5, v6, v7] (.int x :: st) A Q ↔ if x = w 0 then XX d 268 2069 [v0, v1, v2, v3, v4, v5, v6, v7] st A Q else XX d 268 2081 [v0, v1, v2, v3, v4, v5, v6, v7] st A Q := z_ne i_268_2066 rfl rfl rfl
theorem q_268_2069 : XX d 268 2069 [v0, v1, v2, some (.ref a), v4, v5, v6, v7] st A Q ↔ XX d 268 2070 [v0, v1, v2, some (.ref a), v4, v5, v6, v7] (.ref a :: st) A Q := c_lcl i_268_2069 rfl rfl
theorem q_268_2070 : XX d 268 2070 [v0, v1, v2, v3, v4, v5, v6, v7] st A Q ↔ XX d 268 2071 [v0, v1, v2, v3, v4, v5, v6, v7] (.int (w 0) :: st) A Q := c_stk i_268_2070 rfl
theorem q_268_2071 : XX d 268 2071 [v0, v1, v2, v3, v4, v5, v6, v7] (.int x :: .ref a :: st) (mk S I L R G) Q ↔ inA (S a) ok_l x ∧ XX d 268 2072 [v0, v1, v2, v3, v4, v5, v6, v7] (.long (L a (ix x)) :: st) (mk S I L R G) Q := r_la i_268_2071
theorem q_268_2072 : XX d 268 2072 [v0, v1, v2, v3, v4, v5, some (.int x), v7] st A Q ↔ XX d 268 2074 [v0, v1, v2, v3, v4, v5, some (.int x), v7] (.int x :: st) A Q := c_lcl i_268_2072 rfl rfl
theorem q_268_2074 : XX d 268 2074 [v0, v1, v2, v3, v4, v5, v6, v7] (.int x :: st) A Q ↔ XX d 268 2075 [v0, v1, v2, v3, v4, v5, v6, v7] (.long x.toInt64 :: st) A Q := c_stk i_268_2074 rfl
theorem q_268_2075 : XX d 268 2075 [v0, v1, v2, v3, v4, v5, v6, v7] (.long ly :: .long lx :: st) A Q ↔ XX d 268 2076 [v0, v1, v2, v3, v4, v5, v6, v7] (.int (lg_cmp lx ly) :: st) A Q := c_stk i_268_2075 rfl
theorem q_268_2076 : XX d 268 2076 [v0, v1, v2, v3, v4, v5, v6, v7] (.int x :: st) A Q ↔ if x = w 0 then XX d 268 2081 [v0, v1, v2, v3, v4, v5, v6, v7] st A Q else XX d 268 2079 [v0, v1, v2, v3, v4, v5, v6, v7] st A Q := z_eq i_268_2076 rfl rfl rfl
theorem q_268_2079 : XX d 268 2079 [v0, v1, v2, v3, v4, v5, v6, v7] st A Q ↔ XX d 268 2080 [v0, v1, v2, v3, v4, v5, v6, v7] (.int (w 0) :: st) A Q := c_stk i_268_2079 rfl
theorem q_268_2080 : XX d 268 2080 [v0, v1, v2, v3, v4, v5, v6, v7] [.int x] A Q ↔ (x = w 0 ∨ x = w 1) ∧ Q (.inl (some (.int x))) A := e_retZ i_268_2080 rfl
theorem q_268_2081 : XX d 268 2081 [v0, v1, v2, v3, v4, v5, v6, v7] st A Q ↔ XX d 268 2288 [v0, v1, v2, v3, v4, v5, v6, v7] st A Q := c_go i_268_2081 rfl rfl
theorem q_268_2084 : XX d 268 2084 [v0, some (.ref a), v2, v3, v4, v5, v6, v7] st A Q ↔ XX d 268 2085 [v0, some (.ref a), v2, v3, v4, v5, v6, v7] (.ref a :: st) A Q := c_lcl i_268_2084 rfl rfl
theorem q_268_2085 : XX d 268 2085 [some (.ref a), v1, v2, v3, v4, v5, v6, v7] st A Q ↔ XX d 268 2086 [some (.ref a), v1, v2, v3, v4, v5, v6, v7] (.ref a :: st) A Q := c_lcl i_268_2085 rfl rfl
theorem q_268_2086 : XX d 268 2086 [v0, v1, v2, v3, some (.int x), v5, v6, v7] st A Q ↔ XX d 268 2088 [v0, v1, v2, v3, some (.int x), v5, v6, v7] (.int x :: st) A Q := c_lcl i_268_2086 rfl rfl
theorem q_268_2088 : XX d 268 2088 [v0, v1, v2, v3, v4, v5, v6, v7] st A Q ↔ XX d 268 2089 [v0, v1, v2, v3, v4, v5, v6, v7] (.int (w 1) :: st) A Q := c_stk i_268_2088 rfl
theorem q_268_2089 : XX d 268 2089 [v0, v1, v2, v3, v4, v5, v6, v7] (.int y :: .int x :: st) A Q ↔ XX d 268 2090 [v0, v1, v2, v3, v4, v5, v6, v7] (.int (x + y) :: st) A Q := c_stk i_268_2089 rfl
theorem q_268_2090 : XX d 268 2090 [v0, v1, v2, v3, v4, v5, v6, v7] (.int x :: .ref a :: st) (mk S I L R G) Q ↔ inA (S a) ok_i x ∧ XX d 268 2091 [v0, v1, v2, v3, v4, v5, v6, v7] (.int (I a (ix x)) :: st) (mk S I L R G) Q := r_ia i_268_2090
theorem q_268_2091 : XX d 268 2091 [some (.ref a), v1, v2, v3, v4, v5, v6, v7] st A Q ↔ XX d 268 2092 [some (.ref a), v1, v2, v3, v4, v5, v6, v7] (.ref a :: st) A Q := c_lcl i_268_2091 rfl rfl
theorem q_268_2092 : XX d 268 2092 [v0, v1, v2, v3, some (.int x), v5, v6, v7] st A Q ↔ XX d 268 2094 [v0, v1, v2, v3, some (.int x), v5, v6, v7] (.int x :: st) A Q := c_lcl i_268_2092 rfl rfl
theorem q_268_2094 : XX d 268 2094 [v0, v1, v2, v3, v4, v5, v6, v7] st A Q ↔ XX d 268 2095 [v0, v1, v2, v3, v4, v5, v6, v7] (.int (w 2) :: st) A Q := c_stk i_268_2094 rfl
theorem q_268_2095 : XX d 268 2095 [v0, v1, v2, v3, v4, v5, v6, v7] (.int y :: .int x :: st) A Q ↔ XX d 268 2096 [v0, v1, v2, v3, v4, v5, v6, v7] (.int (x + y) :: st) A Q := c_stk i_268_2095 rfl
theorem q_268_2096 : XX d 268 2096 [v0, v1, v2, v3, v4, v5, v6, v7] (.int x :: .ref a :: st) (mk S I L R G) Q ↔ inA (S a) ok_i x ∧ XX d 268 2097 [v0, v1, v2, v3, v4, v5, v6, v7] (.int (I a (ix x)) :: st) (mk S I L R G) Q := r_ia i_268_2096
theorem q_268_2097 : XX d 268 2097 [v0, v1, v2, some (.ref a), v4, v5, v6, v7] st A Q ↔ XX d 268 2098 [v0, v1, v2, some (.ref a), v4, v5, v6, v7] (.ref a :: st) A Q := c_lcl i_268_2097 rfl rfl
theorem q_268_2098 : XX (d + 1) 268 2098 [v0, v1, v2, v3, v4, v5, v6, v7] [.ref a3, .int x2, .int x1, .ref a0] A Q ↔ XC d 265 [.ref a0, .int x1, .int x2, .ref a3] A (XK (d + 1) 268 2098 [v0, v1, v2, v3, v4, v5, v6, v7] [] Q) := c_callS i_268_2098 rfl rfl rfl rfl (Nat.le_of_ble_eq_true rfl) (Nat.le_of_ble_eq_true rfl)
theorem q_268_2101 : XX d 268 2101 [v0, v1, v2, v3, some (.int z), v5, v6, v7] (.int x :: st) A Q ↔ XX d 268 2103 [v0, v1, v2, v3, some (.int z), some (.int x), v6, v7] st A Q := c_lcl i_268_2101 rfl rfl
theorem q_268_2103 : XX d 268 2103 [v0, v1, some (.ref a), v3, v4, v5, v6, v7] st A Q ↔ XX d 268 2104 [v0, v1, some (.ref a), v3, v4, v5, v6, v7] (.ref a :: st) A Q := c_lcl i_268_2103 rfl rfl
theorem q_268_2104 : XX d 268 2104 [some (.ref a), v1, v2, v3, v4, v5, v6, v7] st A Q ↔ XX d 268 2105 [some (.ref a), v1, v2, v3, v4, v5, v6, v7] (.ref a :: st) A Q := c_lcl i_268_2104 rfl rfl
theorem q_268_2105 : XX d 268 2105 [v0, v1, v2, v3, some (.int x), v5, v6, v7] st A Q ↔ XX d 268 2107 [v0, v1, v2, v3, some (.int x), v5, v6, v7] (.int x :: st) A Q := c_lcl i_268_2105 rfl rfl
theorem q_268_2107 : XX d 268 2107 [v0, v1, v2, v3, v4, v5, v6, v7] st A Q ↔ XX d 268 2108 [v0, v1, v2, v3, v4, v5, v6, v7] (.int (w 1) :: st) A Q := c_stk i_268_2107 rfl
theorem q_268_2108 : XX d 268 2108 [v0, v1, v2, v3, v4, v5, v6, v7] (.int y :: .int x :: st) A Q ↔ XX d 268 2109 [v0, v1, v2, v3, v4, v5, v6, v7] (.int (x + y) :: st) A Q := c_stk i_268_2108 rfl
theorem q_268_2109 : XX d 268 2109 [v0, v1, v2, v3, v4, v5, v6, v7] (.int x :: .ref a :: st) (mk S I L R G) Q ↔ inA (S a) ok_i x ∧ XX d 268 2110 [v0, v1, v2, v3, v4, v5, v6, v7] (.int (I a (ix x)) :: st) (mk S I L R G) Q := r_ia i_268_2109
theorem q_268_2110 : XX d 268 2110 [some (.ref a), v1, v2, v3, v4, v5, v6, v7] st A Q ↔ XX d 268 2111 [some (.ref a), v1, v2, v3, v4, v5, v6, v7] (.ref a :: st) A Q := c_lcl i_268_2110 rfl rfl
theorem q_268_2111 : XX d 268 2111 [v0, v1, v2, v3, some (.int x), v5, v6, v7] st A Q ↔ XX d 268 2113 [v0, v1, v2, v3, some (.int x), v5, v6, v7] (.int x :: st) A Q := c_lcl i_268_2111 rfl rfl
theorem q_268_2113 : XX d 268 2113 [v0, v1, v2, v3, v4, v5, v6, v7] st A Q ↔ XX d 268 2114 [v0, v1, v2, v3, v4, v5, v6, v7] (.int (w 2) :: st) A Q := c_stk i_268_2113 rfl
theorem q_268_2114 : XX d 268 2114 [v0, v1, v2, v3, v4, v5, v6, v7] (.int y :: .int x :: st) A Q ↔ XX d 268 2115 [v0, v1, v2, v3, v4, v5, v6, v7] (.int (x + y) :: st) A Q := c_stk i_268_2114 rfl
theorem q_268_2115 : XX d 268 2115 [v0, v1, v2, v3, v4, v5, v6, v7] (.int x :: .ref a :: st) (mk S I L R G) Q ↔ inA (S a) ok_i x ∧ XX d 268 2116 [v0, v1, v2, v3, v4, v5, v6, v7] (.int (I a (ix x)) :: st) (mk S I L R G) Q := r_ia i_268_2115
theorem q_268_2116 : XX (d + 1) 268 2116 [v0, v1, v2, v3, v4, v5, v6, v7] [.int x2, .int x1, .ref a0] (mk S I L R G) Q ↔ S a0 = some (.inr 12) ∧ XC d 236 [.ref a0, .int x1, .int x2] (mk S I L R G) (XK (d + 1) 268 2116 [v0, v1, v2, v3, v4, v5, v6, v7] [] Q) := c_callV i_268_2116 rfl rfl rfl rfl (Nat.le_of_ble_eq_true rfl) (Nat.le_of_ble_eq_true rfl) rfl
theorem q_268_2119 : XX d 268 2119 [v0, v1, v2, v3, v4, some (.int z), v6, v7] (.int x :: st) A Q ↔ XX d 268 2121 [v0, v1, v2, v3, v4, some (.int z), some (.int x), v7] st A Q := c_lcl i_268_2119 rfl rfl
theorem q_268_2121 : XX d 268 2121 [v0, v1, some (.ref a), v3, v4, v5, v6, v7] st A Q ↔ XX d 268 2122 [v0, v1, some (.ref a), v3, v4, v5, v6, v7] (.ref a :: st) A Q := c_lcl i_268_2121 rfl rfl
theorem q_268_2122 : XX (d + 1) 268 2122 [v0, v1, v2, v3, v4, v5, v6, v7] [.ref a0] (mk S I L R G) Q ↔ S a0 = some (.inr 12) ∧ XC d 153 [.ref a0] (mk S I L R G) (XK (d + 1) 268 2122 [v0, v1, v2, v3, v4, v5, v6, v7] [] Q) := c_callV i_268_2122 rfl rfl rfl rfl (Nat.le_of_ble_eq_true rfl) (Nat.le_of_ble_eq_true rfl) rfl
theorem q_268_2125 : XX d 268 2125 [v0, v1, v2, v3, v4, some (.int x), v6, v7] st A Q ↔ XX d 268 2127 [v0, v1, v2, v3, v4, some (.int x), v6, v7] (.int x :: st) A Q := c_lcl i_268_2125 rfl rfl
theorem q_268_2127 : XX d 268 2127 [v0, v1, v2, v3, v4, v5, v6, v7] (.int y :: .int x :: st) A Q ↔ if x = y then XX d 268 2132 [v0, v1, v2, v3, v4, v5, v6, v7] st A Q else XX d 268 2130 [v0, v1, v2, v3, v4, v5, v6, v7] st A Q := b_eq i_268_2127 rfl rfl rfl
theorem q_268_2130 : XX d 268 2130 [v0, v1, v2, v3, v4, v5, v6, v7] st A Q ↔ XX d 268 2131 [v0, v1, v2, v3, v4, v5, v6, v7] (.int (w 0) :: st) A Q := c_stk i_268_2130 rfl
theorem q_268_2131 : XX d 268 2131 [v0, v1, v2, v3, v4, v5, v6, v7] [.int x] A Q ↔ (x = w 0 ∨ x = w 1) ∧ Q (.inl (some (.int x))) A := e_retZ i_268_2131 rfl
theorem q_268_2132 : XX d 268 2132 [v0, v1, v2, v3, v4, some (.int x), v6, v7] st A Q ↔ XX d 268 2134 [v0, v1, v2, v3, v4, some (.int x), v6, v7] (.int x :: st) A Q := c_lcl i_268_2132 rfl rfl
theorem q_268_2134 : XX d 268 2134 [v0, v1, v2, v3, v4, v5, v6, v7] (.int x :: st) A Q ↔ if x = w 0 then XX d 268 2137 [v0, v1, v2, v3, v4, v5, v6, v7] st A Q else XX d 268 2149 [v0, v1, v2, v3, v4, v5, v6, v7] st A Q := z_ne i_268_2134 rfl rfl rfl
theorem q_268_2137 : XX d 268 2137 [v0, v1, v2, some (.ref a), v4, v5, v6, v7] st A Q ↔ XX d 268 2138 [v0, v1, v2, some (.ref a), v4, v5, v6, v7] (.ref a :: st) A Q := c_lcl i_268_2137 rfl rfl
theorem q_268_2138 : XX d 268 2138 [v0, v1, v2, v3, v4, v5, v6, v7] st A Q ↔ XX d 268 2139 [v0, v1, v2, v3, v4, v5, v6, v7] (.int (w 0) :: st) A Q := c_stk i_268_2138 rfl
theorem q_268_2139 : XX d 268 2139 [v0, v1, v2, v3, v4, v5, v6, v7] (.int x :: .ref a :: st) (mk S I L R G) Q ↔ inA (S a) ok_l x ∧ XX d 268 2140 [v0, v1, v2, v3, v4, v5, v6, v7] (.long (L a (ix x)) :: st) (mk S I L R G) Q := r_la i_268_2139
theorem q_268_2140 : XX d 268 2140 [v0, v1, v2, v3, v4, v5, some (.int x), v7] st A Q ↔ XX d 268 2142 [v0, v1, v2, v3, v4, v5, some (.int x), v7] (.int x :: st) A Q := c_lcl i_268_2140 rfl rfl
theorem q_268_2142 : XX d 268 2142 [v0, v1, v2, v3, v4, v5, v6, v7] (.int x :: st) A Q ↔ XX d 268 2143 [v0, v1, v2, v3, v4, v5, v6, v7] (.long x.toInt64 :: st) A Q := c_stk i_268_2142 rfl
theorem q_268_2143 : XX d 268 2143 [v0, v1, v2, v3, v4, v5, v6, v7] (.long ly :: .long lx :: st) A Q ↔ XX d 268 2144 [v0, v1, v2, v3, v4, v5, v6, v7] (.int (lg_cmp lx ly) :: st) A Q := c_stk i_268_2143 rfl
theorem q_268_2144 : XX d 268 2144 [v0, v1, v2, v3, v4, v5, v6, v7] (.int x :: st) A Q ↔ if x = w 0 then XX d 268 2149 [v0, v1, v2, v3, v4, v5, v6, v7] st A Q else XX d 268 2147 [v0, v1, v2, v3, v4, v5, v6, v7] st A Q := z_eq i_268_2144 rfl rfl rfl
theorem q_268_2147 : XX d 268 2147 [v0, v1, v2, v3, v4, v5, v6, v7] st A Q ↔ XX d 268 2148 [v0, v1, v2, v3, v4, v5, v6, v7] (.int (w 0) :: st) A Q := c_stk i_268_2147 rfl
theorem q_268_2148 : XX d 268 2148 [v0, v1, v2, v3, v4, v5, v6, v7] [.int x] A Q ↔ (x = w 0 ∨ x = w 1) ∧ Q (.inl (some (.int x))) A := e_retZ i_268_2148 rfl
theorem q_268_2149 : XX d 268 2149 [v0, v1, v2, v3, v4, v5, v6, v7] st A Q ↔ XX d 268 2288 [v0, v1, v2, v3, v4, v5, v6, v7] st A Q := c_go i_268_2149 rfl rfl
theorem q_268_2152 : XX d 268 2152 [v0, some (.ref a), v2, v3, v4, v5, v6, v7] st A Q ↔ XX d 268 2153 [v0, some (.ref a), v2, v3, v4, v5, v6, v7] (.ref a :: st) A Q := c_lcl i_268_2152 rfl rfl
theorem q_268_2153 : XX d 268 2153 [some (.ref a), v1, v2, v3, v4, v5, v6, v7] st A Q ↔ XX d 268 2154 [some (.ref a), v1, v2, v3, v4, v5, v6, v7] (.ref a :: st) A Q := c_lcl i_268_2153 rfl rfl
theorem q_268_2154 : XX d 268 2154 [v0, v1, v2, v3, some (.int x), v5, v6, v7] st A Q ↔ XX d 268 2156 [v0, v1, v2, v3, some (.int x), v5, v6, v7] (.int x :: st) A Q := c_lcl i_268_2154 rfl rfl
theorem q_268_2156 : XX d 268 2156 [v0, v1, v2, v3, v4, v5, v6, v7] st A Q ↔ XX d 268 2157 [v0, v1, v2, v3, v4, v5, v6, v7] (.int (w 1) :: st) A Q := c_stk i_268_2156 rfl
theorem q_268_2157 : XX d 268 2157 [v0, v1, v2, v3, v4, v5, v6, v7] (.int y :: .int x :: st) A Q ↔ XX d 268 2158 [v0, v1, v2, v3, v4, v5, v6, v7] (.int (x + y) :: st) A Q := c_stk i_268_2157 rfl
theorem q_268_2158 : XX d 268 2158 [v0, v1, v2, v3, v4, v5, v6, v7] (.int x :: .ref a :: st) (mk S I L R G) Q ↔ inA (S a) ok_i x ∧ XX d 268 2159 [v0, v1, v2, v3, v4, v5, v6, v7] (.int (I a (ix x)) :: st) (mk S I L R G) Q := r_ia i_268_2158
theorem q_268_2159 : XX d 268 2159 [v0, v1, v2, some (.ref a), v4, v5, v6, v7] st A Q ↔ XX d 268 2160 [v0, v1, v2, some (.ref a), v4, v5, v6, v7] (.ref a :: st) A Q := c_lcl i_268_2159 rfl rfl
theorem q_268_2160 : XX (d + 1) 268 2160 [v0, v1, v2, v3, v4, v5, v6, v7] [.ref a2, .int x1, .ref a0] A Q ↔ XC d 266 [.ref a0, .int x1, .ref a2] A (XK (d + 1) 268 2160 [v0, v1, v2, v3, v4, v5, v6, v7] [] Q) := c_callS i_268_2160 rfl rfl rfl rfl (Nat.le_of_ble_eq_true rfl) (Nat.le_of_ble_eq_true rfl)
theorem q_268_2163 : XX d 268 2163 [v0, v1, v2, v3, some (.int z), v5, v6, v7] (.int x :: st) A Q ↔ XX d 268 2165 [v0, v1, v2, v3, some (.int z), some (.int x), v6, v7] st A Q := c_lcl i_268_2163 rfl rfl
theorem q_268_2165 : XX d 268 2165 [v0, v1, some (.ref a), v3, v4, v5, v6, v7] st A Q ↔ XX d 268 2166 [v0, v1, some (.ref a), v3, v4, v5, v6, v7] (.ref a :: st) A Q := c_lcl i_268_2165 rfl rfl
theorem q_268_2166 : XX d 268 2166 [some (.ref a), v1, v2, v3, v4, v5, v6, v7] st A Q ↔ XX d 268 2167 [some (.ref a), v1, v2, v3, v4, v5, v6, v7] (.ref a :: st) A Q := c_lcl i_268_2166 rfl rfl
theorem q_268_2167 : XX d 268 2167 [v0, v1, v2, v3, some (.int x), v5, v6, v7] st A Q ↔ XX d 268 2169 [v0, v1, v2, v3, some (.int x), v5, v6, v7] (.int x :: st) A Q := c_lcl i_268_2167 rfl rfl
theorem q_268_2169 : XX d 268 2169 [v0, v1, v2, v3, v4, v5, v6, v7] st A Q ↔ XX d 268 2170 [v0, v1, v2, v3, v4, v5, v6, v7] (.int (w 1) :: st) A Q := c_stk i_268_2169 rfl
theorem q_268_2170 : XX d 268 2170 [v0, v1, v2, v3, v4, v5, v6, v7] (.int y :: .int x :: st) A Q ↔ XX d 268 2171 [v0, v1, v2, v3, v4, v5, v6, v7] (.int (x + y) :: st) A Q := c_stk i_268_2170 rfl
theorem q_268_2171 : XX d 268 2171 [v0, v1, v2, v3, v4, v5, v6, v7] (.int x :: .ref a :: st) (mk S I L R G) Q ↔ inA (S a) ok_i x ∧ XX d 268 2172 [v0, v1, v2, v3, v4, v5, v6, v7] (.int (I a (ix x)) :: st) (mk S I L R G) Q := r_ia i_268_2171
theorem q_268_2172 : XX (d + 1) 268 2172 [v0, v1, v2, v3, v4, v5, v6, v7] [.int x1, .ref a0] (mk S I L R G) Q ↔ S a0 = some (.inr 12) ∧ XC d 237 [.ref a0, .int x1] (mk S I L R G) (XK (d + 1) 268 2172 [v0, v1, v2, v3, v4, v5, v6, v7] [] Q) := c_callV i_268_2172 rfl rfl rfl rfl (Nat.le_of_ble_eq_true rfl) (Nat.le_of_ble_eq_true rfl) rfl
theorem q_268_2175 : XX d 268 2175 [v0, v1, v2, v3, v4, some (.int z), v6, v7] (.int x :: st) A Q ↔ XX d 268 2177 [v0, v1, v2, v3, v4, some (.int z), some (.int x), v7] st A Q := c_lcl i_268_2175 rfl rfl
theorem q_268_2177 : XX d 268 2177 [v0, v1, some (.ref a), v3, v4, v5, v6, v7] st A Q ↔ XX d 268 2178 [v0, v1, some (.ref a), v3, v4, v5, v6, v7] (.ref a :: st) A Q := c_lcl i_268_2177 rfl rfl
theorem q_268_2178 : XX (d + 1) 268 2178 [v0, v1, v2, v3, v4, v5, v6, v7] [.ref a0] (mk S I L R G) Q ↔ S a0 = some (.inr 12) ∧ XC d 153 [.ref a0] (mk S I L R G) (XK (d + 1) 268 2178 [v0, v1, v2, v3, v4, v5, v6, v7] [] Q) := c_callV i_268_2178 rfl rfl rfl rfl (Nat.le_of_ble_eq_true rfl) (Nat.le_of_ble_eq_true rfl) rfl
theorem q_268_2181 : XX d 268 2181 [v0, v1, v2, v3, v4, some (.int x), v6, v7] st A Q ↔ XX d 268 2183 [v0, v1, v2, v3, v4, some (.int x), v6, v7] (.int x :: st) A Q := c_lcl i_268_2181 rfl rfl
theorem q_268_2183 : XX d 268 2183 [v0, v1, v2, v3, v4, v5, v6, v7] (.int y :: .int x :: st) A Q ↔ if x = y then XX d 268 2188 [v0, v1, v2, v3, v4, v5, v6, v7] st A Q else XX d 268 2186 [v0, v1, v2, v3, v4, v5, v6, v7] st A Q := b_eq i_268_2183 rfl rfl rfl
theorem q_268_2186 : XX d 268 2186 [v0, v1, v2, v3, v4, v5, v6, v7] st A Q ↔ XX d 268 2187 [v0, v1, v2, v3, v4, v5, v6, v7] (.int (w 0) :: st) A Q := c_stk i_268_2186 rfl
theorem q_268_2187 : XX d 268 2187 [v0, v1, v2, v3, v4, v5, v6, v7] [.int x] A Q ↔ (x = w 0 ∨ x = w 1) ∧ Q (.inl (some (.int x))) A := e_retZ i_268_2187 rfl
theorem q_268_2188 : XX d 268 2188 [v0, v1, v2, v3, v4, some (.int x), v6, v7] st A Q ↔ XX d 268 2190 [v0, v1, v2, v3, v4, some (.int x), v6, v7] (.int x :: st) A Q := c_lcl i_268_2188 rfl rfl
theorem q_268_2190 : XX d 268 2190 [v0, v1, v2, v3, v4, v5, v6, v7] (.int x :: st) A Q ↔ if x = w 0 then XX d 268 2193 [v0, v1, v2, v3, v4, v5, v6, v7] st A Q else XX d 268 2205 [v0, v1, v2, v3, v4, v5, v6, v7] st A Q := z_ne i_268_2190 rfl rfl rfl
theorem q_268_2193 : XX d 268 2193 [v0, v1, v2, some (.ref a), v4, v5, v6, v7] st A Q ↔ XX d 268 2194 [v0, v1, v2, some (.ref a), v4, v5, v6, v7] (.ref a :: st) A Q := c_lcl i_268_2193 rfl rfl
theorem q_268_2194 : XX d 268 2194 [v0, v1, v2, v3, v4, v5, v6, v7] st A Q ↔ XX d 268 2195 [v0, v1, v2, v3, v4, v5, v6, v7] (.int (w 0) :: st) A Q := c_stk i_268_2194 rfl
theorem q_268_2195 : XX d 268 2195 [v0, v1, v2, v3, v4, v5, v6, v7] (.int x :: .ref a :: st) (mk S I L R G) Q ↔ inA (S a) ok_l x ∧ XX d 268 2196 [v0, v1, v2, v3, v4, v5, v6, v7] (.long (L a (ix x)) :: st) (mk S I L R G) Q := r_la i_268_2195
theorem q_268_2196 : XX d 268 2196 [v0, v1, v2, v3, v4, v5, some (.int x), v7] st A Q ↔ XX d 268 2198 [v0, v1, v2, v3, v4, v5, some (.int x), v7] (.int x :: st) A Q := c_lcl i_268_2196 rfl rfl
theorem q_268_2198 : XX d 268 2198 [v0, v1, v2, v3, v4, v5, v6, v7] (.int x :: st) A Q ↔ XX d 268 2199 [v0, v1, v2, v3, v4, v5, v6, v7] (.long x.toInt64 :: st) A Q := c_stk i_268_2198 rfl
theorem q_268_2199 : XX d 268 2199 [v0, v1, v2, v3, v4, v5, v6, v7] (.long ly :: .long lx :: st) A Q ↔ XX d 268 2200 [v0, v1, v2, v3, v4, v5, v6, v7] (.int (lg_cmp lx ly) :: st) A Q := c_stk i_268_2199 rfl
theorem q_268_2200 : XX d 268 2200 [v0, v1, v2, v3, v4, v5, v6, v7] (.int x :: st) A Q ↔ if x = w 0 then XX d 268 2205 [v0, v1, v2, v3, v4, v5, v6, v7] st A Q else XX d 268 2203 [v0, v1, v2, v3, v4, v5, v6, v7] st A Q := z_eq i_268_2200 rfl rfl rfl
theorem q_268_2203 : XX d 268 2203 [v0, v1, v2, v3, v4, v5, v6, v7] st A Q ↔ XX d 268 2204 [v0, v1, v2, v3, v4, v5, v6, v7] (.int (w 0) :: st) A Q := c_stk i_268_2203 rfl
theorem q_268_2204 : XX d 268 2204 [v0, v1, v2, v3, v4, v5, v6, v7] [.int x] A Q ↔ (x = w 0 ∨ x = w 1) ∧ Q (.inl (some (.int x))) A := e_retZ i_268_2204 rfl
theorem q_268_2205 : XX d 268 2205 [v0, v1, v2, v3, v4, v5, v6, v7] st A Q ↔ XX d 268 2288 [v0, v1, v2, v3, v4, v5, v6, v7] st A Q := c_go i_268_2205 rfl rfl
theorem q_268_2208 : XX d 268 2208 [v0, some (.ref a), v2, v3, v4, v5, v6, v7] st A Q ↔ XX d 268 2209 [v0, some (.ref a), v2, v3, v4, v5, v6, v7] (.ref a :: st) A Q := c_lcl i_268_2208 rfl rfl
theorem q_268_2209 : XX d 268 2209 [some (.ref a), v1, v2, v3, v4, v5, v6, v7] st A Q ↔ XX d 268 2210 [some (.ref a), v1, v2, v3, v4, v5, v6, v7] (.ref a :: st) A Q := c_lcl i_268_2209 rfl rfl
theorem q_268_2210 : XX d 268 2210 [v0, v1, v2, v3, some (.int x), v5, v6, v7] st A Q ↔ XX d 268 2212 [v0, v1, v2, v3, some (.int x), v5, v6, v7] (.int x :: st) A Q := c_lcl i_268_2210 rfl rfl
theorem q_268_2212 : XX d 268 2212 [v0, v1, v2, v3, v4, v5, v6, v7] st A Q ↔ XX d 268 2213 [v0, v1, v2, v3, v4, v5, v6, v7] (.int (w 1) :: st) A Q := c_stk i_268_2212 rfl
theorem q_268_2213 : XX d 268 2213 [v0, v1, v2, v3, v4, v5, v6, v7] (.int y :: .int x :: st) A Q ↔ XX d 268 2214 [v0, v1, v2, v3, v4, v5, v6, v7] (.int (x + y) :: st) A Q := c_stk i_268_2213 rfl
theorem q_268_2214 : XX d 268 2214 [v0, v1, v2, v3, v4, v5, v6, v7] (.int x :: .ref a :: st) (mk S I L R G) Q ↔ inA (S a) ok_i x ∧ XX d 268 2215 [v0, v1, v2, v3, v4, v5, v6, v7] (.int (I a (ix x)) :: st) (mk S I L R G) Q := r_ia i_268_2214
theorem q_268_2215 : XX d 268 2215 [v0, v1, v2, some (.ref a), v4, v5, v6, v7] st A Q ↔ XX d 268 2216 [v0, v1, v2, some (.ref a), v4, v5, v6, v7] (.ref a :: st) A Q := c_lcl i_268_2215 rfl rfl
theorem q_268_2216 : XX (d + 1) 268 2216 [v0, v1, v2, v3, v4, v5, v6, v7] [.ref a2, .int x1, .ref a0] A Q ↔ XC d 267 [.ref a0, .int x1, .ref a2] A (XK (d + 1) 268 2216 [v0, v1, v2, v3, v4, v5, v6, v7] [] Q) := c_callS i_268_2216 rfl rfl rfl rfl (Nat.le_of_ble_eq_true rfl) (Nat.le_of_ble_eq_true rfl)
theorem q_268_2219 : XX d 268 2219 [v0, v1, v2, v3, some (.int z), v5, v6, v7] (.int x :: st) A Q ↔ XX d 268 2221 [v0, v1, v2, v3, some (.int z), some (.int x), v6, v7] st A Q := c_lcl i_268_2219 rfl rfl
theorem q_268_2221 : XX d 268 2221 [v0, v1, some (.ref a), v3, v4, v5, v6, v7] st A Q ↔ XX d 268 2222 [v0, v1, some (.ref a), v3, v4, v5, v6, v7] (.ref a :: st) A Q := c_lcl i_268_2221 rfl rfl
theorem q_268_2222 : XX d 268 2222 [some (.ref a), v1, v2, v3, v4, v5, v6, v7] st A Q ↔ XX d 268 2223 [some (.ref a), v1, v2, v3, v4, v5, v6, v7] (.ref a :: st) A Q := c_lcl i_268_2222 rfl rfl
theorem q_268_2223 : XX d 268 2223 [v0, v1, v2, v3, some (.int x), v5, v6, v7] st A Q ↔ XX d 268 2225 [v0, v1, v2, v3, some (.int x), v5, v6, v7] (.int x :: st) A Q := c_lcl i_268_2223 rfl rfl
theorem q_268_2225 : XX d 268 2225 [v0, v1, v2, v3, v4, v5, v6, v7] st A Q ↔ XX d 268 2226 [v0, v1, v2, v3, v4, v5, v6, v7] (.int (w 1) :: st) A Q := c_stk i_268_2225 rfl
theorem q_268_2226 : XX d 268 2226 [v0, v1, v2, v3, v4, v5, v6, v7] (.int y :: .int x :: st) A Q ↔ XX d 268 2227 [v0, v1, v2, v3, v4, v5, v6, v7] (.int (x + y) :: st) A Q := c_stk i_268_2226 rfl
theorem q_268_2227 : XX d 268 2227 [v0, v1, v2, v3, v4, v5, v6, v7] (.int x :: .ref a :: st) (mk S I L R G) Q ↔ inA (S a) ok_i x ∧ XX d 268 2228 [v0, v1, v2, v3, v4, v5, v6, v7] (.int (I a (ix x)) :: st) (mk S I L R G) Q := r_ia i_268_2227
theorem q_268_2228 : XX (d + 1) 268 2228 [v0, v1, v2, v3, v4, v5, v6, v7] [.int x1, .ref a0] (mk S I L R G) Q ↔ S a0 = some (.inr 12) ∧ XC d 238 [.ref a0, .int x1] (mk S I L R G) (XK (d + 1) 268 2228 [v0, v1, v2, v3, v4, v5, v6, v7] [] Q) := c_callV i_268_2228 rfl rfl rfl rfl (Nat.le_of_ble_eq_true rfl) (Nat.le_of_ble_eq_true rfl) rfl
theorem q_268_2231 : XX d 268 2231 [v0, v1, v2, v3, v4, some (.int z), v6, v7] (.long lx :: st) A Q ↔ XX d 268 2233 [v0, v1, v2, v3, v4, some (.int z), some (.long lx), none] st A Q := c_lcl i_268_2231 rfl rfl
theorem q_268_2233 : XX d 268 2233 [v0, v1, some (.ref a), v3, v4, v5, v6, v7] st A Q ↔ XX d 268 2234 [v0, v1, some (.ref a), v3, v4, v5, v6, v7] (.ref a :: st) A Q := c_lcl i_268_2233 rfl rfl
theorem q_268_2234 : XX (d + 1) 268 2234 [v0, v1, v2, v3, v4, v5, v6, v7] [.ref a0] (mk S I L R G) Q ↔ S a0 = some (.inr 12) ∧ XC d 153 [.ref a0] (mk S I L R G) (XK (d + 1) 268 2234 [v0, v1, v2, v3, v4, v5, v6, v7] [] Q) := c_callV i_268_2234 rfl rfl rfl rfl (Nat.le_of_ble_eq_true rfl) (Nat.le_of_ble_eq_true rfl) rfl
theorem q_268_2237 : XX d 268 2237 [v0, v1, v2, v3, v4, some (.int x), v6, v7] st A Q ↔ XX d 268 2239 [v0, v1, v2, v3, v4, some (.int x), v6, v7] (.int x :: st) A Q := c_lcl i_268_2237 rfl rfl
theorem q_268_2239 : XX d 268 2239 [v0, v1, v2, v3, v4, v5, v6, v7] (.int y :: .int x :: st) A Q ↔ if x = y then XX d 268 2244 [v0, v1, v2, v3, v4, v5, v6, v7] st A Q else XX d 268 2242 [v0, v1, v2, v3, v4, v5, v6, v7] st A Q := b_eq i_268_2239 rfl rfl rfl
theorem q_268_2242 : XX d 268 2242 [v0, v1, v2, v3, v4, v5, v6, v7] st A Q ↔ XX d 268 2243 [v0, v1, v2, v3, v4, v5, v6, v7] (.int (w 0) :: st) A Q := c_stk i_268_2242 rfl
theorem q_268_2243 : XX d 268 2243 [v0, v1, v2, v3, v4, v5, v6, v7] [.int x] A Q ↔ (x = w 0 ∨ x = w 1) ∧ Q (.inl (some (.int x))) A := e_retZ i_268_2243 rfl
theorem q_268_2244 : XX d 268 2244 [v0, v1, v2, v3, v4, some (.int x), v6, v7] st A Q ↔ XX d 268 2246 [v0, v1, v2, v3, v4, some (.int x), v6, v7] (.int x :: st) A Q := c_lcl i_268_2244 rfl rfl
theorem q_268_2246 : XX d 268 2246 [v0, v1, v2, v3, v4, v5, v6, v7] (.int x :: st) A Q ↔ if x = w 0 then XX d 268 2249 [v0, v1, v2, v3, v4, v5, v6, v7] st A Q else XX d 268 2260 [v0, v1, v2, v3, v4, v5, v6, v7] st A Q := z_ne i_268_2246 rfl rfl rfl
theorem q_268_2249 : XX d 268 2249 [v0, v1, v2, some (.ref a), v4, v5, v6, v7] st A Q ↔ XX d 268 2250 [v0, v1, v2, some (.ref a), v4, v5, v6, v7] (.ref a :: st) A Q := c_lcl i_268_2249 rfl rfl
theorem q_268_2250 : XX d 268 2250 [v0, v1, v2, v3, v4, v5, v6, v7] st A Q ↔ XX d 268 2251 [v0, v1, v2, v3, v4, v5, v6, v7] (.int (w 0) :: st) A Q := c_stk i_268_2250 rfl
theorem q_268_2251 : XX d 268 2251 [v0, v1, v2, v3, v4, v5, v6, v7] (.int x :: .ref a :: st) (mk S I L R G) Q ↔ inA (S a) ok_l x ∧ XX d 268 2252 [v0, v1, v2, v3, v4, v5, v6, v7] (.long (L a (ix x)) :: st) (mk S I L R G) Q := r_la i_268_2251
theorem q_268_2252 : XX d 268 2252 [v0, v1, v2, v3, v4, v5, some (.long lx), v7] st A Q ↔ XX d 268 2254 [v0, v1, v2, v3, v4, v5, some (.long lx), v7] (.long lx :: st) A Q := c_lcl i_268_2252 rfl rfl
theorem q_268_2254 : XX d 268 2254 [v0, v1, v2, v3, v4, v5, v6, v7] (.long ly :: .long lx :: st) A Q ↔ XX d 268 2255 [v0, v1, v2, v3, v4, v5, v6, v7] (.int (lg_cmp lx ly) :: st) A Q := c_stk i_268_2254 rfl
theorem q_268_2255 : XX d 268 2255 [v0, v1, v2, v3, v4, v5, v6, v7] (.int x :: st) A Q ↔ if x = w 0 then XX d 268 2260 [v0, v1, v2, v3, v4, v5, v6, v7] st A Q else XX d 268 2258 [v0, v1, v2, v3, v4, v5, v6, v7] st A Q := z_eq i_268_2255 rfl rfl rfl
theorem q_268_2258 : XX d 268 2258 [v0, v1, v2, v3, v4, v5, v6, v7] st A Q ↔ XX d 268 2259 [v0, v1, v2, v3, v4, v5, v6, v7] (.int (w 0) :: st) A Q := c_stk i_268_2258 rfl
theorem q_268_2259 : XX d 268 2259 [v0, v1, v2, v3, v4, v5, v6, v7] [.int x] A Q ↔ (x = w 0 ∨ x = w 1) ∧ Q (.inl (some (.int x))) A := e_retZ i_268_2259 rfl
theorem q_268_2260 : XX d 268 2260 [v0, v1, v2, v3, v4, v5, v6, v7] st A Q ↔ XX d 268 2288 [v0, v1, v2, v3, v4, v5, v6, v7] st A Q := c_go i_268_2260 rfl rfl
theorem q_268_2263 : XX d 268 2263 [v0, some (.ref a), v2, v3, v4, v5, v6, v7] st A Q ↔ XX d 268 2264 [v0, some (.ref a), v2, v3, v4, v5, v6, v7] (.ref a :: st) A Q := c_lcl i_268_2263 rfl rfl
theorem q_268_2264 : XX d 268 2264 [some (.ref a), v1, v2, v3, v4, v5, v6, v7] st A Q ↔ XX d 268 2265 [some (.ref a), v1, v2, v3, v4, v5, v6, v7] (.ref a :: st) A Q := c_lcl i_268_2264 rfl rfl
theorem q_268_2265 : XX d 268 2265 [v0, v1, v2, v3, some (.int x), v5, v6, v7] st A Q ↔ XX d 268 2267 [v0, v1, v2, v3, some (.int x), v5, v6, v7] (.int x :: st) A Q := c_lcl i_268_2265 rfl rfl
theorem q_268_2267 : XX d 268 2267 [v0, v1, v2, v3, v4, v5, v6, v7] st A Q ↔ XX d 268 2268 [v0, v1, v2, v3, v4, v5, v6, v7] (.int (w 1) :: st) A Q := c_stk i_268_2267 rfl
theorem q_268_2268 : XX d 268 2268 [v0, v1, v2, v3, v4, v5, v6, v7] (.int y :: .int x :: st) A Q ↔ XX d 268 2269 [v0, v1, v2, v3, v4, v5, v6, v7] (.int (x + y) :: st) A Q := c_stk i_268_2268 rfl
theorem q_268_2269 : XX d 268 2269 [v0, v1, v2, v3, v4, v5, v6, v7] (.int x :: .ref a :: st) (mk S I L R G) Q ↔ inA (S a) ok_i x ∧ XX d 268 2270 [v0, v1, v2, v3, v4, v5, v6, v7] (.int (I a (ix x)) :: st) (mk S I L R G) Q := r_ia i_268_2269
theorem q_268_2270 : XX (d + 1) 268 2270 [v0, v1, v2, v3, v4, v5, v6, v7] [.int x1, .ref a0] (mk S I L R G) Q ↔ S a0 = some (.inr 11) ∧ XC d 140 [.ref a0, .int x1] (mk S I L R G) (XK (d + 1) 268 2270 [v0, v1, v2, v3, v4, v5, v6, v7] [] Q) := c_callV i_268_2270 rfl rfl rfl rfl (Nat.le_of_ble_eq_true rfl) (Nat.le_of_ble_eq_true rfl) rfl
theorem q_268_2273 : XX d 268 2273 [v0, v1, some (.ref a), v3, v4, v5, v6, v7] st A Q ↔ XX d 268 2274 [v0, v1, some (.ref a), v3, v4, v5, v6, v7] (.ref a :: st) A Q := c_lcl i_268_2273 rfl rfl
theorem q_268_2274 : XX d 268 2274 [some (.ref a), v1, v2, v3, v4, v5, v6, v7] st A Q ↔ XX d 268 2275 [some (.ref a), v1, v2, v3, v4, v5, v6, v7] (.ref a :: st) A Q := c_lcl i_268_2274 rfl rfl
theorem q_268_2275 : XX d 268 2275 [v0, v1, v2, v3, some (.int x), v5, v6, v7] st A Q ↔ XX d 268 2277 [v0, v1, v2, v3, some (.int x), v5, v6, v7] (.int x :: st) A Q := c_lcl i_268_2275 rfl rfl
theorem q_268_2277 : XX d 268 2277 [v0, v1, v2, v3, v4, v5, v6, v7] st A Q ↔ XX d 268 2278 [v0, v1, v2, v3, v4, v5, v6, v7] (.int (w 1) :: st) A Q := c_stk i_268_2277 rfl
theorem q_268_2278 : XX d 268 2278 [v0, v1, v2, v3, v4, v5, v6, v7] (.int y :: .int x :: st) A Q ↔ XX d 268 2279 [v0, v1, v2, v3, v4, v5, v6, v7] (.int (x + y) :: st) A Q := c_stk i_268_2278 rfl
theorem q_268_2279 : XX d 268 2279 [v0, v1, v2, v3, v4, v5, v6, v7] (.int x :: .ref a :: st) (mk S I L R G) Q ↔ inA (S a) ok_i x ∧ XX d 268 2280 [v0, v1, v2, v3, v4, v5, v6, v7] (.int (I a (ix x)) :: st) (mk S I L R G) Q := r_ia i_268_2279
theorem q_268_2280 : XX (d + 1) 268 2280 [v0, v1, v2, v3, v4, v5, v6, v7] [.int x1, .ref a0, .int x2] (mk S I L R G) Q ↔ S a0 = some (.inr 12) ∧ XC d 239 [.ref a0, .int x1] (mk S I L R G) (XK (d + 1) 268 2280 [v0, v1, v2, v3, v4, v5, v6, v7] [.int x2] Q) := c_callV i_268_2280 rfl rfl rfl rfl (Nat.le_of_ble_eq_true rfl) (Nat.le_of_ble_eq_true rfl) rfl
theorem q_268_2283 : XX d 268 2283 [v0, v1, v2, v3, v4, v5, v6, v7] (.int y :: .int x :: st) A Q ↔ if x = y then XX d 268 2288 [v0, v1, v2, v3, v4, v5, v6, v7] st A Q else XX d 268 2286 [v0, v1, v2, v3, v4, v5, v6, v7] st A Q := b_eq i_268_2283 rfl rfl rfl
theorem q_268_2286 : XX d 268 2286 [v0, v1, v2, v3, v4, v5, v6, v7] st A Q ↔ XX d 268 2287 [v0, v1, v2, v3, v4, v5, v6, v7] (.int (w 0) :: st) A Q := c_stk i_268_2286 rfl
theorem q_268_2287 : XX d 268 2287 [v0, v1, v2, v3, v4, v5, v6, v7] [.int x] A Q ↔ (x = w 0 ∨ x = w 1) ∧ Q (.inl (some (.int x))) A := e_retZ i_268_2287 rfl
theorem q_268_2288 : XX d 268 2288 [v0, v1, v2, some (.ref b), some (.int x), v5, v6, v7] st A Q ↔ XX d 268 2291 [v0, v1, v2, some (.ref b), some (.int (x + w 6)), v5, v6, v7] st A Q := c_lcl i_268_2288 rfl rfl
theorem q_268_2291 : XX d 268 2291 [v0, v1, v2, v3, v4, v5, v6, v7] st A Q ↔ XX d 268 23 [v0, v1, v2, v3, v4, v5, v6, v7] st A Q := c_go i_268_2291 rfl rfl
theorem q_268_2294 : XX d 268 2294 [v0, v1, v2, v3, v4, v5, v6, v7] st A Q ↔ XX d 268 2295 [v0, v1, v2, v3, v4, v5, v6, v7] (.int (w 1) :: st) A Q := c_stk i_268_2294 rfl
theorem q_268_2295 : XX d 268 2295 [v0, v1, v2, v3, v4, v5, v6, v7] [.int x] A Q ↔ (x = w 0 ∨ x = w 1) ∧ Q (.inl (some (.int x))) A := e_retZ i_268_2295 rfl
end
