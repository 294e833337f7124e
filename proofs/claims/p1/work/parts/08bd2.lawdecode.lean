theorem dL_law__1675 : decode cL_law_ 1675 = .ok (.istore 5, 2) := by decide +kernel
theorem dL_law__1677 : decode cL_law_ 1677 = .ok (.aload_n 2, 1) := by decide +kernel
theorem dL_law__1678 : decode cL_law_ 1678 = .ok (.aload_n 0, 1) := by decide +kernel
theorem dL_law__1679 : decode cL_law_ 1679 = .ok (.iload 4, 2) := by decide +kernel
theorem dL_law__1681 : decode cL_law_ 1681 = .ok (.iconst 1, 1) := by decide +kernel
theorem dL_law__1682 : decode cL_law_ 1682 = .ok (.iadd, 1) := by decide +kernel
theorem dL_law__1683 : decode cL_law_ 1683 = .ok (.iaload, 1) := by decide +kernel
theorem dL_law__1684 : decode cL_law_ 1684 = .ok (.aload_n 0, 1) := by decide +kernel
theorem dL_law__1685 : decode cL_law_ 1685 = .ok (.iload 4, 2) := by decide +kernel
theorem dL_law__1687 : decode cL_law_ 1687 = .ok (.iconst 2, 1) := by decide +kernel
theorem dL_law__1688 : decode cL_law_ 1688 = .ok (.iadd, 1) := by decide +kernel
theorem dL_law__1689 : decode cL_law_ 1689 = .ok (.iaload, 1) := by decide +kernel
theorem dL_law__1690 : decode cL_law_ 1690 = .ok (.aload_n 0, 1) := by decide +kernel
theorem dL_law__1691 : decode cL_law_ 1691 = .ok (.iload 4, 2) := by decide +kernel
theorem dL_law__1693 : decode cL_law_ 1693 = .ok (.iconst 3, 1) := by decide +kernel
theorem dL_law__1694 : decode cL_law_ 1694 = .ok (.iadd, 1) := by decide +kernel
theorem dL_law__1695 : decode cL_law_ 1695 = .ok (.iaload, 1) := by decide +kernel
theorem dL_law__1696 : decode cL_law_ 1696 = .ok (.aload_n 0, 1) := by decide +kernel
theorem dL_law__1697 : decode cL_law_ 1697 = .ok (.iload 4, 2) := by decide +kernel
theorem dL_law__1699 : decode cL_law_ 1699 = .ok (.iconst 4, 1) := by decide +kernel
theorem dL_law__1700 : decode cL_law_ 1700 = .ok (.iadd, 1) := by decide +kernel
theorem dL_law__1701 : decode cL_law_ 1701 = .ok (.iaload, 1) := by decide +kernel
theorem dL_law__1702 : decode cL_law_ 1702 = .ok (.invokevirtual 203, 3) := by decide +kernel
theorem dL_law__1705 : decode cL_law_ 1705 = .ok (.lstore 6, 2) := by decide +kernel
theorem dL_law__1707 : decode cL_law_ 1707 = .ok (.aload_n 2, 1) := by decide +kernel
theorem dL_law__1708 : decode cL_law_ 1708 = .ok (.invokevirtual 121, 3) := by decide +kernel
theorem dL_law__1711 : decode cL_law_ 1711 = .ok (.iload 5, 2) := by decide +kernel
theorem dL_law__1713 : decode cL_law_ 1713 = .ok (.if_icmp .eq 5, 3) := by decide +kernel
theorem dL_law__1716 : decode cL_law_ 1716 = .ok (.iconst 0, 1) := by decide +kernel
theorem dL_law__1718 : decode cL_law_ 1718 = .ok (.iload 5, 2) := by decide +kernel
theorem dL_law__1720 : decode cL_law_ 1720 = .ok (.ifCond .ne 14, 3) := by decide +kernel
theorem dL_law__1723 : decode cL_law_ 1723 = .ok (.aload_n 3, 1) := by decide +kernel
theorem dL_law__1724 : decode cL_law_ 1724 = .ok (.iconst 0, 1) := by decide +kernel
theorem dL_law__1725 : decode cL_law_ 1725 = .ok (.laload, 1) := by decide +kernel
theorem dL_law__1726 : decode cL_law_ 1726 = .ok (.lload 6, 2) := by decide +kernel
theorem dL_law__1728 : decode cL_law_ 1728 = .ok (.lcmp, 1) := by decide +kernel
theorem dL_law__1729 : decode cL_law_ 1729 = .ok (.ifCond .eq 5, 3) := by decide +kernel
theorem dL_law__1732 : decode cL_law_ 1732 = .ok (.iconst 0, 1) := by decide +kernel
theorem dL_law__1734 : decode cL_law_ 1734 = .ok (.goto 671, 3) := by decide +kernel
theorem dL_law__1737 : decode cL_law_ 1737 = .ok (.aload_n 1, 1) := by decide +kernel
theorem dL_law__1738 : decode cL_law_ 1738 = .ok (.aload_n 0, 1) := by decide +kernel
theorem dL_law__1739 : decode cL_law_ 1739 = .ok (.iload 4, 2) := by decide +kernel
theorem dL_law__1741 : decode cL_law_ 1741 = .ok (.iconst 1, 1) := by decide +kernel
theorem dL_law__1742 : decode cL_law_ 1742 = .ok (.iadd, 1) := by decide +kernel
theorem dL_law__1743 : decode cL_law_ 1743 = .ok (.iaload, 1) := by decide +kernel
theorem dL_law__1744 : decode cL_law_ 1744 = .ok (.aload_n 0, 1) := by decide +kernel
theorem dL_law__1745 : decode cL_law_ 1745 = .ok (.iload 4, 2) := by decide +kernel
theorem dL_law__1747 : decode cL_law_ 1747 = .ok (.iconst 2, 1) := by decide +kernel
theorem dL_law__1748 : decode cL_law_ 1748 = .ok (.iadd, 1) := by decide +kernel
theorem dL_law__1749 : decode cL_law_ 1749 = .ok (.iaload, 1) := by decide +kernel
theorem dL_law__1750 : decode cL_law_ 1750 = .ok (.aload_n 0, 1) := by decide +kernel
theorem dL_law__1751 : decode cL_law_ 1751 = .ok (.iload 4, 2) := by decide +kernel
theorem dL_law__1753 : decode cL_law_ 1753 = .ok (.iconst 3, 1) := by decide +kernel
theorem dL_law__1754 : decode cL_law_ 1754 = .ok (.iadd, 1) := by decide +kernel
theorem dL_law__1755 : decode cL_law_ 1755 = .ok (.iaload, 1) := by decide +kernel
theorem dL_law__1756 : decode cL_law_ 1756 = .ok (.aload_n 3, 1) := by decide +kernel
theorem dL_law__1757 : decode cL_law_ 1757 = .ok (.invokestatic 204, 3) := by decide +kernel
theorem dL_law__1760 : decode cL_law_ 1760 = .ok (.istore 5, 2) := by decide +kernel
theorem dL_law__1762 : decode cL_law_ 1762 = .ok (.aload_n 2, 1) := by decide +kernel
theorem dL_law__1763 : decode cL_law_ 1763 = .ok (.aload_n 0, 1) := by decide +kernel
theorem dL_law__1764 : decode cL_law_ 1764 = .ok (.iload 4, 2) := by decide +kernel
theorem dL_law__1766 : decode cL_law_ 1766 = .ok (.iconst 1, 1) := by decide +kernel
theorem dL_law__1767 : decode cL_law_ 1767 = .ok (.iadd, 1) := by decide +kernel
theorem dL_law__1768 : decode cL_law_ 1768 = .ok (.iaload, 1) := by decide +kernel
theorem dL_law__1769 : decode cL_law_ 1769 = .ok (.aload_n 0, 1) := by decide +kernel
theorem dL_law__1770 : decode cL_law_ 1770 = .ok (.iload 4, 2) := by decide +kernel
theorem dL_law__1772 : decode cL_law_ 1772 = .ok (.iconst 2, 1) := by decide +kernel
theorem dL_law__1773 : decode cL_law_ 1773 = .ok (.iadd, 1) := by decide +kernel
theorem dL_law__1774 : decode cL_law_ 1774 = .ok (.iaload, 1) := by decide +kernel
theorem dL_law__1775 : decode cL_law_ 1775 = .ok (.aload_n 0, 1) := by decide +kernel
theorem dL_law__1776 : decode cL_law_ 1776 = .ok (.iload 4, 2) := by decide +kernel
theorem dL_law__1778 : decode cL_law_ 1778 = .ok (.iconst 3, 1) := by decide +kernel
theorem dL_law__1779 : decode cL_law_ 1779 = .ok (.iadd, 1) := by decide +kernel
theorem dL_law__1780 : decode cL_law_ 1780 = .ok (.iaload, 1) := by decide +kernel
theorem dL_law__1781 : decode cL_law_ 1781 = .ok (.invokevirtual 207, 3) := by decide +kernel
theorem dL_law__1784 : decode cL_law_ 1784 = .ok (.istore 6, 2) := by decide +kernel
theorem dL_law__1786 : decode cL_law_ 1786 = .ok (.aload_n 2, 1) := by decide +kernel
theorem dL_law__1787 : decode cL_law_ 1787 = .ok (.invokevirtual 121, 3) := by decide +kernel
theorem dL_law__1790 : decode cL_law_ 1790 = .ok (.iload 5, 2) := by decide +kernel
theorem dL_law__1792 : decode cL_law_ 1792 = .ok (.if_icmp .eq 5, 3) := by decide +kernel
theorem dL_law__1795 : decode cL_law_ 1795 = .ok (.iconst 0, 1) := by decide +kernel
theorem dL_law__1797 : decode cL_law_ 1797 = .ok (.iload 5, 2) := by decide +kernel
theorem dL_law__1799 : decode cL_law_ 1799 = .ok (.ifCond .ne 15, 3) := by decide +kernel
theorem dL_law__1802 : decode cL_law_ 1802 = .ok (.aload_n 3, 1) := by decide +kernel
theorem dL_law__1803 : decode cL_law_ 1803 = .ok (.iconst 0, 1) := by decide +kernel
theorem dL_law__1804 : decode cL_law_ 1804 = .ok (.laload, 1) := by decide +kernel
theorem dL_law__1805 : decode cL_law_ 1805 = .ok (.iload 6, 2) := by decide +kernel
theorem dL_law__1807 : decode cL_law_ 1807 = .ok (.i2l, 1) := by decide +kernel
theorem dL_law__1808 : decode cL_law_ 1808 = .ok (.lcmp, 1) := by decide +kernel
theorem dL_law__1809 : decode cL_law_ 1809 = .ok (.ifCond .eq 5, 3) := by decide +kernel
theorem dL_law__1812 : decode cL_law_ 1812 = .ok (.iconst 0, 1) := by decide +kernel
theorem dL_law__1814 : decode cL_law_ 1814 = .ok (.goto 591, 3) := by decide +kernel
theorem dL_law__1817 : decode cL_law_ 1817 = .ok (.aload_n 1, 1) := by decide +kernel
theorem dL_law__1818 : decode cL_law_ 1818 = .ok (.aload_n 0, 1) := by decide +kernel
theorem dL_law__1819 : decode cL_law_ 1819 = .ok (.iload 4, 2) := by decide +kernel
theorem dL_law__1821 : decode cL_law_ 1821 = .ok (.iconst 1, 1) := by decide +kernel
theorem dL_law__1822 : decode cL_law_ 1822 = .ok (.iadd, 1) := by decide +kernel
theorem dL_law__1823 : decode cL_law_ 1823 = .ok (.iaload, 1) := by decide +kernel
theorem dL_law__1824 : decode cL_law_ 1824 = .ok (.aload_n 0, 1) := by decide +kernel
theorem dL_law__1825 : decode cL_law_ 1825 = .ok (.iload 4, 2) := by decide +kernel
theorem dL_law__1827 : decode cL_law_ 1827 = .ok (.iconst 2, 1) := by decide +kernel
theorem dL_law__1828 : decode cL_law_ 1828 = .ok (.iadd, 1) := by decide +kernel
theorem dL_law__1829 : decode cL_law_ 1829 = .ok (.iaload, 1) := by decide +kernel
theorem dL_law__1830 : decode cL_law_ 1830 = .ok (.aload_n 0, 1) := by decide +kernel
theorem dL_law__1831 : decode cL_law_ 1831 = .ok (.iload 4, 2) := by decide +kernel
theorem dL_law__1833 : decode cL_law_ 1833 = .ok (.iconst 3, 1) := by decide +kernel
theorem dL_law__1834 : decode cL_law_ 1834 = .ok (.iadd, 1) := by decide +kernel
theorem dL_law__1835 : decode cL_law_ 1835 = .ok (.iaload, 1) := by decide +kernel
theorem dL_law__1836 : decode cL_law_ 1836 = .ok (.aload_n 3, 1) := by decide +kernel
theorem dL_law__1837 : decode cL_law_ 1837 = .ok (.invokestatic 208, 3) := by decide +kernel
theorem dL_law__1840 : decode cL_law_ 1840 = .ok (.istore 5, 2) := by decide +kernel
theorem dL_law__1842 : decode cL_law_ 1842 = .ok (.aload_n 2, 1) := by decide +kernel
theorem dL_law__1843 : decode cL_law_ 1843 = .ok (.aload_n 0, 1) := by decide +kernel
theorem dL_law__1844 : decode cL_law_ 1844 = .ok (.iload 4, 2) := by decide +kernel
theorem dL_law__1846 : decode cL_law_ 1846 = .ok (.iconst 1, 1) := by decide +kernel
theorem dL_law__1847 : decode cL_law_ 1847 = .ok (.iadd, 1) := by decide +kernel
theorem dL_law__1848 : decode cL_law_ 1848 = .ok (.iaload, 1) := by decide +kernel
theorem dL_law__1849 : decode cL_law_ 1849 = .ok (.aload_n 0, 1) := by decide +kernel
theorem dL_law__1850 : decode cL_law_ 1850 = .ok (.iload 4, 2) := by decide +kernel
theorem dL_law__1852 : decode cL_law_ 1852 = .ok (.iconst 2, 1) := by decide +kernel
theorem dL_law__1853 : decode cL_law_ 1853 = .ok (.iadd, 1) := by decide +kernel
theorem dL_law__1854 : decode cL_law_ 1854 = .ok (.iaload, 1) := by decide +kernel
theorem dL_law__1855 : decode cL_law_ 1855 = .ok (.aload_n 0, 1) := by decide +kernel
theorem dL_law__1856 : decode cL_law_ 1856 = .ok (.iload 4, 2) := by decide +kernel
theorem dL_law__1858 : decode cL_law_ 1858 = .ok (.iconst 3, 1) := by decide +kernel
theorem dL_law__1859 : decode cL_law_ 1859 = .ok (.iadd, 1) := by decide +kernel
theorem dL_law__1860 : decode cL_law_ 1860 = .ok (.iaload, 1) := by decide +kernel
theorem dL_law__1861 : decode cL_law_ 1861 = .ok (.invokevirtual 210, 3) := by decide +kernel
theorem dL_law__1864 : decode cL_law_ 1864 = .ok (.istore 6, 2) := by decide +kernel
theorem dL_law__1866 : decode cL_law_ 1866 = .ok (.aload_n 2, 1) := by decide +kernel
theorem dL_law__1867 : decode cL_law_ 1867 = .ok (.invokevirtual 121, 3) := by decide +kernel
theorem dL_law__1870 : decode cL_law_ 1870 = .ok (.iload 5, 2) := by decide +kernel
theorem dL_law__1872 : decode cL_law_ 1872 = .ok (.if_icmp .eq 5, 3) := by decide +kernel
theorem dL_law__1877 : decode cL_law_ 1877 = .ok (.iload 5, 2) := by decide +kernel
theorem dL_law__1879 : decode cL_law_ 1879 = .ok (.ifCond .ne 15, 3) := by decide +kernel
theorem dL_law__1894 : decode cL_law_ 1894 = .ok (.goto 511, 3) := by decide +kernel
theorem dL_law__1897 : decode cL_law_ 1897 = .ok (.aload_n 1, 1) := by decide +kernel
theorem dL_law__1898 : decode cL_law_ 1898 = .ok (.aload_n 0, 1) := by decide +kernel
theorem dL_law__1899 : decode cL_law_ 1899 = .ok (.iload 4, 2) := by decide +kernel
theorem dL_law__1901 : decode cL_law_ 1901 = .ok (.iconst 1, 1) := by decide +kernel
theorem dL_law__1902 : decode cL_law_ 1902 = .ok (.iadd, 1) := by decide +kernel
theorem dL_law__1903 : decode cL_law_ 1903 = .ok (.iaload, 1) := by decide +kernel
theorem dL_law__1904 : decode cL_law_ 1904 = .ok (.aload_n 3, 1) := by decide +kernel
theorem dL_law__1905 : decode cL_law_ 1905 = .ok (.invokestatic 211, 3) := by decide +kernel
theorem dL_law__1908 : decode cL_law_ 1908 = .ok (.istore 5, 2) := by decide +kernel
theorem dL_law__1910 : decode cL_law_ 1910 = .ok (.aload_n 2, 1) := by decide +kernel
theorem dL_law__1911 : decode cL_law_ 1911 = .ok (.aload_n 0, 1) := by decide +kernel
theorem dL_law__1912 : decode cL_law_ 1912 = .ok (.iload 4, 2) := by decide +kernel
theorem dL_law__1914 : decode cL_law_ 1914 = .ok (.iconst 1, 1) := by decide +kernel
theorem dL_law__1915 : decode cL_law_ 1915 = .ok (.iadd, 1) := by decide +kernel
theorem dL_law__1916 : decode cL_law_ 1916 = .ok (.iaload, 1) := by decide +kernel
theorem dL_law__1917 : decode cL_law_ 1917 = .ok (.invokevirtual 213, 3) := by decide +kernel
theorem dL_law__1920 : decode cL_law_ 1920 = .ok (.istore 6, 2) := by decide +kernel
theorem dL_law__1922 : decode cL_law_ 1922 = .ok (.aload_n 2, 1) := by decide +kernel
theorem dL_law__1923 : decode cL_law_ 1923 = .ok (.invokevirtual 121, 3) := by decide +kernel
theorem dL_law__1926 : decode cL_law_ 1926 = .ok (.iload 5, 2) := by decide +kernel
theorem dL_law__1928 : decode cL_law_ 1928 = .ok (.if_icmp .eq 5, 3) := by decide +kernel
theorem dL_law__1931 : decode cL_law_ 1931 = .ok (.iconst 0, 1) := by decide +kernel
theorem dL_law__1933 : decode cL_law_ 1933 = .ok (.iload 5, 2) := by decide +kernel
theorem dL_law__1935 : decode cL_law_ 1935 = .ok (.ifCond .ne 15, 3) := by decide +kernel
theorem dL_law__1938 : decode cL_law_ 1938 = .ok (.aload_n 3, 1) := by decide +kernel
theorem dL_law__1939 : decode cL_law_ 1939 = .ok (.iconst 0, 1) := by decide +kernel
theorem dL_law__1940 : decode cL_law_ 1940 = .ok (.laload, 1) := by decide +kernel
theorem dL_law__1941 : decode cL_law_ 1941 = .ok (.iload 6, 2) := by decide +kernel
theorem dL_law__1943 : decode cL_law_ 1943 = .ok (.i2l, 1) := by decide +kernel
theorem dL_law__1944 : decode cL_law_ 1944 = .ok (.lcmp, 1) := by decide +kernel
theorem dL_law__1945 : decode cL_law_ 1945 = .ok (.ifCond .eq 5, 3) := by decide +kernel
theorem dL_law__1948 : decode cL_law_ 1948 = .ok (.iconst 0, 1) := by decide +kernel
theorem dL_law__1950 : decode cL_law_ 1950 = .ok (.goto 455, 3) := by decide +kernel
theorem dL_law__1953 : decode cL_law_ 1953 = .ok (.aload_n 1, 1) := by decide +kernel
theorem dL_law__1954 : decode cL_law_ 1954 = .ok (.aload_n 0, 1) := by decide +kernel
theorem dL_law__1955 : decode cL_law_ 1955 = .ok (.iload 4, 2) := by decide +kernel
theorem dL_law__1957 : decode cL_law_ 1957 = .ok (.iconst 1, 1) := by decide +kernel
theorem dL_law__1958 : decode cL_law_ 1958 = .ok (.iadd, 1) := by decide +kernel
theorem dL_law__1959 : decode cL_law_ 1959 = .ok (.iaload, 1) := by decide +kernel
theorem dL_law__1960 : decode cL_law_ 1960 = .ok (.aload_n 0, 1) := by decide +kernel
theorem dL_law__1961 : decode cL_law_ 1961 = .ok (.iload 4, 2) := by decide +kernel
theorem dL_law__1963 : decode cL_law_ 1963 = .ok (.iconst 2, 1) := by decide +kernel
theorem dL_law__1964 : decode cL_law_ 1964 = .ok (.iadd, 1) := by decide +kernel
theorem dL_law__1965 : decode cL_law_ 1965 = .ok (.iaload, 1) := by decide +kernel
theorem dL_law__1966 : decode cL_law_ 1966 = .ok (.aload_n 3, 1) := by decide +kernel
theorem dL_law__1967 : decode cL_law_ 1967 = .ok (.invokestatic 214, 3) := by decide +kernel
theorem dL_law__1970 : decode cL_law_ 1970 = .ok (.istore 5, 2) := by decide +kernel
theorem dL_law__1972 : decode cL_law_ 1972 = .ok (.aload_n 2, 1) := by decide +kernel
theorem dL_law__1973 : decode cL_law_ 1973 = .ok (.aload_n 0, 1) := by decide +kernel
theorem dL_law__1974 : decode cL_law_ 1974 = .ok (.iload 4, 2) := by decide +kernel
theorem dL_law__1976 : decode cL_law_ 1976 = .ok (.iconst 1, 1) := by decide +kernel
theorem dL_law__1977 : decode cL_law_ 1977 = .ok (.iadd, 1) := by decide +kernel
theorem dL_law__1978 : decode cL_law_ 1978 = .ok (.iaload, 1) := by decide +kernel
theorem dL_law__1979 : decode cL_law_ 1979 = .ok (.aload_n 0, 1) := by decide +kernel
theorem dL_law__1980 : decode cL_law_ 1980 = .ok (.iload 4, 2) := by decide +kernel
theorem dL_law__1982 : decode cL_law_ 1982 = .ok (.iconst 2, 1) := by decide +kernel
theorem dL_law__1983 : decode cL_law_ 1983 = .ok (.iadd, 1) := by decide +kernel
theorem dL_law__1984 : decode cL_law_ 1984 = .ok (.iaload, 1) := by decide +kernel
theorem dL_law__1985 : decode cL_law_ 1985 = .ok (.invokevirtual 216, 3) := by decide +kernel
theorem dL_law__1988 : decode cL_law_ 1988 = .ok (.istore 6, 2) := by decide +kernel
theorem dL_law__1990 : decode cL_law_ 1990 = .ok (.aload_n 2, 1) := by decide +kernel
theorem dL_law__1991 : decode cL_law_ 1991 = .ok (.invokevirtual 121, 3) := by decide +kernel
theorem dL_law__1994 : decode cL_law_ 1994 = .ok (.iload 5, 2) := by decide +kernel
theorem dL_law__1996 : decode cL_law_ 1996 = .ok (.if_icmp .eq 5, 3) := by decide +kernel
theorem dL_law__2001 : decode cL_law_ 2001 = .ok (.iload 5, 2) := by decide +kernel
theorem dL_law__2003 : decode cL_law_ 2003 = .ok (.ifCond .ne 15, 3) := by decide +kernel
theorem dL_law__2018 : decode cL_law_ 2018 = .ok (.goto 387, 3) := by decide +kernel
theorem dL_law__2021 : decode cL_law_ 2021 = .ok (.aload_n 1, 1) := by decide +kernel
theorem dL_law__2022 : decode cL_law_ 2022 = .ok (.aload_n 0, 1) := by decide +kernel
theorem dL_law__2023 : decode cL_law_ 2023 = .ok (.iload 4, 2) := by decide +kernel
theorem dL_law__2025 : decode cL_law_ 2025 = .ok (.iconst 1, 1) := by decide +kernel
theorem dL_law__2026 : decode cL_law_ 2026 = .ok (.iadd, 1) := by decide +kernel
theorem dL_law__2027 : decode cL_law_ 2027 = .ok (.iaload, 1) := by decide +kernel
theorem dL_law__2028 : decode cL_law_ 2028 = .ok (.aload_n 0, 1) := by decide +kernel
theorem dL_law__2029 : decode cL_law_ 2029 = .ok (.iload 4, 2) := by decide +kernel
theorem dL_law__2031 : decode cL_law_ 2031 = .ok (.iconst 2, 1) := by decide +kernel
theorem dL_law__2032 : decode cL_law_ 2032 = .ok (.iadd, 1) := by decide +kernel
theorem dL_law__2033 : decode cL_law_ 2033 = .ok (.iaload, 1) := by decide +kernel
theorem dL_law__2034 : decode cL_law_ 2034 = .ok (.aload_n 3, 1) := by decide +kernel
theorem dL_law__2035 : decode cL_law_ 2035 = .ok (.invokestatic 217, 3) := by decide +kernel
theorem dL_law__2038 : decode cL_law_ 2038 = .ok (.istore 5, 2) := by decide +kernel
theorem dL_law__2040 : decode cL_law_ 2040 = .ok (.aload_n 2, 1) := by decide +kernel
theorem dL_law__2041 : decode cL_law_ 2041 = .ok (.aload_n 0, 1) := by decide +kernel
theorem dL_law__2042 : decode cL_law_ 2042 = .ok (.iload 4, 2) := by decide +kernel
theorem dL_law__2044 : decode cL_law_ 2044 = .ok (.iconst 1, 1) := by decide +kernel
theorem dL_law__2045 : decode cL_law_ 2045 = .ok (.iadd, 1) := by decide +kernel
theorem dL_law__2046 : decode cL_law_ 2046 = .ok (.iaload, 1) := by decide +kernel
theorem dL_law__2047 : decode cL_law_ 2047 = .ok (.aload_n 0, 1) := by decide +kernel
theorem dL_law__2048 : decode cL_law_ 2048 = .ok (.iload 4, 2) := by decide +kernel
theorem dL_law__2050 : decode cL_law_ 2050 = .ok (.iconst 2, 1) := by decide +kernel
theorem dL_law__2051 : decode cL_law_ 2051 = .ok (.iadd, 1) := by decide +kernel
theorem dL_law__2052 : decode cL_law_ 2052 = .ok (.iaload, 1) := by decide +kernel
theorem dL_law__2053 : decode cL_law_ 2053 = .ok (.invokevirtual 219, 3) := by decide +kernel
theorem dL_law__2056 : decode cL_law_ 2056 = .ok (.istore 6, 2) := by decide +kernel
theorem dL_law__2058 : decode cL_law_ 2058 = .ok (.aload_n 2, 1) := by decide +kernel
theorem dL_law__2059 : decode cL_law_ 2059 = .ok (.invokevirtual 121, 3) := by decide +kernel
theorem dL_law__2062 : decode cL_law_ 2062 = .ok (.iload 5, 2) := by decide +kernel
theorem dL_law__2064 : decode cL_law_ 2064 = .ok (.if_icmp .eq 5, 3) := by decide +kernel
theorem dL_law__2069 : decode cL_law_ 2069 = .ok (.iload 5, 2) := by decide +kernel
theorem dL_law__2071 : decode cL_law_ 2071 = .ok (.ifCond .ne 15, 3) := by decide +kernel
theorem dL_law__2086 : decode cL_law_ 2086 = .ok (.goto 319, 3) := by decide +kernel
theorem dL_law__2089 : decode cL_law_ 2089 = .ok (.aload_n 1, 1) := by decide +kernel
theorem dL_law__2090 : decode cL_law_ 2090 = .ok (.aload_n 0, 1) := by decide +kernel
theorem dL_law__2091 : decode cL_law_ 2091 = .ok (.iload 4, 2) := by decide +kernel
theorem dL_law__2093 : decode cL_law_ 2093 = .ok (.iconst 1, 1) := by decide +kernel
theorem dL_law__2094 : decode cL_law_ 2094 = .ok (.iadd, 1) := by decide +kernel
theorem dL_law__2095 : decode cL_law_ 2095 = .ok (.iaload, 1) := by decide +kernel
theorem dL_law__2096 : decode cL_law_ 2096 = .ok (.aload_n 3, 1) := by decide +kernel
theorem dL_law__2097 : decode cL_law_ 2097 = .ok (.invokestatic 220, 3) := by decide +kernel
theorem dL_law__2100 : decode cL_law_ 2100 = .ok (.istore 5, 2) := by decide +kernel
theorem dL_law__2102 : decode cL_law_ 2102 = .ok (.aload_n 2, 1) := by decide +kernel
theorem dL_law__2103 : decode cL_law_ 2103 = .ok (.aload_n 0, 1) := by decide +kernel
theorem dL_law__2104 : decode cL_law_ 2104 = .ok (.iload 4, 2) := by decide +kernel
theorem dL_law__2106 : decode cL_law_ 2106 = .ok (.iconst 1, 1) := by decide +kernel
theorem dL_law__2107 : decode cL_law_ 2107 = .ok (.iadd, 1) := by decide +kernel
theorem dL_law__2108 : decode cL_law_ 2108 = .ok (.iaload, 1) := by decide +kernel
theorem dL_law__2109 : decode cL_law_ 2109 = .ok (.invokevirtual 222, 3) := by decide +kernel
theorem dL_law__2112 : decode cL_law_ 2112 = .ok (.istore 6, 2) := by decide +kernel
theorem dL_law__2114 : decode cL_law_ 2114 = .ok (.aload_n 2, 1) := by decide +kernel
theorem dL_law__2115 : decode cL_law_ 2115 = .ok (.invokevirtual 121, 3) := by decide +kernel
theorem dL_law__2118 : decode cL_law_ 2118 = .ok (.iload 5, 2) := by decide +kernel
theorem dL_law__2120 : decode cL_law_ 2120 = .ok (.if_icmp .eq 5, 3) := by decide +kernel
theorem dL_law__2125 : decode cL_law_ 2125 = .ok (.iload 5, 2) := by decide +kernel
theorem dL_law__2127 : decode cL_law_ 2127 = .ok (.ifCond .ne 15, 3) := by decide +kernel
theorem dL_law__2142 : decode cL_law_ 2142 = .ok (.goto 263, 3) := by decide +kernel
theorem dL_law__2145 : decode cL_law_ 2145 = .ok (.aload_n 1, 1) := by decide +kernel
theorem dL_law__2146 : decode cL_law_ 2146 = .ok (.aload_n 0, 1) := by decide +kernel
theorem dL_law__2147 : decode cL_law_ 2147 = .ok (.iload 4, 2) := by decide +kernel
theorem dL_law__2149 : decode cL_law_ 2149 = .ok (.iconst 1, 1) := by decide +kernel
theorem dL_law__2150 : decode cL_law_ 2150 = .ok (.iadd, 1) := by decide +kernel
theorem dL_law__2151 : decode cL_law_ 2151 = .ok (.iaload, 1) := by decide +kernel
theorem dL_law__2152 : decode cL_law_ 2152 = .ok (.aload_n 0, 1) := by decide +kernel
theorem dL_law__2153 : decode cL_law_ 2153 = .ok (.iload 4, 2) := by decide +kernel
theorem dL_law__2155 : decode cL_law_ 2155 = .ok (.iconst 2, 1) := by decide +kernel
theorem dL_law__2156 : decode cL_law_ 2156 = .ok (.iadd, 1) := by decide +kernel
theorem dL_law__2157 : decode cL_law_ 2157 = .ok (.iaload, 1) := by decide +kernel
theorem dL_law__2158 : decode cL_law_ 2158 = .ok (.aload_n 0, 1) := by decide +kernel
theorem dL_law__2159 : decode cL_law_ 2159 = .ok (.iload 4, 2) := by decide +kernel
theorem dL_law__2161 : decode cL_law_ 2161 = .ok (.iconst 3, 1) := by decide +kernel
theorem dL_law__2162 : decode cL_law_ 2162 = .ok (.iadd, 1) := by decide +kernel
theorem dL_law__2163 : decode cL_law_ 2163 = .ok (.iaload, 1) := by decide +kernel
theorem dL_law__2164 : decode cL_law_ 2164 = .ok (.aload_n 3, 1) := by decide +kernel
theorem dL_law__2165 : decode cL_law_ 2165 = .ok (.invokestatic 223, 3) := by decide +kernel
theorem dL_law__2168 : decode cL_law_ 2168 = .ok (.istore 5, 2) := by decide +kernel
theorem dL_law__2170 : decode cL_law_ 2170 = .ok (.aload_n 2, 1) := by decide +kernel
theorem dL_law__2171 : decode cL_law_ 2171 = .ok (.aload_n 0, 1) := by decide +kernel
theorem dL_law__2172 : decode cL_law_ 2172 = .ok (.iload 4, 2) := by decide +kernel
theorem dL_law__2174 : decode cL_law_ 2174 = .ok (.iconst 1, 1) := by decide +kernel
theorem dL_law__2175 : decode cL_law_ 2175 = .ok (.iadd, 1) := by decide +kernel
theorem dL_law__2176 : decode cL_law_ 2176 = .ok (.iaload, 1) := by decide +kernel
theorem dL_law__2177 : decode cL_law_ 2177 = .ok (.aload_n 0, 1) := by decide +kernel
theorem dL_law__2178 : decode cL_law_ 2178 = .ok (.iload 4, 2) := by decide +kernel
theorem dL_law__2180 : decode cL_law_ 2180 = .ok (.iconst 2, 1) := by decide +kernel
theorem dL_law__2181 : decode cL_law_ 2181 = .ok (.iadd, 1) := by decide +kernel
theorem dL_law__2182 : decode cL_law_ 2182 = .ok (.iaload, 1) := by decide +kernel
theorem dL_law__2183 : decode cL_law_ 2183 = .ok (.aload_n 0, 1) := by decide +kernel
theorem dL_law__2184 : decode cL_law_ 2184 = .ok (.iload 4, 2) := by decide +kernel
theorem dL_law__2186 : decode cL_law_ 2186 = .ok (.iconst 3, 1) := by decide +kernel
theorem dL_law__2187 : decode cL_law_ 2187 = .ok (.iadd, 1) := by decide +kernel
theorem dL_law__2188 : decode cL_law_ 2188 = .ok (.iaload, 1) := by decide +kernel
theorem dL_law__2189 : decode cL_law_ 2189 = .ok (.invokevirtual 225, 3) := by decide +kernel
theorem dL_law__2192 : decode cL_law_ 2192 = .ok (.istore 6, 2) := by decide +kernel
theorem dL_law__2194 : decode cL_law_ 2194 = .ok (.aload_n 2, 1) := by decide +kernel
theorem dL_law__2195 : decode cL_law_ 2195 = .ok (.invokevirtual 121, 3) := by decide +kernel
theorem dL_law__2198 : decode cL_law_ 2198 = .ok (.iload 5, 2) := by decide +kernel
theorem dL_law__2200 : decode cL_law_ 2200 = .ok (.if_icmp .eq 5, 3) := by decide +kernel
theorem dL_law__2203 : decode cL_law_ 2203 = .ok (.iconst 0, 1) := by decide +kernel
theorem dL_law__2205 : decode cL_law_ 2205 = .ok (.iload 5, 2) := by decide +kernel
theorem dL_law__2207 : decode cL_law_ 2207 = .ok (.ifCond .ne 15, 3) := by decide +kernel
theorem dL_law__2210 : decode cL_law_ 2210 = .ok (.aload_n 3, 1) := by decide +kernel
theorem dL_law__2211 : decode cL_law_ 2211 = .ok (.iconst 0, 1) := by decide +kernel
theorem dL_law__2212 : decode cL_law_ 2212 = .ok (.laload, 1) := by decide +kernel
theorem dL_law__2213 : decode cL_law_ 2213 = .ok (.iload 6, 2) := by decide +kernel
theorem dL_law__2215 : decode cL_law_ 2215 = .ok (.i2l, 1) := by decide +kernel
theorem dL_law__2216 : decode cL_law_ 2216 = .ok (.lcmp, 1) := by decide +kernel
theorem dL_law__2217 : decode cL_law_ 2217 = .ok (.ifCond .eq 5, 3) := by decide +kernel
theorem dL_law__2220 : decode cL_law_ 2220 = .ok (.iconst 0, 1) := by decide +kernel
theorem dL_law__2222 : decode cL_law_ 2222 = .ok (.goto 183, 3) := by decide +kernel
theorem dL_law__2225 : decode cL_law_ 2225 = .ok (.aload_n 1, 1) := by decide +kernel
theorem dL_law__2226 : decode cL_law_ 2226 = .ok (.aload_n 0, 1) := by decide +kernel
theorem dL_law__2227 : decode cL_law_ 2227 = .ok (.iload 4, 2) := by decide +kernel
theorem dL_law__2229 : decode cL_law_ 2229 = .ok (.iconst 1, 1) := by decide +kernel
theorem dL_law__2230 : decode cL_law_ 2230 = .ok (.iadd, 1) := by decide +kernel
theorem dL_law__2231 : decode cL_law_ 2231 = .ok (.iaload, 1) := by decide +kernel
theorem dL_law__2232 : decode cL_law_ 2232 = .ok (.aload_n 0, 1) := by decide +kernel
theorem dL_law__2233 : decode cL_law_ 2233 = .ok (.iload 4, 2) := by decide +kernel
theorem dL_law__2235 : decode cL_law_ 2235 = .ok (.iconst 2, 1) := by decide +kernel
theorem dL_law__2236 : decode cL_law_ 2236 = .ok (.iadd, 1) := by decide +kernel
theorem dL_law__2237 : decode cL_law_ 2237 = .ok (.iaload, 1) := by decide +kernel
theorem dL_law__2238 : decode cL_law_ 2238 = .ok (.aload_n 0, 1) := by decide +kernel
theorem dL_law__2239 : decode cL_law_ 2239 = .ok (.iload 4, 2) := by decide +kernel
theorem dL_law__2241 : decode cL_law_ 2241 = .ok (.iconst 3, 1) := by decide +kernel
theorem dL_law__2242 : decode cL_law_ 2242 = .ok (.iadd, 1) := by decide +kernel
theorem dL_law__2243 : decode cL_law_ 2243 = .ok (.iaload, 1) := by decide +kernel
theorem dL_law__2244 : decode cL_law_ 2244 = .ok (.aload_n 0, 1) := by decide +kernel
theorem dL_law__2245 : decode cL_law_ 2245 = .ok (.iload 4, 2) := by decide +kernel
theorem dL_law__2247 : decode cL_law_ 2247 = .ok (.iconst 4, 1) := by decide +kernel
theorem dL_law__2248 : decode cL_law_ 2248 = .ok (.iadd, 1) := by decide +kernel
theorem dL_law__2249 : decode cL_law_ 2249 = .ok (.iaload, 1) := by decide +kernel
theorem dL_law__2250 : decode cL_law_ 2250 = .ok (.aload_n 0, 1) := by decide +kernel
theorem dL_law__2251 : decode cL_law_ 2251 = .ok (.iload 4, 2) := by decide +kernel
theorem dL_law__2253 : decode cL_law_ 2253 = .ok (.iconst 5, 1) := by decide +kernel
theorem dL_law__2254 : decode cL_law_ 2254 = .ok (.iadd, 1) := by decide +kernel
theorem dL_law__2255 : decode cL_law_ 2255 = .ok (.iaload, 1) := by decide +kernel
theorem dL_law__2256 : decode cL_law_ 2256 = .ok (.aload_n 3, 1) := by decide +kernel
theorem dL_law__2257 : decode cL_law_ 2257 = .ok (.invokestatic 226, 3) := by decide +kernel
theorem dL_law__2260 : decode cL_law_ 2260 = .ok (.istore 5, 2) := by decide +kernel
theorem dL_law__2262 : decode cL_law_ 2262 = .ok (.aload_n 2, 1) := by decide +kernel
theorem dL_law__2263 : decode cL_law_ 2263 = .ok (.aload_n 0, 1) := by decide +kernel
theorem dL_law__2264 : decode cL_law_ 2264 = .ok (.iload 4, 2) := by decide +kernel
theorem dL_law__2266 : decode cL_law_ 2266 = .ok (.iconst 1, 1) := by decide +kernel
theorem dL_law__2267 : decode cL_law_ 2267 = .ok (.iadd, 1) := by decide +kernel
theorem dL_law__2268 : decode cL_law_ 2268 = .ok (.iaload, 1) := by decide +kernel
theorem dL_law__2269 : decode cL_law_ 2269 = .ok (.aload_n 0, 1) := by decide +kernel
theorem dL_law__2270 : decode cL_law_ 2270 = .ok (.iload 4, 2) := by decide +kernel
theorem dL_law__2272 : decode cL_law_ 2272 = .ok (.iconst 2, 1) := by decide +kernel
theorem dL_law__2273 : decode cL_law_ 2273 = .ok (.iadd, 1) := by decide +kernel
theorem dL_law__2274 : decode cL_law_ 2274 = .ok (.iaload, 1) := by decide +kernel
theorem dL_law__2275 : decode cL_law_ 2275 = .ok (.aload_n 0, 1) := by decide +kernel
theorem dL_law__2276 : decode cL_law_ 2276 = .ok (.iload 4, 2) := by decide +kernel
theorem dL_law__2278 : decode cL_law_ 2278 = .ok (.iconst 3, 1) := by decide +kernel
theorem dL_law__2279 : decode cL_law_ 2279 = .ok (.iadd, 1) := by decide +kernel
theorem dL_law__2280 : decode cL_law_ 2280 = .ok (.iaload, 1) := by decide +kernel
theorem dL_law__2281 : decode cL_law_ 2281 = .ok (.aload_n 0, 1) := by decide +kernel
theorem dL_law__2282 : decode cL_law_ 2282 = .ok (.iload 4, 2) := by decide +kernel
theorem dL_law__2284 : decode cL_law_ 2284 = .ok (.iconst 4, 1) := by decide +kernel
theorem dL_law__2285 : decode cL_law_ 2285 = .ok (.iadd, 1) := by decide +kernel
theorem dL_law__2286 : decode cL_law_ 2286 = .ok (.iaload, 1) := by decide +kernel
theorem dL_law__2287 : decode cL_law_ 2287 = .ok (.aload_n 0, 1) := by decide +kernel
theorem dL_law__2288 : decode cL_law_ 2288 = .ok (.iload 4, 2) := by decide +kernel
theorem dL_law__2290 : decode cL_law_ 2290 = .ok (.iconst 5, 1) := by decide +kernel
theorem dL_law__2291 : decode cL_law_ 2291 = .ok (.iadd, 1) := by decide +kernel
theorem dL_law__2292 : decode cL_law_ 2292 = .ok (.iaload, 1) := by decide +kernel
theorem dL_law__2293 : decode cL_law_ 2293 = .ok (.invokevirtual 229, 3) := by decide +kernel
theorem dL_law__2296 : decode cL_law_ 2296 = .ok (.istore 6, 2) := by decide +kernel
theorem dL_law__2298 : decode cL_law_ 2298 = .ok (.aload_n 2, 1) := by decide +kernel
theorem dL_law__2299 : decode cL_law_ 2299 = .ok (.invokevirtual 121, 3) := by decide +kernel
theorem dL_law__2302 : decode cL_law_ 2302 = .ok (.iload 5, 2) := by decide +kernel
theorem dL_law__2304 : decode cL_law_ 2304 = .ok (.if_icmp .eq 5, 3) := by decide +kernel
theorem dL_law__2309 : decode cL_law_ 2309 = .ok (.iload 5, 2) := by decide +kernel
theorem dL_law__2311 : decode cL_law_ 2311 = .ok (.ifCond .ne 15, 3) := by decide +kernel
theorem dL_law__2326 : decode cL_law_ 2326 = .ok (.goto 79, 3) := by decide +kernel
theorem dL_law__2329 : decode cL_law_ 2329 = .ok (.aload_n 1, 1) := by decide +kernel
theorem dL_law__2330 : decode cL_law_ 2330 = .ok (.invokevirtual 230, 3) := by decide +kernel
theorem dL_law__2333 : decode cL_law_ 2333 = .ok (.aload_n 2, 1) := by decide +kernel
theorem dL_law__2334 : decode cL_law_ 2334 = .ok (.invokevirtual 233, 3) := by decide +kernel
theorem dL_law__2337 : decode cL_law_ 2337 = .ok (.if_icmp .eq 68, 3) := by decide +kernel
theorem dL_law__2342 : decode cL_law_ 2342 = .ok (.aload_n 1, 1) := by decide +kernel
theorem dL_law__2343 : decode cL_law_ 2343 = .ok (.invokevirtual 234, 3) := by decide +kernel
theorem dL_law__2346 : decode cL_law_ 2346 = .ok (.aload_n 2, 1) := by decide +kernel
theorem dL_law__2347 : decode cL_law_ 2347 = .ok (.invokevirtual 237, 3) := by decide +kernel
theorem dL_law__2350 : decode cL_law_ 2350 = .ok (.if_icmp .eq 55, 3) := by decide +kernel
theorem dL_law__2355 : decode cL_law_ 2355 = .ok (.aload_n 1, 1) := by decide +kernel
theorem dL_law__2356 : decode cL_law_ 2356 = .ok (.aload_n 0, 1) := by decide +kernel
theorem dL_law__2357 : decode cL_law_ 2357 = .ok (.iload 4, 2) := by decide +kernel
theorem dL_law__2359 : decode cL_law_ 2359 = .ok (.iconst 1, 1) := by decide +kernel
theorem dL_law__2360 : decode cL_law_ 2360 = .ok (.iadd, 1) := by decide +kernel
theorem dL_law__2361 : decode cL_law_ 2361 = .ok (.iaload, 1) := by decide +kernel
theorem dL_law__2362 : decode cL_law_ 2362 = .ok (.invokevirtual 238, 3) := by decide +kernel
theorem dL_law__2365 : decode cL_law_ 2365 = .ok (.aload_n 2, 1) := by decide +kernel
theorem dL_law__2366 : decode cL_law_ 2366 = .ok (.aload_n 0, 1) := by decide +kernel
theorem dL_law__2367 : decode cL_law_ 2367 = .ok (.iload 4, 2) := by decide +kernel
theorem dL_law__2369 : decode cL_law_ 2369 = .ok (.iconst 1, 1) := by decide +kernel
theorem dL_law__2370 : decode cL_law_ 2370 = .ok (.iadd, 1) := by decide +kernel
theorem dL_law__2371 : decode cL_law_ 2371 = .ok (.iaload, 1) := by decide +kernel
theorem dL_law__2372 : decode cL_law_ 2372 = .ok (.invokevirtual 241, 3) := by decide +kernel
theorem dL_law__2375 : decode cL_law_ 2375 = .ok (.if_icmp .eq 30, 3) := by decide +kernel
theorem dL_law__2378 : decode cL_law_ 2378 = .ok (.iconst 0, 1) := by decide +kernel
theorem dL_law__2380 : decode cL_law_ 2380 = .ok (.aload_n 1, 1) := by decide +kernel
theorem dL_law__2381 : decode cL_law_ 2381 = .ok (.aload_n 0, 1) := by decide +kernel
theorem dL_law__2382 : decode cL_law_ 2382 = .ok (.iload 4, 2) := by decide +kernel
theorem dL_law__2384 : decode cL_law_ 2384 = .ok (.iconst 1, 1) := by decide +kernel
theorem dL_law__2385 : decode cL_law_ 2385 = .ok (.iadd, 1) := by decide +kernel
theorem dL_law__2386 : decode cL_law_ 2386 = .ok (.iaload, 1) := by decide +kernel
theorem dL_law__2387 : decode cL_law_ 2387 = .ok (.invokevirtual 242, 3) := by decide +kernel
theorem dL_law__2390 : decode cL_law_ 2390 = .ok (.aload_n 2, 1) := by decide +kernel
theorem dL_law__2391 : decode cL_law_ 2391 = .ok (.aload_n 0, 1) := by decide +kernel
theorem dL_law__2392 : decode cL_law_ 2392 = .ok (.iload 4, 2) := by decide +kernel
theorem dL_law__2394 : decode cL_law_ 2394 = .ok (.iconst 1, 1) := by decide +kernel
theorem dL_law__2395 : decode cL_law_ 2395 = .ok (.iadd, 1) := by decide +kernel
theorem dL_law__2396 : decode cL_law_ 2396 = .ok (.iaload, 1) := by decide +kernel
theorem dL_law__2397 : decode cL_law_ 2397 = .ok (.invokevirtual 245, 3) := by decide +kernel
theorem dL_law__2400 : decode cL_law_ 2400 = .ok (.if_icmp .eq 5, 3) := by decide +kernel
theorem dL_law__2403 : decode cL_law_ 2403 = .ok (.iconst 0, 1) := by decide +kernel
theorem dL_law__2405 : decode cL_law_ 2405 = .ok (.iinc 4 9, 3) := by decide +kernel
theorem dL_law__2408 : decode cL_law_ 2408 = .ok (.goto (-2385), 3) := by decide +kernel
theorem dL_law__2411 : decode cL_law_ 2411 = .ok (.iconst 1, 1) := by decide +kernel
theorem dL_law__2412 : decode cL_law_ 2412 = .ok (.ireturn, 1) := by decide +kernel
