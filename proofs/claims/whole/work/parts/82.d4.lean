/-! decode rows of the law, by program: 4 -/
theorem dW_law_1714 : decode (zby mW_law) 1714 = .ok (.i2l, 1) := by decide +kernel
theorem dW_law_1715 : decode (zby mW_law) 1715 = .ok (.lcmp, 1) := by decide +kernel
theorem dW_law_1716 : decode (zby mW_law) 1716 = .ok (.ifCond .eq 5, 3) := by decide +kernel
theorem dW_law_1721 : decode (zby mW_law) 1721 = .ok (.goto 1539, 3) := by decide +kernel
theorem dW_law_1724 : decode (zby mW_law) 1724 = .ok (.aload_n 1, 1) := by decide +kernel
theorem dW_law_1725 : decode (zby mW_law) 1725 = .ok (.aload_n 0, 1) := by decide +kernel
theorem dW_law_1726 : decode (zby mW_law) 1726 = .ok (.iload 5, 2) := by decide +kernel
theorem dW_law_1728 : decode (zby mW_law) 1728 = .ok (.iconst 1, 1) := by decide +kernel
theorem dW_law_1729 : decode (zby mW_law) 1729 = .ok (.iadd, 1) := by decide +kernel
theorem dW_law_1730 : decode (zby mW_law) 1730 = .ok (.iaload, 1) := by decide +kernel
theorem dW_law_1731 : decode (zby mW_law) 1731 = .ok (.aload_n 0, 1) := by decide +kernel
theorem dW_law_1732 : decode (zby mW_law) 1732 = .ok (.iload 5, 2) := by decide +kernel
theorem dW_law_1734 : decode (zby mW_law) 1734 = .ok (.iconst 2, 1) := by decide +kernel
theorem dW_law_1735 : decode (zby mW_law) 1735 = .ok (.iadd, 1) := by decide +kernel
theorem dW_law_1736 : decode (zby mW_law) 1736 = .ok (.iaload, 1) := by decide +kernel
theorem dW_law_1737 : decode (zby mW_law) 1737 = .ok (.aload_n 0, 1) := by decide +kernel
theorem dW_law_1738 : decode (zby mW_law) 1738 = .ok (.iload 5, 2) := by decide +kernel
theorem dW_law_1740 : decode (zby mW_law) 1740 = .ok (.iconst 3, 1) := by decide +kernel
theorem dW_law_1741 : decode (zby mW_law) 1741 = .ok (.iadd, 1) := by decide +kernel
theorem dW_law_1742 : decode (zby mW_law) 1742 = .ok (.iaload, 1) := by decide +kernel
theorem dW_law_1743 : decode (zby mW_law) 1743 = .ok (.aload_n 3, 1) := by decide +kernel
theorem dW_law_1744 : decode (zby mW_law) 1744 = .ok (.invokestatic 263, 3) := by decide +kernel
theorem dW_law_1747 : decode (zby mW_law) 1747 = .ok (.istore 6, 2) := by decide +kernel
theorem dW_law_1749 : decode (zby mW_law) 1749 = .ok (.aload_n 2, 1) := by decide +kernel
theorem dW_law_1750 : decode (zby mW_law) 1750 = .ok (.aload_n 0, 1) := by decide +kernel
theorem dW_law_1751 : decode (zby mW_law) 1751 = .ok (.iload 5, 2) := by decide +kernel
theorem dW_law_1753 : decode (zby mW_law) 1753 = .ok (.iconst 1, 1) := by decide +kernel
theorem dW_law_1754 : decode (zby mW_law) 1754 = .ok (.iadd, 1) := by decide +kernel
theorem dW_law_1755 : decode (zby mW_law) 1755 = .ok (.iaload, 1) := by decide +kernel
theorem dW_law_1756 : decode (zby mW_law) 1756 = .ok (.aload_n 0, 1) := by decide +kernel
theorem dW_law_1757 : decode (zby mW_law) 1757 = .ok (.iload 5, 2) := by decide +kernel
theorem dW_law_1759 : decode (zby mW_law) 1759 = .ok (.iconst 2, 1) := by decide +kernel
theorem dW_law_1760 : decode (zby mW_law) 1760 = .ok (.iadd, 1) := by decide +kernel
theorem dW_law_1761 : decode (zby mW_law) 1761 = .ok (.iaload, 1) := by decide +kernel
theorem dW_law_1762 : decode (zby mW_law) 1762 = .ok (.aload_n 0, 1) := by decide +kernel
theorem dW_law_1763 : decode (zby mW_law) 1763 = .ok (.iload 5, 2) := by decide +kernel
theorem dW_law_1765 : decode (zby mW_law) 1765 = .ok (.iconst 3, 1) := by decide +kernel
theorem dW_law_1766 : decode (zby mW_law) 1766 = .ok (.iadd, 1) := by decide +kernel
theorem dW_law_1767 : decode (zby mW_law) 1767 = .ok (.iaload, 1) := by decide +kernel
theorem dW_law_1768 : decode (zby mW_law) 1768 = .ok (.invokevirtual 265, 3) := by decide +kernel
theorem dW_law_1771 : decode (zby mW_law) 1771 = .ok (.istore 7, 2) := by decide +kernel
theorem dW_law_1773 : decode (zby mW_law) 1773 = .ok (.aload_n 2, 1) := by decide +kernel
theorem dW_law_1774 : decode (zby mW_law) 1774 = .ok (.invokevirtual 183, 3) := by decide +kernel
theorem dW_law_1777 : decode (zby mW_law) 1777 = .ok (.iload 6, 2) := by decide +kernel
theorem dW_law_1779 : decode (zby mW_law) 1779 = .ok (.if_icmp .eq 5, 3) := by decide +kernel
theorem dW_law_1784 : decode (zby mW_law) 1784 = .ok (.iload 6, 2) := by decide +kernel
theorem dW_law_1786 : decode (zby mW_law) 1786 = .ok (.ifCond .ne 15, 3) := by decide +kernel
theorem dW_law_1789 : decode (zby mW_law) 1789 = .ok (.aload_n 3, 1) := by decide +kernel
theorem dW_law_1790 : decode (zby mW_law) 1790 = .ok (.iconst 0, 1) := by decide +kernel
theorem dW_law_1791 : decode (zby mW_law) 1791 = .ok (.laload, 1) := by decide +kernel
theorem dW_law_1792 : decode (zby mW_law) 1792 = .ok (.iload 7, 2) := by decide +kernel
theorem dW_law_1794 : decode (zby mW_law) 1794 = .ok (.i2l, 1) := by decide +kernel
theorem dW_law_1795 : decode (zby mW_law) 1795 = .ok (.lcmp, 1) := by decide +kernel
theorem dW_law_1796 : decode (zby mW_law) 1796 = .ok (.ifCond .eq 5, 3) := by decide +kernel
theorem dW_law_1801 : decode (zby mW_law) 1801 = .ok (.goto 1459, 3) := by decide +kernel
theorem dW_law_1804 : decode (zby mW_law) 1804 = .ok (.aload_n 1, 1) := by decide +kernel
theorem dW_law_1805 : decode (zby mW_law) 1805 = .ok (.aload_n 0, 1) := by decide +kernel
theorem dW_law_1806 : decode (zby mW_law) 1806 = .ok (.iload 5, 2) := by decide +kernel
theorem dW_law_1808 : decode (zby mW_law) 1808 = .ok (.iconst 1, 1) := by decide +kernel
theorem dW_law_1809 : decode (zby mW_law) 1809 = .ok (.iadd, 1) := by decide +kernel
theorem dW_law_1810 : decode (zby mW_law) 1810 = .ok (.iaload, 1) := by decide +kernel
theorem dW_law_1811 : decode (zby mW_law) 1811 = .ok (.aload_n 0, 1) := by decide +kernel
theorem dW_law_1812 : decode (zby mW_law) 1812 = .ok (.iload 5, 2) := by decide +kernel
theorem dW_law_1814 : decode (zby mW_law) 1814 = .ok (.iconst 2, 1) := by decide +kernel
theorem dW_law_1815 : decode (zby mW_law) 1815 = .ok (.iadd, 1) := by decide +kernel
theorem dW_law_1816 : decode (zby mW_law) 1816 = .ok (.iaload, 1) := by decide +kernel
theorem dW_law_1817 : decode (zby mW_law) 1817 = .ok (.aload_n 0, 1) := by decide +kernel
theorem dW_law_1818 : decode (zby mW_law) 1818 = .ok (.iload 5, 2) := by decide +kernel
theorem dW_law_1820 : decode (zby mW_law) 1820 = .ok (.iconst 3, 1) := by decide +kernel
theorem dW_law_1821 : decode (zby mW_law) 1821 = .ok (.iadd, 1) := by decide +kernel
theorem dW_law_1822 : decode (zby mW_law) 1822 = .ok (.iaload, 1) := by decide +kernel
theorem dW_law_1823 : decode (zby mW_law) 1823 = .ok (.aload_n 3, 1) := by decide +kernel
theorem dW_law_1824 : decode (zby mW_law) 1824 = .ok (.invokestatic 266, 3) := by decide +kernel
theorem dW_law_1827 : decode (zby mW_law) 1827 = .ok (.istore 6, 2) := by decide +kernel
theorem dW_law_1829 : decode (zby mW_law) 1829 = .ok (.aload_n 2, 1) := by decide +kernel
theorem dW_law_1830 : decode (zby mW_law) 1830 = .ok (.aload_n 0, 1) := by decide +kernel
theorem dW_law_1831 : decode (zby mW_law) 1831 = .ok (.iload 5, 2) := by decide +kernel
theorem dW_law_1833 : decode (zby mW_law) 1833 = .ok (.iconst 1, 1) := by decide +kernel
theorem dW_law_1834 : decode (zby mW_law) 1834 = .ok (.iadd, 1) := by decide +kernel
theorem dW_law_1835 : decode (zby mW_law) 1835 = .ok (.iaload, 1) := by decide +kernel
theorem dW_law_1836 : decode (zby mW_law) 1836 = .ok (.aload_n 0, 1) := by decide +kernel
theorem dW_law_1837 : decode (zby mW_law) 1837 = .ok (.iload 5, 2) := by decide +kernel
theorem dW_law_1839 : decode (zby mW_law) 1839 = .ok (.iconst 2, 1) := by decide +kernel
theorem dW_law_1840 : decode (zby mW_law) 1840 = .ok (.iadd, 1) := by decide +kernel
theorem dW_law_1841 : decode (zby mW_law) 1841 = .ok (.iaload, 1) := by decide +kernel
theorem dW_law_1842 : decode (zby mW_law) 1842 = .ok (.aload_n 0, 1) := by decide +kernel
theorem dW_law_1843 : decode (zby mW_law) 1843 = .ok (.iload 5, 2) := by decide +kernel
theorem dW_law_1845 : decode (zby mW_law) 1845 = .ok (.iconst 3, 1) := by decide +kernel
theorem dW_law_1846 : decode (zby mW_law) 1846 = .ok (.iadd, 1) := by decide +kernel
theorem dW_law_1847 : decode (zby mW_law) 1847 = .ok (.iaload, 1) := by decide +kernel
theorem dW_law_1848 : decode (zby mW_law) 1848 = .ok (.invokevirtual 268, 3) := by decide +kernel
theorem dW_law_1851 : decode (zby mW_law) 1851 = .ok (.istore 7, 2) := by decide +kernel
theorem dW_law_1853 : decode (zby mW_law) 1853 = .ok (.aload_n 2, 1) := by decide +kernel
theorem dW_law_1854 : decode (zby mW_law) 1854 = .ok (.invokevirtual 183, 3) := by decide +kernel
theorem dW_law_1857 : decode (zby mW_law) 1857 = .ok (.iload 6, 2) := by decide +kernel
theorem dW_law_1859 : decode (zby mW_law) 1859 = .ok (.if_icmp .eq 5, 3) := by decide +kernel
theorem dW_law_1864 : decode (zby mW_law) 1864 = .ok (.iload 6, 2) := by decide +kernel
theorem dW_law_1866 : decode (zby mW_law) 1866 = .ok (.ifCond .ne 15, 3) := by decide +kernel
theorem dW_law_1869 : decode (zby mW_law) 1869 = .ok (.aload_n 3, 1) := by decide +kernel
theorem dW_law_1870 : decode (zby mW_law) 1870 = .ok (.iconst 0, 1) := by decide +kernel
theorem dW_law_1871 : decode (zby mW_law) 1871 = .ok (.laload, 1) := by decide +kernel
theorem dW_law_1872 : decode (zby mW_law) 1872 = .ok (.iload 7, 2) := by decide +kernel
theorem dW_law_1874 : decode (zby mW_law) 1874 = .ok (.i2l, 1) := by decide +kernel
theorem dW_law_1875 : decode (zby mW_law) 1875 = .ok (.lcmp, 1) := by decide +kernel
theorem dW_law_1876 : decode (zby mW_law) 1876 = .ok (.ifCond .eq 5, 3) := by decide +kernel
theorem dW_law_1881 : decode (zby mW_law) 1881 = .ok (.goto 1379, 3) := by decide +kernel
theorem dW_law_1884 : decode (zby mW_law) 1884 = .ok (.aload_n 1, 1) := by decide +kernel
theorem dW_law_1885 : decode (zby mW_law) 1885 = .ok (.aload_n 0, 1) := by decide +kernel
theorem dW_law_1886 : decode (zby mW_law) 1886 = .ok (.iload 5, 2) := by decide +kernel
theorem dW_law_1888 : decode (zby mW_law) 1888 = .ok (.iconst 1, 1) := by decide +kernel
theorem dW_law_1889 : decode (zby mW_law) 1889 = .ok (.iadd, 1) := by decide +kernel
theorem dW_law_1890 : decode (zby mW_law) 1890 = .ok (.iaload, 1) := by decide +kernel
theorem dW_law_1891 : decode (zby mW_law) 1891 = .ok (.aload_n 0, 1) := by decide +kernel
theorem dW_law_1892 : decode (zby mW_law) 1892 = .ok (.iload 5, 2) := by decide +kernel
theorem dW_law_1894 : decode (zby mW_law) 1894 = .ok (.iconst 2, 1) := by decide +kernel
theorem dW_law_1895 : decode (zby mW_law) 1895 = .ok (.iadd, 1) := by decide +kernel
theorem dW_law_1896 : decode (zby mW_law) 1896 = .ok (.iaload, 1) := by decide +kernel
theorem dW_law_1897 : decode (zby mW_law) 1897 = .ok (.aload_n 3, 1) := by decide +kernel
theorem dW_law_1898 : decode (zby mW_law) 1898 = .ok (.invokestatic 269, 3) := by decide +kernel
theorem dW_law_1901 : decode (zby mW_law) 1901 = .ok (.istore 6, 2) := by decide +kernel
theorem dW_law_1903 : decode (zby mW_law) 1903 = .ok (.aload_n 2, 1) := by decide +kernel
theorem dW_law_1904 : decode (zby mW_law) 1904 = .ok (.aload_n 0, 1) := by decide +kernel
theorem dW_law_1905 : decode (zby mW_law) 1905 = .ok (.iload 5, 2) := by decide +kernel
theorem dW_law_1907 : decode (zby mW_law) 1907 = .ok (.iconst 1, 1) := by decide +kernel
theorem dW_law_1908 : decode (zby mW_law) 1908 = .ok (.iadd, 1) := by decide +kernel
theorem dW_law_1909 : decode (zby mW_law) 1909 = .ok (.iaload, 1) := by decide +kernel
theorem dW_law_1910 : decode (zby mW_law) 1910 = .ok (.aload_n 0, 1) := by decide +kernel
theorem dW_law_1911 : decode (zby mW_law) 1911 = .ok (.iload 5, 2) := by decide +kernel
theorem dW_law_1913 : decode (zby mW_law) 1913 = .ok (.iconst 2, 1) := by decide +kernel
theorem dW_law_1914 : decode (zby mW_law) 1914 = .ok (.iadd, 1) := by decide +kernel
theorem dW_law_1915 : decode (zby mW_law) 1915 = .ok (.iaload, 1) := by decide +kernel
theorem dW_law_1916 : decode (zby mW_law) 1916 = .ok (.invokevirtual 271, 3) := by decide +kernel
theorem dW_law_1919 : decode (zby mW_law) 1919 = .ok (.istore 7, 2) := by decide +kernel
theorem dW_law_1921 : decode (zby mW_law) 1921 = .ok (.aload_n 2, 1) := by decide +kernel
theorem dW_law_1922 : decode (zby mW_law) 1922 = .ok (.invokevirtual 183, 3) := by decide +kernel
theorem dW_law_1925 : decode (zby mW_law) 1925 = .ok (.iload 6, 2) := by decide +kernel
theorem dW_law_1927 : decode (zby mW_law) 1927 = .ok (.if_icmp .eq 5, 3) := by decide +kernel
theorem dW_law_1932 : decode (zby mW_law) 1932 = .ok (.iload 6, 2) := by decide +kernel
theorem dW_law_1934 : decode (zby mW_law) 1934 = .ok (.ifCond .ne 15, 3) := by decide +kernel
theorem dW_law_1937 : decode (zby mW_law) 1937 = .ok (.aload_n 3, 1) := by decide +kernel
theorem dW_law_1938 : decode (zby mW_law) 1938 = .ok (.iconst 0, 1) := by decide +kernel
theorem dW_law_1939 : decode (zby mW_law) 1939 = .ok (.laload, 1) := by decide +kernel
theorem dW_law_1940 : decode (zby mW_law) 1940 = .ok (.iload 7, 2) := by decide +kernel
theorem dW_law_1942 : decode (zby mW_law) 1942 = .ok (.i2l, 1) := by decide +kernel
theorem dW_law_1943 : decode (zby mW_law) 1943 = .ok (.lcmp, 1) := by decide +kernel
theorem dW_law_1944 : decode (zby mW_law) 1944 = .ok (.ifCond .eq 5, 3) := by decide +kernel
theorem dW_law_1949 : decode (zby mW_law) 1949 = .ok (.goto 1311, 3) := by decide +kernel
theorem dW_law_1952 : decode (zby mW_law) 1952 = .ok (.aload_n 1, 1) := by decide +kernel
theorem dW_law_1953 : decode (zby mW_law) 1953 = .ok (.aload_n 0, 1) := by decide +kernel
theorem dW_law_1954 : decode (zby mW_law) 1954 = .ok (.iload 5, 2) := by decide +kernel
theorem dW_law_1956 : decode (zby mW_law) 1956 = .ok (.iconst 1, 1) := by decide +kernel
theorem dW_law_1957 : decode (zby mW_law) 1957 = .ok (.iadd, 1) := by decide +kernel
theorem dW_law_1958 : decode (zby mW_law) 1958 = .ok (.iaload, 1) := by decide +kernel
theorem dW_law_1959 : decode (zby mW_law) 1959 = .ok (.aload_n 0, 1) := by decide +kernel
theorem dW_law_1960 : decode (zby mW_law) 1960 = .ok (.iload 5, 2) := by decide +kernel
theorem dW_law_1962 : decode (zby mW_law) 1962 = .ok (.iconst 2, 1) := by decide +kernel
theorem dW_law_1963 : decode (zby mW_law) 1963 = .ok (.iadd, 1) := by decide +kernel
theorem dW_law_1964 : decode (zby mW_law) 1964 = .ok (.iaload, 1) := by decide +kernel
theorem dW_law_1965 : decode (zby mW_law) 1965 = .ok (.aload_n 3, 1) := by decide +kernel
theorem dW_law_1966 : decode (zby mW_law) 1966 = .ok (.invokestatic 272, 3) := by decide +kernel
theorem dW_law_1969 : decode (zby mW_law) 1969 = .ok (.istore 6, 2) := by decide +kernel
theorem dW_law_1971 : decode (zby mW_law) 1971 = .ok (.aload_n 2, 1) := by decide +kernel
theorem dW_law_1972 : decode (zby mW_law) 1972 = .ok (.aload_n 0, 1) := by decide +kernel
theorem dW_law_1973 : decode (zby mW_law) 1973 = .ok (.iload 5, 2) := by decide +kernel
theorem dW_law_1975 : decode (zby mW_law) 1975 = .ok (.iconst 1, 1) := by decide +kernel
theorem dW_law_1976 : decode (zby mW_law) 1976 = .ok (.iadd, 1) := by decide +kernel
theorem dW_law_1977 : decode (zby mW_law) 1977 = .ok (.iaload, 1) := by decide +kernel
theorem dW_law_1978 : decode (zby mW_law) 1978 = .ok (.aload_n 0, 1) := by decide +kernel
theorem dW_law_1979 : decode (zby mW_law) 1979 = .ok (.iload 5, 2) := by decide +kernel
theorem dW_law_1981 : decode (zby mW_law) 1981 = .ok (.iconst 2, 1) := by decide +kernel
theorem dW_law_1982 : decode (zby mW_law) 1982 = .ok (.iadd, 1) := by decide +kernel
theorem dW_law_1983 : decode (zby mW_law) 1983 = .ok (.iaload, 1) := by decide +kernel
theorem dW_law_1984 : decode (zby mW_law) 1984 = .ok (.invokevirtual 274, 3) := by decide +kernel
theorem dW_law_1987 : decode (zby mW_law) 1987 = .ok (.istore 7, 2) := by decide +kernel
theorem dW_law_1989 : decode (zby mW_law) 1989 = .ok (.aload_n 2, 1) := by decide +kernel
theorem dW_law_1990 : decode (zby mW_law) 1990 = .ok (.invokevirtual 183, 3) := by decide +kernel
theorem dW_law_1993 : decode (zby mW_law) 1993 = .ok (.iload 6, 2) := by decide +kernel
theorem dW_law_1995 : decode (zby mW_law) 1995 = .ok (.if_icmp .eq 5, 3) := by decide +kernel
theorem dW_law_2000 : decode (zby mW_law) 2000 = .ok (.iload 6, 2) := by decide +kernel
theorem dW_law_2002 : decode (zby mW_law) 2002 = .ok (.ifCond .ne 15, 3) := by decide +kernel
theorem dW_law_2005 : decode (zby mW_law) 2005 = .ok (.aload_n 3, 1) := by decide +kernel
theorem dW_law_2006 : decode (zby mW_law) 2006 = .ok (.iconst 0, 1) := by decide +kernel
theorem dW_law_2007 : decode (zby mW_law) 2007 = .ok (.laload, 1) := by decide +kernel
theorem dW_law_2008 : decode (zby mW_law) 2008 = .ok (.iload 7, 2) := by decide +kernel
theorem dW_law_2010 : decode (zby mW_law) 2010 = .ok (.i2l, 1) := by decide +kernel
theorem dW_law_2011 : decode (zby mW_law) 2011 = .ok (.lcmp, 1) := by decide +kernel
theorem dW_law_2012 : decode (zby mW_law) 2012 = .ok (.ifCond .eq 5, 3) := by decide +kernel
theorem dW_law_2017 : decode (zby mW_law) 2017 = .ok (.goto 1243, 3) := by decide +kernel
theorem dW_law_2020 : decode (zby mW_law) 2020 = .ok (.aload_n 1, 1) := by decide +kernel
theorem dW_law_2021 : decode (zby mW_law) 2021 = .ok (.aload_n 0, 1) := by decide +kernel
theorem dW_law_2022 : decode (zby mW_law) 2022 = .ok (.iload 5, 2) := by decide +kernel
theorem dW_law_2024 : decode (zby mW_law) 2024 = .ok (.iconst 1, 1) := by decide +kernel
theorem dW_law_2025 : decode (zby mW_law) 2025 = .ok (.iadd, 1) := by decide +kernel
theorem dW_law_2026 : decode (zby mW_law) 2026 = .ok (.iaload, 1) := by decide +kernel
theorem dW_law_2027 : decode (zby mW_law) 2027 = .ok (.aload_n 3, 1) := by decide +kernel
theorem dW_law_2028 : decode (zby mW_law) 2028 = .ok (.invokestatic 275, 3) := by decide +kernel
theorem dW_law_2031 : decode (zby mW_law) 2031 = .ok (.istore 6, 2) := by decide +kernel
theorem dW_law_2033 : decode (zby mW_law) 2033 = .ok (.aload_n 2, 1) := by decide +kernel
theorem dW_law_2034 : decode (zby mW_law) 2034 = .ok (.aload_n 0, 1) := by decide +kernel
theorem dW_law_2035 : decode (zby mW_law) 2035 = .ok (.iload 5, 2) := by decide +kernel
theorem dW_law_2037 : decode (zby mW_law) 2037 = .ok (.iconst 1, 1) := by decide +kernel
theorem dW_law_2038 : decode (zby mW_law) 2038 = .ok (.iadd, 1) := by decide +kernel
theorem dW_law_2039 : decode (zby mW_law) 2039 = .ok (.iaload, 1) := by decide +kernel
theorem dW_law_2040 : decode (zby mW_law) 2040 = .ok (.invokevirtual 277, 3) := by decide +kernel
theorem dW_law_2043 : decode (zby mW_law) 2043 = .ok (.istore 7, 2) := by decide +kernel
theorem dW_law_2045 : decode (zby mW_law) 2045 = .ok (.aload_n 2, 1) := by decide +kernel
theorem dW_law_2046 : decode (zby mW_law) 2046 = .ok (.invokevirtual 183, 3) := by decide +kernel
theorem dW_law_2049 : decode (zby mW_law) 2049 = .ok (.iload 6, 2) := by decide +kernel
theorem dW_law_2051 : decode (zby mW_law) 2051 = .ok (.if_icmp .eq 5, 3) := by decide +kernel
theorem dW_law_2056 : decode (zby mW_law) 2056 = .ok (.iload 6, 2) := by decide +kernel
theorem dW_law_2058 : decode (zby mW_law) 2058 = .ok (.ifCond .ne 15, 3) := by decide +kernel
theorem dW_law_2061 : decode (zby mW_law) 2061 = .ok (.aload_n 3, 1) := by decide +kernel
theorem dW_law_2062 : decode (zby mW_law) 2062 = .ok (.iconst 0, 1) := by decide +kernel
theorem dW_law_2063 : decode (zby mW_law) 2063 = .ok (.laload, 1) := by decide +kernel
theorem dW_law_2064 : decode (zby mW_law) 2064 = .ok (.iload 7, 2) := by decide +kernel
theorem dW_law_2066 : decode (zby mW_law) 2066 = .ok (.i2l, 1) := by decide +kernel
theorem dW_law_2067 : decode (zby mW_law) 2067 = .ok (.lcmp, 1) := by decide +kernel
theorem dW_law_2068 : decode (zby mW_law) 2068 = .ok (.ifCond .eq 5, 3) := by decide +kernel
theorem dW_law_2073 : decode (zby mW_law) 2073 = .ok (.goto 1187, 3) := by decide +kernel
theorem dW_law_2076 : decode (zby mW_law) 2076 = .ok (.aload_n 1, 1) := by decide +kernel
theorem dW_law_2077 : decode (zby mW_law) 2077 = .ok (.aload_n 0, 1) := by decide +kernel
theorem dW_law_2078 : decode (zby mW_law) 2078 = .ok (.iload 5, 2) := by decide +kernel
theorem dW_law_2080 : decode (zby mW_law) 2080 = .ok (.iconst 1, 1) := by decide +kernel
theorem dW_law_2081 : decode (zby mW_law) 2081 = .ok (.iadd, 1) := by decide +kernel
theorem dW_law_2082 : decode (zby mW_law) 2082 = .ok (.iaload, 1) := by decide +kernel
theorem dW_law_2083 : decode (zby mW_law) 2083 = .ok (.aload_n 3, 1) := by decide +kernel
theorem dW_law_2084 : decode (zby mW_law) 2084 = .ok (.invokestatic 278, 3) := by decide +kernel
theorem dW_law_2087 : decode (zby mW_law) 2087 = .ok (.istore 6, 2) := by decide +kernel
theorem dW_law_2089 : decode (zby mW_law) 2089 = .ok (.aload_n 2, 1) := by decide +kernel
theorem dW_law_2090 : decode (zby mW_law) 2090 = .ok (.aload_n 0, 1) := by decide +kernel
theorem dW_law_2091 : decode (zby mW_law) 2091 = .ok (.iload 5, 2) := by decide +kernel
theorem dW_law_2093 : decode (zby mW_law) 2093 = .ok (.iconst 1, 1) := by decide +kernel
theorem dW_law_2094 : decode (zby mW_law) 2094 = .ok (.iadd, 1) := by decide +kernel
theorem dW_law_2095 : decode (zby mW_law) 2095 = .ok (.iaload, 1) := by decide +kernel
theorem dW_law_2096 : decode (zby mW_law) 2096 = .ok (.invokevirtual 280, 3) := by decide +kernel
theorem dW_law_2099 : decode (zby mW_law) 2099 = .ok (.istore 7, 2) := by decide +kernel
theorem dW_law_2101 : decode (zby mW_law) 2101 = .ok (.aload_n 2, 1) := by decide +kernel
theorem dW_law_2102 : decode (zby mW_law) 2102 = .ok (.invokevirtual 183, 3) := by decide +kernel
theorem dW_law_2105 : decode (zby mW_law) 2105 = .ok (.iload 6, 2) := by decide +kernel
theorem dW_law_2107 : decode (zby mW_law) 2107 = .ok (.if_icmp .eq 5, 3) := by decide +kernel
theorem dW_law_2112 : decode (zby mW_law) 2112 = .ok (.iload 6, 2) := by decide +kernel
theorem dW_law_2114 : decode (zby mW_law) 2114 = .ok (.ifCond .ne 15, 3) := by decide +kernel
theorem dW_law_2117 : decode (zby mW_law) 2117 = .ok (.aload_n 3, 1) := by decide +kernel
theorem dW_law_2118 : decode (zby mW_law) 2118 = .ok (.iconst 0, 1) := by decide +kernel
theorem dW_law_2119 : decode (zby mW_law) 2119 = .ok (.laload, 1) := by decide +kernel
theorem dW_law_2120 : decode (zby mW_law) 2120 = .ok (.iload 7, 2) := by decide +kernel
theorem dW_law_2122 : decode (zby mW_law) 2122 = .ok (.i2l, 1) := by decide +kernel
theorem dW_law_2123 : decode (zby mW_law) 2123 = .ok (.lcmp, 1) := by decide +kernel
theorem dW_law_2124 : decode (zby mW_law) 2124 = .ok (.ifCond .eq 5, 3) := by decide +kernel
theorem dW_law_2129 : decode (zby mW_law) 2129 = .ok (.goto 1131, 3) := by decide +kernel
theorem dW_law_2132 : decode (zby mW_law) 2132 = .ok (.aload_n 1, 1) := by decide +kernel
theorem dW_law_2133 : decode (zby mW_law) 2133 = .ok (.aload_n 0, 1) := by decide +kernel
theorem dW_law_2134 : decode (zby mW_law) 2134 = .ok (.iload 5, 2) := by decide +kernel
theorem dW_law_2136 : decode (zby mW_law) 2136 = .ok (.iconst 1, 1) := by decide +kernel
theorem dW_law_2137 : decode (zby mW_law) 2137 = .ok (.iadd, 1) := by decide +kernel
theorem dW_law_2138 : decode (zby mW_law) 2138 = .ok (.iaload, 1) := by decide +kernel
theorem dW_law_2139 : decode (zby mW_law) 2139 = .ok (.aload_n 3, 1) := by decide +kernel
theorem dW_law_2140 : decode (zby mW_law) 2140 = .ok (.invokestatic 281, 3) := by decide +kernel
theorem dW_law_2143 : decode (zby mW_law) 2143 = .ok (.istore 6, 2) := by decide +kernel
theorem dW_law_2145 : decode (zby mW_law) 2145 = .ok (.aload_n 2, 1) := by decide +kernel
theorem dW_law_2146 : decode (zby mW_law) 2146 = .ok (.aload_n 0, 1) := by decide +kernel
theorem dW_law_2147 : decode (zby mW_law) 2147 = .ok (.iload 5, 2) := by decide +kernel
theorem dW_law_2149 : decode (zby mW_law) 2149 = .ok (.iconst 1, 1) := by decide +kernel
theorem dW_law_2150 : decode (zby mW_law) 2150 = .ok (.iadd, 1) := by decide +kernel
theorem dW_law_2151 : decode (zby mW_law) 2151 = .ok (.iaload, 1) := by decide +kernel
theorem dW_law_2152 : decode (zby mW_law) 2152 = .ok (.invokevirtual 283, 3) := by decide +kernel
theorem dW_law_2155 : decode (zby mW_law) 2155 = .ok (.istore 7, 2) := by decide +kernel
theorem dW_law_2157 : decode (zby mW_law) 2157 = .ok (.aload_n 2, 1) := by decide +kernel
theorem dW_law_2158 : decode (zby mW_law) 2158 = .ok (.invokevirtual 183, 3) := by decide +kernel
theorem dW_law_2161 : decode (zby mW_law) 2161 = .ok (.iload 6, 2) := by decide +kernel
theorem dW_law_2163 : decode (zby mW_law) 2163 = .ok (.if_icmp .eq 5, 3) := by decide +kernel
theorem dW_law_2168 : decode (zby mW_law) 2168 = .ok (.iload 6, 2) := by decide +kernel
theorem dW_law_2170 : decode (zby mW_law) 2170 = .ok (.ifCond .ne 15, 3) := by decide +kernel
theorem dW_law_2173 : decode (zby mW_law) 2173 = .ok (.aload_n 3, 1) := by decide +kernel
theorem dW_law_2174 : decode (zby mW_law) 2174 = .ok (.iconst 0, 1) := by decide +kernel
theorem dW_law_2175 : decode (zby mW_law) 2175 = .ok (.laload, 1) := by decide +kernel
theorem dW_law_2176 : decode (zby mW_law) 2176 = .ok (.iload 7, 2) := by decide +kernel
theorem dW_law_2178 : decode (zby mW_law) 2178 = .ok (.i2l, 1) := by decide +kernel
theorem dW_law_2179 : decode (zby mW_law) 2179 = .ok (.lcmp, 1) := by decide +kernel
theorem dW_law_2180 : decode (zby mW_law) 2180 = .ok (.ifCond .eq 5, 3) := by decide +kernel
theorem dW_law_2185 : decode (zby mW_law) 2185 = .ok (.goto 1075, 3) := by decide +kernel
