theorem dL_law_1766 : decode cL_law 1766 = .ok (.aload_n 1, 1) := by decide +kernel
theorem dL_law_1767 : decode cL_law 1767 = .ok (.iconst 1, 1) := by decide +kernel
theorem dL_law_1768 : decode cL_law 1768 = .ok (.iconst 1, 1) := by decide +kernel
theorem dL_law_1769 : decode cL_law 1769 = .ok (.iconst 4, 1) := by decide +kernel
theorem dL_law_1770 : decode cL_law 1770 = .ok (.iconst 1, 1) := by decide +kernel
theorem dL_law_1771 : decode cL_law 1771 = .ok (.iconst 1, 1) := by decide +kernel
theorem dL_law_1772 : decode cL_law 1772 = .ok (.invokevirtual 103, 3) := by decide +kernel
theorem dL_law_1775 : decode cL_law 1775 = .ok (.bipush (-2), 2) := by decide +kernel
theorem dL_law_1777 : decode cL_law 1777 = .ok (.if_icmp .eq 5, 3) := by decide +kernel
theorem dL_law_1780 : decode cL_law 1780 = .ok (.iconst 0, 1) := by decide +kernel
theorem dL_law_1781 : decode cL_law 1781 = .ok (.ireturn, 1) := by decide +kernel
theorem dL_law_1782 : decode cL_law 1782 = .ok (.aload_n 2, 1) := by decide +kernel
theorem dL_law_1783 : decode cL_law 1783 = .ok (.iconst 1, 1) := by decide +kernel
theorem dL_law_1784 : decode cL_law 1784 = .ok (.iaload, 1) := by decide +kernel
theorem dL_law_1785 : decode cL_law 1785 = .ok (.iconst 1, 1) := by decide +kernel
theorem dL_law_1786 : decode cL_law 1786 = .ok (.isub, 1) := by decide +kernel
theorem dL_law_1787 : decode cL_law 1787 = .ok (.istore 6, 2) := by decide +kernel
theorem dL_law_1789 : decode cL_law 1789 = .ok (.iload 6, 2) := by decide +kernel
theorem dL_law_1791 : decode cL_law 1791 = .ok (.ifCond .lt 34, 3) := by decide +kernel
theorem dL_law_1794 : decode cL_law 1794 = .ok (.aload_n 1, 1) := by decide +kernel
theorem dL_law_1795 : decode cL_law 1795 = .ok (.aload_n 2, 1) := by decide +kernel
theorem dL_law_1796 : decode cL_law 1796 = .ok (.bipush 14, 2) := by decide +kernel
theorem dL_law_1798 : decode cL_law 1798 = .ok (.iload 6, 2) := by decide +kernel
theorem dL_law_1800 : decode cL_law 1800 = .ok (.iadd, 1) := by decide +kernel
theorem dL_law_1801 : decode cL_law 1801 = .ok (.iaload, 1) := by decide +kernel
theorem dL_law_1802 : decode cL_law 1802 = .ok (.aload_n 2, 1) := by decide +kernel
theorem dL_law_1803 : decode cL_law 1803 = .ok (.bipush 26, 2) := by decide +kernel
theorem dL_law_1805 : decode cL_law 1805 = .ok (.iload 6, 2) := by decide +kernel
theorem dL_law_1807 : decode cL_law 1807 = .ok (.iadd, 1) := by decide +kernel
theorem dL_law_1808 : decode cL_law 1808 = .ok (.iaload, 1) := by decide +kernel
theorem dL_law_1809 : decode cL_law 1809 = .ok (.invokevirtual 49, 3) := by decide +kernel
theorem dL_law_1812 : decode cL_law 1812 = .ok (.iload 6, 2) := by decide +kernel
theorem dL_law_1814 : decode cL_law 1814 = .ok (.if_icmp .eq 5, 3) := by decide +kernel
theorem dL_law_1817 : decode cL_law 1817 = .ok (.iconst 0, 1) := by decide +kernel
theorem dL_law_1818 : decode cL_law 1818 = .ok (.ireturn, 1) := by decide +kernel
theorem dL_law_1819 : decode cL_law 1819 = .ok (.iinc 6 (-1), 3) := by decide +kernel
theorem dL_law_1822 : decode cL_law 1822 = .ok (.goto (-33), 3) := by decide +kernel
theorem dL_law_1825 : decode cL_law 1825 = .ok (.aload_n 1, 1) := by decide +kernel
theorem dL_law_1826 : decode cL_law 1826 = .ok (.iconst 1, 1) := by decide +kernel
theorem dL_law_1827 : decode cL_law 1827 = .ok (.invokevirtual 70, 3) := by decide +kernel
theorem dL_law_1830 : decode cL_law 1830 = .ok (.ifCond .ne 30, 3) := by decide +kernel
theorem dL_law_1833 : decode cL_law 1833 = .ok (.aload_n 1, 1) := by decide +kernel
theorem dL_law_1834 : decode cL_law 1834 = .ok (.iconst 2, 1) := by decide +kernel
theorem dL_law_1835 : decode cL_law 1835 = .ok (.invokevirtual 70, 3) := by decide +kernel
theorem dL_law_1838 : decode cL_law 1838 = .ok (.ifCond .ne 22, 3) := by decide +kernel
theorem dL_law_1841 : decode cL_law 1841 = .ok (.aload_n 1, 1) := by decide +kernel
theorem dL_law_1842 : decode cL_law 1842 = .ok (.invokevirtual 96, 3) := by decide +kernel
theorem dL_law_1845 : decode cL_law 1845 = .ok (.ifCond .ne 15, 3) := by decide +kernel
theorem dL_law_1848 : decode cL_law 1848 = .ok (.aload_n 1, 1) := by decide +kernel
theorem dL_law_1849 : decode cL_law 1849 = .ok (.iconst 0, 1) := by decide +kernel
theorem dL_law_1850 : decode cL_law 1850 = .ok (.invokevirtual 107, 3) := by decide +kernel
theorem dL_law_1853 : decode cL_law 1853 = .ok (.ldc2_w 111, 3) := by decide +kernel
theorem dL_law_1856 : decode cL_law 1856 = .ok (.lcmp, 1) := by decide +kernel
theorem dL_law_1857 : decode cL_law 1857 = .ok (.ifCond .eq 5, 3) := by decide +kernel
theorem dL_law_1860 : decode cL_law 1860 = .ok (.iconst 0, 1) := by decide +kernel
theorem dL_law_1861 : decode cL_law 1861 = .ok (.ireturn, 1) := by decide +kernel
theorem dL_law_1862 : decode cL_law 1862 = .ok (.iconst 0, 1) := by decide +kernel
theorem dL_law_1863 : decode cL_law 1863 = .ok (.istore 6, 2) := by decide +kernel
theorem dL_law_1865 : decode cL_law 1865 = .ok (.iload 6, 2) := by decide +kernel
theorem dL_law_1867 : decode cL_law 1867 = .ok (.iload 5, 2) := by decide +kernel
theorem dL_law_1869 : decode cL_law 1869 = .ok (.if_icmp .ge 40, 3) := by decide +kernel
theorem dL_law_1872 : decode cL_law 1872 = .ok (.aload_n 1, 1) := by decide +kernel
theorem dL_law_1873 : decode cL_law 1873 = .ok (.iload 6, 2) := by decide +kernel
theorem dL_law_1875 : decode cL_law 1875 = .ok (.bipush 6, 2) := by decide +kernel
theorem dL_law_1877 : decode cL_law 1877 = .ok (.invokevirtual 52, 3) := by decide +kernel
theorem dL_law_1880 : decode cL_law 1880 = .ok (.aload_n 2, 1) := by decide +kernel
theorem dL_law_1881 : decode cL_law 1881 = .ok (.bipush 8, 2) := by decide +kernel
theorem dL_law_1883 : decode cL_law 1883 = .ok (.iload 6, 2) := by decide +kernel
theorem dL_law_1885 : decode cL_law 1885 = .ok (.iadd, 1) := by decide +kernel
theorem dL_law_1886 : decode cL_law 1886 = .ok (.iaload, 1) := by decide +kernel
theorem dL_law_1887 : decode cL_law 1887 = .ok (.if_icmp .ne 14, 3) := by decide +kernel
theorem dL_law_1890 : decode cL_law 1890 = .ok (.aload_n 1, 1) := by decide +kernel
theorem dL_law_1891 : decode cL_law 1891 = .ok (.iload 6, 2) := by decide +kernel
theorem dL_law_1893 : decode cL_law 1893 = .ok (.iconst 2, 1) := by decide +kernel
theorem dL_law_1894 : decode cL_law 1894 = .ok (.invokevirtual 81, 3) := by decide +kernel
theorem dL_law_1897 : decode cL_law 1897 = .ok (.iconst 1, 1) := by decide +kernel
theorem dL_law_1898 : decode cL_law 1898 = .ok (.if_icmp .eq 5, 3) := by decide +kernel
theorem dL_law_1901 : decode cL_law 1901 = .ok (.iconst 0, 1) := by decide +kernel
theorem dL_law_1902 : decode cL_law 1902 = .ok (.ireturn, 1) := by decide +kernel
theorem dL_law_1903 : decode cL_law 1903 = .ok (.iinc 6 1, 3) := by decide +kernel
theorem dL_law_1906 : decode cL_law 1906 = .ok (.goto (-41), 3) := by decide +kernel
theorem dL_law_1909 : decode cL_law 1909 = .ok (.iconst 0, 1) := by decide +kernel
theorem dL_law_1910 : decode cL_law 1910 = .ok (.istore 6, 2) := by decide +kernel
theorem dL_law_1912 : decode cL_law 1912 = .ok (.iconst 0, 1) := by decide +kernel
theorem dL_law_1913 : decode cL_law 1913 = .ok (.istore 7, 2) := by decide +kernel
theorem dL_law_1915 : decode cL_law 1915 = .ok (.iload 7, 2) := by decide +kernel
theorem dL_law_1917 : decode cL_law 1917 = .ok (.iload 5, 2) := by decide +kernel
theorem dL_law_1919 : decode cL_law 1919 = .ok (.if_icmp .ge 27, 3) := by decide +kernel
theorem dL_law_1922 : decode cL_law 1922 = .ok (.aload_n 1, 1) := by decide +kernel
theorem dL_law_1923 : decode cL_law 1923 = .ok (.bipush 6, 2) := by decide +kernel
theorem dL_law_1925 : decode cL_law 1925 = .ok (.iload 7, 2) := by decide +kernel
theorem dL_law_1927 : decode cL_law 1927 = .ok (.invokevirtual 49, 3) := by decide +kernel
theorem dL_law_1930 : decode cL_law 1930 = .ok (.iinc 6 1, 3) := by decide +kernel
theorem dL_law_1933 : decode cL_law 1933 = .ok (.iload 6, 2) := by decide +kernel
theorem dL_law_1935 : decode cL_law 1935 = .ok (.if_icmp .eq 5, 3) := by decide +kernel
theorem dL_law_1938 : decode cL_law 1938 = .ok (.iconst 0, 1) := by decide +kernel
theorem dL_law_1939 : decode cL_law 1939 = .ok (.ireturn, 1) := by decide +kernel
theorem dL_law_1940 : decode cL_law 1940 = .ok (.iinc 7 1, 3) := by decide +kernel
theorem dL_law_1943 : decode cL_law 1943 = .ok (.goto (-28), 3) := by decide +kernel
theorem dL_law_1946 : decode cL_law 1946 = .ok (.iconst 1, 1) := by decide +kernel
theorem dL_law_1947 : decode cL_law 1947 = .ok (.istore 7, 2) := by decide +kernel
theorem dL_law_1949 : decode cL_law 1949 = .ok (.iload 7, 2) := by decide +kernel
theorem dL_law_1951 : decode cL_law 1951 = .ok (.iload 5, 2) := by decide +kernel
theorem dL_law_1953 : decode cL_law 1953 = .ok (.if_icmp .ge 61, 3) := by decide +kernel
theorem dL_law_1956 : decode cL_law 1956 = .ok (.iconst 0, 1) := by decide +kernel
theorem dL_law_1957 : decode cL_law 1957 = .ok (.istore 8, 2) := by decide +kernel
theorem dL_law_1959 : decode cL_law 1959 = .ok (.iload 8, 2) := by decide +kernel
theorem dL_law_1961 : decode cL_law 1961 = .ok (.iload 5, 2) := by decide +kernel
theorem dL_law_1963 : decode cL_law 1963 = .ok (.if_icmp .ge 45, 3) := by decide +kernel
theorem dL_law_1966 : decode cL_law 1966 = .ok (.aload_n 1, 1) := by decide +kernel
theorem dL_law_1967 : decode cL_law 1967 = .ok (.iload 8, 2) := by decide +kernel
theorem dL_law_1969 : decode cL_law 1969 = .ok (.iload 8, 2) := by decide +kernel
theorem dL_law_1971 : decode cL_law 1971 = .ok (.iload 7, 2) := by decide +kernel
theorem dL_law_1973 : decode cL_law 1973 = .ok (.iadd, 1) := by decide +kernel
theorem dL_law_1974 : decode cL_law 1974 = .ok (.iload 5, 2) := by decide +kernel
theorem dL_law_1976 : decode cL_law 1976 = .ok (.irem, 1) := by decide +kernel
theorem dL_law_1977 : decode cL_law 1977 = .ok (.invokevirtual 49, 3) := by decide +kernel
theorem dL_law_1980 : decode cL_law 1980 = .ok (.iload 6, 2) := by decide +kernel
theorem dL_law_1982 : decode cL_law 1982 = .ok (.bipush 12, 2) := by decide +kernel
theorem dL_law_1984 : decode cL_law 1984 = .ok (.if_icmp .ge 11, 3) := by decide +kernel
theorem dL_law_1987 : decode cL_law 1987 = .ok (.iinc 6 1, 3) := by decide +kernel
theorem dL_law_1990 : decode cL_law 1990 = .ok (.iload 6, 2) := by decide +kernel
theorem dL_law_1992 : decode cL_law 1992 = .ok (.goto 5, 3) := by decide +kernel
theorem dL_law_1995 : decode cL_law 1995 = .ok (.bipush (-4), 2) := by decide +kernel
theorem dL_law_1997 : decode cL_law 1997 = .ok (.if_icmp .eq 5, 3) := by decide +kernel
theorem dL_law_2000 : decode cL_law 2000 = .ok (.iconst 0, 1) := by decide +kernel
theorem dL_law_2001 : decode cL_law 2001 = .ok (.ireturn, 1) := by decide +kernel
theorem dL_law_2002 : decode cL_law 2002 = .ok (.iinc 8 1, 3) := by decide +kernel
theorem dL_law_2005 : decode cL_law 2005 = .ok (.goto (-46), 3) := by decide +kernel
theorem dL_law_2008 : decode cL_law 2008 = .ok (.iinc 7 1, 3) := by decide +kernel
theorem dL_law_2011 : decode cL_law 2011 = .ok (.goto (-62), 3) := by decide +kernel
theorem dL_law_2014 : decode cL_law 2014 = .ok (.aload_n 1, 1) := by decide +kernel
theorem dL_law_2015 : decode cL_law 2015 = .ok (.iconst 2, 1) := by decide +kernel
theorem dL_law_2016 : decode cL_law 2016 = .ok (.invokevirtual 70, 3) := by decide +kernel
theorem dL_law_2019 : decode cL_law 2019 = .ok (.iload 5, 2) := by decide +kernel
theorem dL_law_2021 : decode cL_law 2021 = .ok (.if_icmp .ne 79, 3) := by decide +kernel
theorem dL_law_2024 : decode cL_law 2024 = .ok (.aload_n 1, 1) := by decide +kernel
theorem dL_law_2025 : decode cL_law 2025 = .ok (.invokevirtual 96, 3) := by decide +kernel
theorem dL_law_2028 : decode cL_law 2028 = .ok (.ifCond .ne 72, 3) := by decide +kernel
theorem dL_law_2031 : decode cL_law 2031 = .ok (.aload_n 1, 1) := by decide +kernel
theorem dL_law_2032 : decode cL_law 2032 = .ok (.iconst 1, 1) := by decide +kernel
theorem dL_law_2033 : decode cL_law 2033 = .ok (.invokevirtual 70, 3) := by decide +kernel
theorem dL_law_2036 : decode cL_law 2036 = .ok (.iload 6, 2) := by decide +kernel
theorem dL_law_2038 : decode cL_law 2038 = .ok (.if_icmp .ne 62, 3) := by decide +kernel
theorem dL_law_2041 : decode cL_law 2041 = .ok (.iload 5, 2) := by decide +kernel
theorem dL_law_2043 : decode cL_law 2043 = .ok (.iconst 2, 1) := by decide +kernel
theorem dL_law_2044 : decode cL_law 2044 = .ok (.if_icmp .lt 52, 3) := by decide +kernel
theorem dL_law_2047 : decode cL_law 2047 = .ok (.aload_n 1, 1) := by decide +kernel
theorem dL_law_2048 : decode cL_law 2048 = .ok (.iconst 1, 1) := by decide +kernel
theorem dL_law_2049 : decode cL_law 2049 = .ok (.iconst 0, 1) := by decide +kernel
theorem dL_law_2050 : decode cL_law 2050 = .ok (.invokevirtual 52, 3) := by decide +kernel
theorem dL_law_2053 : decode cL_law 2053 = .ok (.bipush 6, 2) := by decide +kernel
theorem dL_law_2055 : decode cL_law 2055 = .ok (.if_icmp .ne 45, 3) := by decide +kernel
theorem dL_law_2058 : decode cL_law 2058 = .ok (.aload_n 1, 1) := by decide +kernel
theorem dL_law_2059 : decode cL_law 2059 = .ok (.invokevirtual 96, 3) := by decide +kernel
theorem dL_law_2062 : decode cL_law 2062 = .ok (.iconst 2, 1) := by decide +kernel
theorem dL_law_2063 : decode cL_law 2063 = .ok (.if_icmp .ne 37, 3) := by decide +kernel
theorem dL_law_2066 : decode cL_law 2066 = .ok (.aload_n 1, 1) := by decide +kernel
theorem dL_law_2067 : decode cL_law 2067 = .ok (.iconst 1, 1) := by decide +kernel
theorem dL_law_2068 : decode cL_law 2068 = .ok (.iconst (-1), 1) := by decide +kernel
theorem dL_law_2069 : decode cL_law 2069 = .ok (.invokevirtual 113, 3) := by decide +kernel
theorem dL_law_2072 : decode cL_law 2072 = .ok (.iconst 1, 1) := by decide +kernel
theorem dL_law_2073 : decode cL_law 2073 = .ok (.if_icmp .ne 27, 3) := by decide +kernel
theorem dL_law_2076 : decode cL_law 2076 = .ok (.aload_n 1, 1) := by decide +kernel
theorem dL_law_2077 : decode cL_law 2077 = .ok (.iconst 1, 1) := by decide +kernel
theorem dL_law_2078 : decode cL_law 2078 = .ok (.iconst 0, 1) := by decide +kernel
theorem dL_law_2079 : decode cL_law 2079 = .ok (.invokevirtual 113, 3) := by decide +kernel
theorem dL_law_2082 : decode cL_law 2082 = .ok (.iconst 1, 1) := by decide +kernel
theorem dL_law_2083 : decode cL_law 2083 = .ok (.if_icmp .ne 17, 3) := by decide +kernel
theorem dL_law_2086 : decode cL_law 2086 = .ok (.aload_n 1, 1) := by decide +kernel
theorem dL_law_2087 : decode cL_law 2087 = .ok (.iconst 1, 1) := by decide +kernel
theorem dL_law_2088 : decode cL_law 2088 = .ok (.bipush 6, 2) := by decide +kernel
theorem dL_law_2090 : decode cL_law 2090 = .ok (.invokevirtual 52, 3) := by decide +kernel
theorem dL_law_2093 : decode cL_law 2093 = .ok (.ifCond .ne 7, 3) := by decide +kernel
theorem dL_law_2096 : decode cL_law 2096 = .ok (.iconst 1, 1) := by decide +kernel
theorem dL_law_2097 : decode cL_law 2097 = .ok (.goto 4, 3) := by decide +kernel
theorem dL_law_2100 : decode cL_law 2100 = .ok (.iconst 0, 1) := by decide +kernel
theorem dL_law_2101 : decode cL_law 2101 = .ok (.ireturn, 1) := by decide +kernel
set_option maxRecDepth 20000 in
theorem ggL_can_L_place : GoodIn wsL_can wsL_place := goodIn_r _ [4] (by decide +kernel) (by decide +kernel)
set_option maxRecDepth 20000 in
theorem gL_can_L_place : GoodIn wsL_can (va_wsS RL 28 yL_place wsL_place) := goodIn_app (goodIn_of _ (by decide +kernel)) ggL_can_L_place
set_option maxRecDepth 20000 in
theorem ggL_can_L_under : GoodIn wsL_can wsL_under := goodIn_r _ [7] (by decide +kernel) (by decide +kernel)
set_option maxRecDepth 20000 in
theorem gL_can_L_under : GoodIn wsL_can (va_wsS RL 45 yL_under wsL_under) := goodIn_app (goodIn_of _ (by decide +kernel)) ggL_can_L_under
theorem dL_can_0 : decode cL_can 0 = .ok (.aload_n 0, 1) := by decide +kernel
theorem dL_can_1 : decode cL_can 1 = .ok (.iconst 0, 1) := by decide +kernel
theorem dL_can_2 : decode cL_can 2 = .ok (.iaload, 1) := by decide +kernel
theorem dL_can_3 : decode cL_can 3 = .ok (.istore 4, 2) := by decide +kernel
theorem dL_can_5 : decode cL_can 5 = .ok (.iload_n 2, 1) := by decide +kernel
theorem dL_can_6 : decode cL_can 6 = .ok (.iload_n 3, 1) := by decide +kernel
theorem dL_can_7 : decode cL_can 7 = .ok (.if_icmp .eq 65, 3) := by decide +kernel
theorem dL_can_10 : decode cL_can 10 = .ok (.iload_n 2, 1) := by decide +kernel
theorem dL_can_11 : decode cL_can 11 = .ok (.ifCond .lt 61, 3) := by decide +kernel
theorem dL_can_14 : decode cL_can 14 = .ok (.iload_n 3, 1) := by decide +kernel
theorem dL_can_15 : decode cL_can 15 = .ok (.ifCond .lt 57, 3) := by decide +kernel
theorem dL_can_18 : decode cL_can 18 = .ok (.iload_n 1, 1) := by decide +kernel
theorem dL_can_19 : decode cL_can 19 = .ok (.ifCond .eq 9, 3) := by decide +kernel
theorem dL_can_22 : decode cL_can 22 = .ok (.iload_n 2, 1) := by decide +kernel
theorem dL_can_23 : decode cL_can 23 = .ok (.iload 4, 2) := by decide +kernel
theorem dL_can_25 : decode cL_can 25 = .ok (.if_icmp .ge 47, 3) := by decide +kernel
theorem dL_can_28 : decode cL_can 28 = .ok (.iload_n 1, 1) := by decide +kernel
theorem dL_can_29 : decode cL_can 29 = .ok (.ifCond .ne 15, 3) := by decide +kernel
theorem dL_can_32 : decode cL_can 32 = .ok (.iload_n 2, 1) := by decide +kernel
theorem dL_can_33 : decode cL_can 33 = .ok (.iload 4, 2) := by decide +kernel
theorem dL_can_35 : decode cL_can 35 = .ok (.if_icmp .lt 9, 3) := by decide +kernel
theorem dL_can_38 : decode cL_can 38 = .ok (.iload_n 2, 1) := by decide +kernel
theorem dL_can_39 : decode cL_can 39 = .ok (.bipush 6, 2) := by decide +kernel
theorem dL_can_41 : decode cL_can 41 = .ok (.if_icmp .ne 31, 3) := by decide +kernel
theorem dL_can_44 : decode cL_can 44 = .ok (.iload_n 1, 1) := by decide +kernel
theorem dL_can_45 : decode cL_can 45 = .ok (.iconst 1, 1) := by decide +kernel
theorem dL_can_46 : decode cL_can 46 = .ok (.if_icmp .eq 9, 3) := by decide +kernel
theorem dL_can_49 : decode cL_can 49 = .ok (.iload_n 3, 1) := by decide +kernel
theorem dL_can_50 : decode cL_can 50 = .ok (.iload 4, 2) := by decide +kernel
theorem dL_can_52 : decode cL_can 52 = .ok (.if_icmp .ge 20, 3) := by decide +kernel
theorem dL_can_55 : decode cL_can 55 = .ok (.iload_n 1, 1) := by decide +kernel
theorem dL_can_56 : decode cL_can 56 = .ok (.iconst 1, 1) := by decide +kernel
theorem dL_can_57 : decode cL_can 57 = .ok (.if_icmp .ne 17, 3) := by decide +kernel
theorem dL_can_60 : decode cL_can 60 = .ok (.iload_n 3, 1) := by decide +kernel
theorem dL_can_61 : decode cL_can 61 = .ok (.iload 4, 2) := by decide +kernel
theorem dL_can_63 : decode cL_can 63 = .ok (.if_icmp .lt 11, 3) := by decide +kernel
theorem dL_can_66 : decode cL_can 66 = .ok (.iload_n 3, 1) := by decide +kernel
theorem dL_can_67 : decode cL_can 67 = .ok (.bipush 6, 2) := by decide +kernel
theorem dL_can_69 : decode cL_can 69 = .ok (.if_icmp .eq 5, 3) := by decide +kernel
theorem dL_can_72 : decode cL_can 72 = .ok (.iconst 0, 1) := by decide +kernel
theorem dL_can_73 : decode cL_can 73 = .ok (.ireturn, 1) := by decide +kernel
theorem dL_can_74 : decode cL_can 74 = .ok (.iload_n 1, 1) := by decide +kernel
theorem dL_can_75 : decode cL_can 75 = .ok (.ifCond .ne 26, 3) := by decide +kernel
theorem dL_can_78 : decode cL_can 78 = .ok (.aload_n 0, 1) := by decide +kernel
theorem dL_can_79 : decode cL_can 79 = .ok (.iconst 1, 1) := by decide +kernel
theorem dL_can_80 : decode cL_can 80 = .ok (.iaload, 1) := by decide +kernel
theorem dL_can_81 : decode cL_can 81 = .ok (.bipush 12, 2) := by decide +kernel
theorem dL_can_83 : decode cL_can 83 = .ok (.if_icmp .lt 12, 3) := by decide +kernel
theorem dL_can_86 : decode cL_can 86 = .ok (.aload_n 0, 1) := by decide +kernel
theorem dL_can_87 : decode cL_can 87 = .ok (.iload_n 2, 1) := by decide +kernel
theorem dL_can_88 : decode cL_can 88 = .ok (.iload_n 3, 1) := by decide +kernel
theorem dL_can_89 : decode cL_can 89 = .ok (.invokestatic 28, 3) := by decide +kernel
theorem dL_can_92 : decode cL_can 92 = .ok (.ifCond .lt 7, 3) := by decide +kernel
theorem dL_can_95 : decode cL_can 95 = .ok (.iconst 1, 1) := by decide +kernel
theorem dL_can_96 : decode cL_can 96 = .ok (.goto 4, 3) := by decide +kernel
theorem dL_can_99 : decode cL_can 99 = .ok (.iconst 0, 1) := by decide +kernel
theorem dL_can_100 : decode cL_can 100 = .ok (.ireturn, 1) := by decide +kernel
theorem dL_can_101 : decode cL_can 101 = .ok (.iload_n 1, 1) := by decide +kernel
theorem dL_can_102 : decode cL_can 102 = .ok (.iconst 1, 1) := by decide +kernel
theorem dL_can_103 : decode cL_can 103 = .ok (.if_icmp .ne 24, 3) := by decide +kernel
theorem dL_can_106 : decode cL_can 106 = .ok (.iload_n 3, 1) := by decide +kernel
theorem dL_can_107 : decode cL_can 107 = .ok (.bipush 6, 2) := by decide +kernel
theorem dL_can_109 : decode cL_can 109 = .ok (.if_icmp .eq 12, 3) := by decide +kernel
theorem dL_can_112 : decode cL_can 112 = .ok (.aload_n 0, 1) := by decide +kernel
theorem dL_can_113 : decode cL_can 113 = .ok (.iload_n 3, 1) := by decide +kernel
theorem dL_can_114 : decode cL_can 114 = .ok (.iload_n 2, 1) := by decide +kernel
theorem dL_can_115 : decode cL_can 115 = .ok (.invokestatic 45, 3) := by decide +kernel
theorem dL_can_118 : decode cL_can 118 = .ok (.ifCond .ne 7, 3) := by decide +kernel
theorem dL_can_121 : decode cL_can 121 = .ok (.iconst 1, 1) := by decide +kernel
theorem dL_can_122 : decode cL_can 122 = .ok (.goto 4, 3) := by decide +kernel
theorem dL_can_125 : decode cL_can 125 = .ok (.iconst 0, 1) := by decide +kernel
theorem dL_can_126 : decode cL_can 126 = .ok (.ireturn, 1) := by decide +kernel
theorem dL_can_127 : decode cL_can 127 = .ok (.iconst 0, 1) := by decide +kernel
theorem dL_can_128 : decode cL_can 128 = .ok (.istore 5, 2) := by decide +kernel
theorem dL_can_130 : decode cL_can 130 = .ok (.iconst 0, 1) := by decide +kernel
theorem dL_can_131 : decode cL_can 131 = .ok (.istore 6, 2) := by decide +kernel
theorem dL_can_133 : decode cL_can 133 = .ok (.iconst 0, 1) := by decide +kernel
theorem dL_can_134 : decode cL_can 134 = .ok (.istore 7, 2) := by decide +kernel
theorem dL_can_136 : decode cL_can 136 = .ok (.iload 7, 2) := by decide +kernel
theorem dL_can_138 : decode cL_can 138 = .ok (.aload_n 0, 1) := by decide +kernel
theorem dL_can_139 : decode cL_can 139 = .ok (.iconst 1, 1) := by decide +kernel
theorem dL_can_140 : decode cL_can 140 = .ok (.iaload, 1) := by decide +kernel
theorem dL_can_141 : decode cL_can 141 = .ok (.if_icmp .ge 35, 3) := by decide +kernel
theorem dL_can_144 : decode cL_can 144 = .ok (.aload_n 0, 1) := by decide +kernel
theorem dL_can_145 : decode cL_can 145 = .ok (.bipush 26, 2) := by decide +kernel
theorem dL_can_147 : decode cL_can 147 = .ok (.iload 7, 2) := by decide +kernel
theorem dL_can_149 : decode cL_can 149 = .ok (.iadd, 1) := by decide +kernel
theorem dL_can_150 : decode cL_can 150 = .ok (.iaload, 1) := by decide +kernel
theorem dL_can_151 : decode cL_can 151 = .ok (.iload_n 2, 1) := by decide +kernel
theorem dL_can_152 : decode cL_can 152 = .ok (.if_icmp .eq 6, 3) := by decide +kernel
theorem dL_can_155 : decode cL_can 155 = .ok (.goto 15, 3) := by decide +kernel
theorem dL_can_158 : decode cL_can 158 = .ok (.iinc 5 1, 3) := by decide +kernel
theorem dL_can_161 : decode cL_can 161 = .ok (.aload_n 0, 1) := by decide +kernel
theorem dL_can_162 : decode cL_can 162 = .ok (.bipush 14, 2) := by decide +kernel
theorem dL_can_164 : decode cL_can 164 = .ok (.iload 7, 2) := by decide +kernel
theorem dL_can_166 : decode cL_can 166 = .ok (.iadd, 1) := by decide +kernel
theorem dL_can_167 : decode cL_can 167 = .ok (.iaload, 1) := by decide +kernel
theorem dL_can_168 : decode cL_can 168 = .ok (.istore 6, 2) := by decide +kernel
theorem dL_can_170 : decode cL_can 170 = .ok (.iinc 7 1, 3) := by decide +kernel
theorem dL_can_173 : decode cL_can 173 = .ok (.goto (-37), 3) := by decide +kernel
theorem dL_can_176 : decode cL_can 176 = .ok (.aload_n 0, 1) := by decide +kernel
theorem dL_can_177 : decode cL_can 177 = .ok (.iload_n 3, 1) := by decide +kernel
theorem dL_can_178 : decode cL_can 178 = .ok (.iload_n 2, 1) := by decide +kernel
theorem dL_can_179 : decode cL_can 179 = .ok (.invokestatic 45, 3) := by decide +kernel
theorem dL_can_182 : decode cL_can 182 = .ok (.ifCond .ne 19, 3) := by decide +kernel
theorem dL_can_185 : decode cL_can 185 = .ok (.iload 5, 2) := by decide +kernel
theorem dL_can_187 : decode cL_can 187 = .ok (.iconst 1, 1) := by decide +kernel
theorem dL_can_188 : decode cL_can 188 = .ok (.if_icmp .ne 13, 3) := by decide +kernel
theorem dL_can_191 : decode cL_can 191 = .ok (.iload 6, 2) := by decide +kernel
theorem dL_can_193 : decode cL_can 193 = .ok (.iload_n 3, 1) := by decide +kernel
theorem dL_can_194 : decode cL_can 194 = .ok (.if_icmp .eq 7, 3) := by decide +kernel
theorem dL_can_197 : decode cL_can 197 = .ok (.iconst 1, 1) := by decide +kernel
theorem dL_can_198 : decode cL_can 198 = .ok (.goto 4, 3) := by decide +kernel
theorem dL_can_201 : decode cL_can 201 = .ok (.iconst 0, 1) := by decide +kernel
theorem dL_can_202 : decode cL_can 202 = .ok (.ireturn, 1) := by decide +kernel
