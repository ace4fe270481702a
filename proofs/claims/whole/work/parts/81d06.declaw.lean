theorem dL_law_1733 : decode cL_law 1733 = .ok (.iconst 1, 1) := by decide +kernel
theorem dL_law_1734 : decode cL_law 1734 = .ok (.iadd, 1) := by decide +kernel
theorem dL_law_1735 : decode cL_law 1735 = .ok (.iaload, 1) := by decide +kernel
theorem dL_law_1736 : decode cL_law 1736 = .ok (.invokevirtual 299, 3) := by decide +kernel
theorem dL_law_1739 : decode cL_law 1739 = .ok (.istore 6, 2) := by decide +kernel
theorem dL_law_1741 : decode cL_law 1741 = .ok (.aload_n 2, 1) := by decide +kernel
theorem dL_law_1742 : decode cL_law 1742 = .ok (.invokevirtual 205, 3) := by decide +kernel
theorem dL_law_1745 : decode cL_law 1745 = .ok (.iload 5, 2) := by decide +kernel
theorem dL_law_1747 : decode cL_law 1747 = .ok (.if_icmp .eq 5, 3) := by decide +kernel
theorem dL_law_1750 : decode cL_law 1750 = .ok (.iconst 0, 1) := by decide +kernel
theorem dL_law_1751 : decode cL_law 1751 = .ok (.ireturn, 1) := by decide +kernel
theorem dL_law_1752 : decode cL_law 1752 = .ok (.iload 5, 2) := by decide +kernel
theorem dL_law_1754 : decode cL_law 1754 = .ok (.ifCond .ne 15, 3) := by decide +kernel
theorem dL_law_1757 : decode cL_law 1757 = .ok (.aload_n 3, 1) := by decide +kernel
theorem dL_law_1758 : decode cL_law 1758 = .ok (.iconst 0, 1) := by decide +kernel
theorem dL_law_1759 : decode cL_law 1759 = .ok (.laload, 1) := by decide +kernel
theorem dL_law_1760 : decode cL_law 1760 = .ok (.iload 6, 2) := by decide +kernel
theorem dL_law_1762 : decode cL_law 1762 = .ok (.i2l, 1) := by decide +kernel
theorem dL_law_1763 : decode cL_law 1763 = .ok (.lcmp, 1) := by decide +kernel
theorem dL_law_1764 : decode cL_law 1764 = .ok (.ifCond .eq 5, 3) := by decide +kernel
theorem dL_law_1767 : decode cL_law 1767 = .ok (.iconst 0, 1) := by decide +kernel
theorem dL_law_1768 : decode cL_law 1768 = .ok (.ireturn, 1) := by decide +kernel
theorem dL_law_1769 : decode cL_law 1769 = .ok (.goto 2071, 3) := by decide +kernel
theorem dL_law_1772 : decode cL_law 1772 = .ok (.aload_n 1, 1) := by decide +kernel
theorem dL_law_1773 : decode cL_law 1773 = .ok (.aload_n 0, 1) := by decide +kernel
theorem dL_law_1774 : decode cL_law 1774 = .ok (.iload 4, 2) := by decide +kernel
theorem dL_law_1776 : decode cL_law 1776 = .ok (.iconst 1, 1) := by decide +kernel
theorem dL_law_1777 : decode cL_law 1777 = .ok (.iadd, 1) := by decide +kernel
theorem dL_law_1778 : decode cL_law 1778 = .ok (.iaload, 1) := by decide +kernel
theorem dL_law_1779 : decode cL_law 1779 = .ok (.aload_n 3, 1) := by decide +kernel
theorem dL_law_1780 : decode cL_law 1780 = .ok (.invokestatic 300, 3) := by decide +kernel
theorem dL_law_1783 : decode cL_law 1783 = .ok (.istore 5, 2) := by decide +kernel
theorem dL_law_1785 : decode cL_law 1785 = .ok (.aload_n 2, 1) := by decide +kernel
theorem dL_law_1786 : decode cL_law 1786 = .ok (.aload_n 0, 1) := by decide +kernel
theorem dL_law_1787 : decode cL_law 1787 = .ok (.iload 4, 2) := by decide +kernel
theorem dL_law_1789 : decode cL_law 1789 = .ok (.iconst 1, 1) := by decide +kernel
theorem dL_law_1790 : decode cL_law 1790 = .ok (.iadd, 1) := by decide +kernel
theorem dL_law_1791 : decode cL_law 1791 = .ok (.iaload, 1) := by decide +kernel
theorem dL_law_1792 : decode cL_law 1792 = .ok (.invokevirtual 302, 3) := by decide +kernel
theorem dL_law_1795 : decode cL_law 1795 = .ok (.istore 6, 2) := by decide +kernel
theorem dL_law_1797 : decode cL_law 1797 = .ok (.aload_n 2, 1) := by decide +kernel
theorem dL_law_1798 : decode cL_law 1798 = .ok (.invokevirtual 205, 3) := by decide +kernel
theorem dL_law_1801 : decode cL_law 1801 = .ok (.iload 5, 2) := by decide +kernel
theorem dL_law_1803 : decode cL_law 1803 = .ok (.if_icmp .eq 5, 3) := by decide +kernel
theorem dL_law_1806 : decode cL_law 1806 = .ok (.iconst 0, 1) := by decide +kernel
theorem dL_law_1807 : decode cL_law 1807 = .ok (.ireturn, 1) := by decide +kernel
theorem dL_law_1808 : decode cL_law 1808 = .ok (.iload 5, 2) := by decide +kernel
theorem dL_law_1810 : decode cL_law 1810 = .ok (.ifCond .ne 15, 3) := by decide +kernel
theorem dL_law_1813 : decode cL_law 1813 = .ok (.aload_n 3, 1) := by decide +kernel
theorem dL_law_1814 : decode cL_law 1814 = .ok (.iconst 0, 1) := by decide +kernel
theorem dL_law_1815 : decode cL_law 1815 = .ok (.laload, 1) := by decide +kernel
theorem dL_law_1816 : decode cL_law 1816 = .ok (.iload 6, 2) := by decide +kernel
theorem dL_law_1818 : decode cL_law 1818 = .ok (.i2l, 1) := by decide +kernel
theorem dL_law_1819 : decode cL_law 1819 = .ok (.lcmp, 1) := by decide +kernel
theorem dL_law_1820 : decode cL_law 1820 = .ok (.ifCond .eq 5, 3) := by decide +kernel
theorem dL_law_1823 : decode cL_law 1823 = .ok (.iconst 0, 1) := by decide +kernel
theorem dL_law_1824 : decode cL_law 1824 = .ok (.ireturn, 1) := by decide +kernel
theorem dL_law_1825 : decode cL_law 1825 = .ok (.goto 2015, 3) := by decide +kernel
theorem dL_law_1828 : decode cL_law 1828 = .ok (.aload_n 1, 1) := by decide +kernel
theorem dL_law_1829 : decode cL_law 1829 = .ok (.aload_n 0, 1) := by decide +kernel
theorem dL_law_1830 : decode cL_law 1830 = .ok (.iload 4, 2) := by decide +kernel
theorem dL_law_1832 : decode cL_law 1832 = .ok (.iconst 1, 1) := by decide +kernel
theorem dL_law_1833 : decode cL_law 1833 = .ok (.iadd, 1) := by decide +kernel
theorem dL_law_1834 : decode cL_law 1834 = .ok (.iaload, 1) := by decide +kernel
theorem dL_law_1835 : decode cL_law 1835 = .ok (.aload_n 3, 1) := by decide +kernel
theorem dL_law_1836 : decode cL_law 1836 = .ok (.invokestatic 303, 3) := by decide +kernel
theorem dL_law_1839 : decode cL_law 1839 = .ok (.istore 5, 2) := by decide +kernel
theorem dL_law_1841 : decode cL_law 1841 = .ok (.aload_n 2, 1) := by decide +kernel
theorem dL_law_1842 : decode cL_law 1842 = .ok (.aload_n 0, 1) := by decide +kernel
theorem dL_law_1843 : decode cL_law 1843 = .ok (.iload 4, 2) := by decide +kernel
theorem dL_law_1845 : decode cL_law 1845 = .ok (.iconst 1, 1) := by decide +kernel
theorem dL_law_1846 : decode cL_law 1846 = .ok (.iadd, 1) := by decide +kernel
theorem dL_law_1847 : decode cL_law 1847 = .ok (.iaload, 1) := by decide +kernel
theorem dL_law_1848 : decode cL_law 1848 = .ok (.invokevirtual 305, 3) := by decide +kernel
theorem dL_law_1851 : decode cL_law 1851 = .ok (.istore 6, 2) := by decide +kernel
theorem dL_law_1853 : decode cL_law 1853 = .ok (.aload_n 2, 1) := by decide +kernel
theorem dL_law_1854 : decode cL_law 1854 = .ok (.invokevirtual 205, 3) := by decide +kernel
theorem dL_law_1857 : decode cL_law 1857 = .ok (.iload 5, 2) := by decide +kernel
theorem dL_law_1859 : decode cL_law 1859 = .ok (.if_icmp .eq 5, 3) := by decide +kernel
theorem dL_law_1862 : decode cL_law 1862 = .ok (.iconst 0, 1) := by decide +kernel
theorem dL_law_1863 : decode cL_law 1863 = .ok (.ireturn, 1) := by decide +kernel
theorem dL_law_1864 : decode cL_law 1864 = .ok (.iload 5, 2) := by decide +kernel
theorem dL_law_1866 : decode cL_law 1866 = .ok (.ifCond .ne 15, 3) := by decide +kernel
theorem dL_law_1869 : decode cL_law 1869 = .ok (.aload_n 3, 1) := by decide +kernel
theorem dL_law_1870 : decode cL_law 1870 = .ok (.iconst 0, 1) := by decide +kernel
theorem dL_law_1871 : decode cL_law 1871 = .ok (.laload, 1) := by decide +kernel
theorem dL_law_1872 : decode cL_law 1872 = .ok (.iload 6, 2) := by decide +kernel
theorem dL_law_1874 : decode cL_law 1874 = .ok (.i2l, 1) := by decide +kernel
theorem dL_law_1875 : decode cL_law 1875 = .ok (.lcmp, 1) := by decide +kernel
theorem dL_law_1876 : decode cL_law 1876 = .ok (.ifCond .eq 5, 3) := by decide +kernel
theorem dL_law_1879 : decode cL_law 1879 = .ok (.iconst 0, 1) := by decide +kernel
theorem dL_law_1880 : decode cL_law 1880 = .ok (.ireturn, 1) := by decide +kernel
theorem dL_law_1881 : decode cL_law 1881 = .ok (.goto 1959, 3) := by decide +kernel
theorem dL_law_1884 : decode cL_law 1884 = .ok (.aload_n 1, 1) := by decide +kernel
theorem dL_law_1885 : decode cL_law 1885 = .ok (.aload_n 0, 1) := by decide +kernel
theorem dL_law_1886 : decode cL_law 1886 = .ok (.iload 4, 2) := by decide +kernel
theorem dL_law_1888 : decode cL_law 1888 = .ok (.iconst 1, 1) := by decide +kernel
theorem dL_law_1889 : decode cL_law 1889 = .ok (.iadd, 1) := by decide +kernel
theorem dL_law_1890 : decode cL_law 1890 = .ok (.iaload, 1) := by decide +kernel
theorem dL_law_1891 : decode cL_law 1891 = .ok (.aload_n 3, 1) := by decide +kernel
theorem dL_law_1892 : decode cL_law 1892 = .ok (.invokestatic 306, 3) := by decide +kernel
theorem dL_law_1895 : decode cL_law 1895 = .ok (.istore 5, 2) := by decide +kernel
theorem dL_law_1897 : decode cL_law 1897 = .ok (.aload_n 2, 1) := by decide +kernel
theorem dL_law_1898 : decode cL_law 1898 = .ok (.aload_n 0, 1) := by decide +kernel
theorem dL_law_1899 : decode cL_law 1899 = .ok (.iload 4, 2) := by decide +kernel
theorem dL_law_1901 : decode cL_law 1901 = .ok (.iconst 1, 1) := by decide +kernel
theorem dL_law_1902 : decode cL_law 1902 = .ok (.iadd, 1) := by decide +kernel
theorem dL_law_1903 : decode cL_law 1903 = .ok (.iaload, 1) := by decide +kernel
theorem dL_law_1904 : decode cL_law 1904 = .ok (.invokevirtual 308, 3) := by decide +kernel
theorem dL_law_1907 : decode cL_law 1907 = .ok (.istore 6, 2) := by decide +kernel
theorem dL_law_1909 : decode cL_law 1909 = .ok (.aload_n 2, 1) := by decide +kernel
theorem dL_law_1910 : decode cL_law 1910 = .ok (.invokevirtual 205, 3) := by decide +kernel
theorem dL_law_1913 : decode cL_law 1913 = .ok (.iload 5, 2) := by decide +kernel
theorem dL_law_1915 : decode cL_law 1915 = .ok (.if_icmp .eq 5, 3) := by decide +kernel
theorem dL_law_1918 : decode cL_law 1918 = .ok (.iconst 0, 1) := by decide +kernel
theorem dL_law_1919 : decode cL_law 1919 = .ok (.ireturn, 1) := by decide +kernel
theorem dL_law_1920 : decode cL_law 1920 = .ok (.iload 5, 2) := by decide +kernel
theorem dL_law_1922 : decode cL_law 1922 = .ok (.ifCond .ne 22, 3) := by decide +kernel
theorem dL_law_1925 : decode cL_law 1925 = .ok (.aload_n 3, 1) := by decide +kernel
theorem dL_law_1926 : decode cL_law 1926 = .ok (.iconst 0, 1) := by decide +kernel
theorem dL_law_1927 : decode cL_law 1927 = .ok (.laload, 1) := by decide +kernel
theorem dL_law_1928 : decode cL_law 1928 = .ok (.iload 6, 2) := by decide +kernel
theorem dL_law_1930 : decode cL_law 1930 = .ok (.ifCond .eq 7, 3) := by decide +kernel
theorem dL_law_1933 : decode cL_law 1933 = .ok (.lconst 1, 1) := by decide +kernel
theorem dL_law_1934 : decode cL_law 1934 = .ok (.goto 4, 3) := by decide +kernel
theorem dL_law_1937 : decode cL_law 1937 = .ok (.lconst 0, 1) := by decide +kernel
theorem dL_law_1938 : decode cL_law 1938 = .ok (.lcmp, 1) := by decide +kernel
theorem dL_law_1939 : decode cL_law 1939 = .ok (.ifCond .eq 5, 3) := by decide +kernel
theorem dL_law_1942 : decode cL_law 1942 = .ok (.iconst 0, 1) := by decide +kernel
theorem dL_law_1943 : decode cL_law 1943 = .ok (.ireturn, 1) := by decide +kernel
theorem dL_law_1944 : decode cL_law 1944 = .ok (.goto 1896, 3) := by decide +kernel
theorem dL_law_1947 : decode cL_law 1947 = .ok (.aload_n 1, 1) := by decide +kernel
theorem dL_law_1948 : decode cL_law 1948 = .ok (.aload_n 0, 1) := by decide +kernel
theorem dL_law_1949 : decode cL_law 1949 = .ok (.iload 4, 2) := by decide +kernel
theorem dL_law_1951 : decode cL_law 1951 = .ok (.iconst 1, 1) := by decide +kernel
theorem dL_law_1952 : decode cL_law 1952 = .ok (.iadd, 1) := by decide +kernel
theorem dL_law_1953 : decode cL_law 1953 = .ok (.iaload, 1) := by decide +kernel
theorem dL_law_1954 : decode cL_law 1954 = .ok (.aload_n 3, 1) := by decide +kernel
theorem dL_law_1955 : decode cL_law 1955 = .ok (.invokestatic 309, 3) := by decide +kernel
theorem dL_law_1958 : decode cL_law 1958 = .ok (.istore 5, 2) := by decide +kernel
theorem dL_law_1960 : decode cL_law 1960 = .ok (.aload_n 2, 1) := by decide +kernel
theorem dL_law_1961 : decode cL_law 1961 = .ok (.aload_n 0, 1) := by decide +kernel
theorem dL_law_1962 : decode cL_law 1962 = .ok (.iload 4, 2) := by decide +kernel
theorem dL_law_1964 : decode cL_law 1964 = .ok (.iconst 1, 1) := by decide +kernel
theorem dL_law_1965 : decode cL_law 1965 = .ok (.iadd, 1) := by decide +kernel
theorem dL_law_1966 : decode cL_law 1966 = .ok (.iaload, 1) := by decide +kernel
theorem dL_law_1967 : decode cL_law 1967 = .ok (.invokevirtual 311, 3) := by decide +kernel
theorem dL_law_1970 : decode cL_law 1970 = .ok (.istore 6, 2) := by decide +kernel
theorem dL_law_1972 : decode cL_law 1972 = .ok (.aload_n 2, 1) := by decide +kernel
theorem dL_law_1973 : decode cL_law 1973 = .ok (.invokevirtual 205, 3) := by decide +kernel
