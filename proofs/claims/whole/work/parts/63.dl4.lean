theorem dL_law_1888 : decode cL_law 1888 = .ok (.lcmp, 1) := by decide +kernel
theorem dL_law_1889 : decode cL_law 1889 = .ok (.ifCond .eq 5, 3) := by decide +kernel
theorem dL_law_1892 : decode cL_law 1892 = .ok (.iconst 0, 1) := by decide +kernel
theorem dL_law_1893 : decode cL_law 1893 = .ok (.ireturn, 1) := by decide +kernel
theorem dL_law_1894 : decode cL_law 1894 = .ok (.goto 887, 3) := by decide +kernel
theorem dL_law_1897 : decode cL_law 1897 = .ok (.aload_n 1, 1) := by decide +kernel
theorem dL_law_1898 : decode cL_law 1898 = .ok (.aload_n 0, 1) := by decide +kernel
theorem dL_law_1899 : decode cL_law 1899 = .ok (.iload 5, 2) := by decide +kernel
theorem dL_law_1901 : decode cL_law 1901 = .ok (.iconst 1, 1) := by decide +kernel
theorem dL_law_1902 : decode cL_law 1902 = .ok (.iadd, 1) := by decide +kernel
theorem dL_law_1903 : decode cL_law 1903 = .ok (.iaload, 1) := by decide +kernel
theorem dL_law_1904 : decode cL_law 1904 = .ok (.aload_n 3, 1) := by decide +kernel
theorem dL_law_1905 : decode cL_law 1905 = .ok (.invokestatic 256, 3) := by decide +kernel
theorem dL_law_1908 : decode cL_law 1908 = .ok (.istore 6, 2) := by decide +kernel
theorem dL_law_1910 : decode cL_law 1910 = .ok (.aload_n 2, 1) := by decide +kernel
theorem dL_law_1911 : decode cL_law 1911 = .ok (.aload_n 0, 1) := by decide +kernel
theorem dL_law_1912 : decode cL_law 1912 = .ok (.iload 5, 2) := by decide +kernel
theorem dL_law_1914 : decode cL_law 1914 = .ok (.iconst 1, 1) := by decide +kernel
theorem dL_law_1915 : decode cL_law 1915 = .ok (.iadd, 1) := by decide +kernel
theorem dL_law_1916 : decode cL_law 1916 = .ok (.iaload, 1) := by decide +kernel
theorem dL_law_1917 : decode cL_law 1917 = .ok (.invokevirtual 258, 3) := by decide +kernel
theorem dL_law_1920 : decode cL_law 1920 = .ok (.istore 7, 2) := by decide +kernel
theorem dL_law_1922 : decode cL_law 1922 = .ok (.aload_n 2, 1) := by decide +kernel
theorem dL_law_1923 : decode cL_law 1923 = .ok (.invokevirtual 155, 3) := by decide +kernel
theorem dL_law_1926 : decode cL_law 1926 = .ok (.iload 6, 2) := by decide +kernel
theorem dL_law_1928 : decode cL_law 1928 = .ok (.if_icmp .eq 5, 3) := by decide +kernel
theorem dL_law_1931 : decode cL_law 1931 = .ok (.iconst 0, 1) := by decide +kernel
theorem dL_law_1932 : decode cL_law 1932 = .ok (.ireturn, 1) := by decide +kernel
theorem dL_law_1933 : decode cL_law 1933 = .ok (.iload 6, 2) := by decide +kernel
theorem dL_law_1935 : decode cL_law 1935 = .ok (.ifCond .ne 15, 3) := by decide +kernel
theorem dL_law_1938 : decode cL_law 1938 = .ok (.aload_n 3, 1) := by decide +kernel
theorem dL_law_1939 : decode cL_law 1939 = .ok (.iconst 0, 1) := by decide +kernel
theorem dL_law_1940 : decode cL_law 1940 = .ok (.laload, 1) := by decide +kernel
theorem dL_law_1941 : decode cL_law 1941 = .ok (.iload 7, 2) := by decide +kernel
theorem dL_law_1943 : decode cL_law 1943 = .ok (.i2l, 1) := by decide +kernel
theorem dL_law_1944 : decode cL_law 1944 = .ok (.lcmp, 1) := by decide +kernel
theorem dL_law_1945 : decode cL_law 1945 = .ok (.ifCond .eq 5, 3) := by decide +kernel
theorem dL_law_1948 : decode cL_law 1948 = .ok (.iconst 0, 1) := by decide +kernel
theorem dL_law_1949 : decode cL_law 1949 = .ok (.ireturn, 1) := by decide +kernel
theorem dL_law_1950 : decode cL_law 1950 = .ok (.goto 831, 3) := by decide +kernel
theorem dL_law_1953 : decode cL_law 1953 = .ok (.aload_n 1, 1) := by decide +kernel
theorem dL_law_1954 : decode cL_law 1954 = .ok (.aload_n 0, 1) := by decide +kernel
theorem dL_law_1955 : decode cL_law 1955 = .ok (.iload 5, 2) := by decide +kernel
theorem dL_law_1957 : decode cL_law 1957 = .ok (.iconst 1, 1) := by decide +kernel
theorem dL_law_1958 : decode cL_law 1958 = .ok (.iadd, 1) := by decide +kernel
theorem dL_law_1959 : decode cL_law 1959 = .ok (.iaload, 1) := by decide +kernel
theorem dL_law_1960 : decode cL_law 1960 = .ok (.aload_n 3, 1) := by decide +kernel
theorem dL_law_1961 : decode cL_law 1961 = .ok (.invokestatic 259, 3) := by decide +kernel
theorem dL_law_1964 : decode cL_law 1964 = .ok (.istore 6, 2) := by decide +kernel
theorem dL_law_1966 : decode cL_law 1966 = .ok (.aload_n 2, 1) := by decide +kernel
theorem dL_law_1967 : decode cL_law 1967 = .ok (.aload_n 0, 1) := by decide +kernel
theorem dL_law_1968 : decode cL_law 1968 = .ok (.iload 5, 2) := by decide +kernel
theorem dL_law_1970 : decode cL_law 1970 = .ok (.iconst 1, 1) := by decide +kernel
theorem dL_law_1971 : decode cL_law 1971 = .ok (.iadd, 1) := by decide +kernel
theorem dL_law_1972 : decode cL_law 1972 = .ok (.iaload, 1) := by decide +kernel
theorem dL_law_1973 : decode cL_law 1973 = .ok (.invokevirtual 261, 3) := by decide +kernel
theorem dL_law_1976 : decode cL_law 1976 = .ok (.istore 7, 2) := by decide +kernel
theorem dL_law_1978 : decode cL_law 1978 = .ok (.aload_n 2, 1) := by decide +kernel
theorem dL_law_1979 : decode cL_law 1979 = .ok (.invokevirtual 155, 3) := by decide +kernel
theorem dL_law_1982 : decode cL_law 1982 = .ok (.iload 6, 2) := by decide +kernel
theorem dL_law_1984 : decode cL_law 1984 = .ok (.if_icmp .eq 5, 3) := by decide +kernel
theorem dL_law_1987 : decode cL_law 1987 = .ok (.iconst 0, 1) := by decide +kernel
theorem dL_law_1988 : decode cL_law 1988 = .ok (.ireturn, 1) := by decide +kernel
theorem dL_law_1989 : decode cL_law 1989 = .ok (.iload 6, 2) := by decide +kernel
theorem dL_law_1991 : decode cL_law 1991 = .ok (.ifCond .ne 15, 3) := by decide +kernel
theorem dL_law_1994 : decode cL_law 1994 = .ok (.aload_n 3, 1) := by decide +kernel
theorem dL_law_1995 : decode cL_law 1995 = .ok (.iconst 0, 1) := by decide +kernel
theorem dL_law_1996 : decode cL_law 1996 = .ok (.laload, 1) := by decide +kernel
theorem dL_law_1997 : decode cL_law 1997 = .ok (.iload 7, 2) := by decide +kernel
theorem dL_law_1999 : decode cL_law 1999 = .ok (.i2l, 1) := by decide +kernel
theorem dL_law_2000 : decode cL_law 2000 = .ok (.lcmp, 1) := by decide +kernel
theorem dL_law_2001 : decode cL_law 2001 = .ok (.ifCond .eq 5, 3) := by decide +kernel
theorem dL_law_2004 : decode cL_law 2004 = .ok (.iconst 0, 1) := by decide +kernel
theorem dL_law_2005 : decode cL_law 2005 = .ok (.ireturn, 1) := by decide +kernel
theorem dL_law_2006 : decode cL_law 2006 = .ok (.goto 775, 3) := by decide +kernel
theorem dL_law_2009 : decode cL_law 2009 = .ok (.aload_n 1, 1) := by decide +kernel
theorem dL_law_2010 : decode cL_law 2010 = .ok (.invokevirtual 262, 3) := by decide +kernel
theorem dL_law_2013 : decode cL_law 2013 = .ok (.aload_n 2, 1) := by decide +kernel
theorem dL_law_2014 : decode cL_law 2014 = .ok (.invokevirtual 265, 3) := by decide +kernel
theorem dL_law_2017 : decode cL_law 2017 = .ok (.if_icmp .eq 764, 3) := by decide +kernel
theorem dL_law_2020 : decode cL_law 2020 = .ok (.iconst 0, 1) := by decide +kernel
theorem dL_law_2021 : decode cL_law 2021 = .ok (.ireturn, 1) := by decide +kernel
theorem dL_law_2022 : decode cL_law 2022 = .ok (.aload_n 1, 1) := by decide +kernel
theorem dL_law_2023 : decode cL_law 2023 = .ok (.invokevirtual 266, 3) := by decide +kernel
theorem dL_law_2026 : decode cL_law 2026 = .ok (.aload_n 2, 1) := by decide +kernel
theorem dL_law_2027 : decode cL_law 2027 = .ok (.invokevirtual 269, 3) := by decide +kernel
theorem dL_law_2030 : decode cL_law 2030 = .ok (.if_icmp .eq 751, 3) := by decide +kernel
theorem dL_law_2033 : decode cL_law 2033 = .ok (.iconst 0, 1) := by decide +kernel
theorem dL_law_2034 : decode cL_law 2034 = .ok (.ireturn, 1) := by decide +kernel
theorem dL_law_2035 : decode cL_law 2035 = .ok (.aload_n 1, 1) := by decide +kernel
theorem dL_law_2036 : decode cL_law 2036 = .ok (.invokevirtual 270, 3) := by decide +kernel
theorem dL_law_2039 : decode cL_law 2039 = .ok (.aload_n 2, 1) := by decide +kernel
theorem dL_law_2040 : decode cL_law 2040 = .ok (.invokevirtual 273, 3) := by decide +kernel
theorem dL_law_2043 : decode cL_law 2043 = .ok (.if_icmp .eq 738, 3) := by decide +kernel
theorem dL_law_2046 : decode cL_law 2046 = .ok (.iconst 0, 1) := by decide +kernel
theorem dL_law_2047 : decode cL_law 2047 = .ok (.ireturn, 1) := by decide +kernel
theorem dL_law_2048 : decode cL_law 2048 = .ok (.aload_n 1, 1) := by decide +kernel
theorem dL_law_2049 : decode cL_law 2049 = .ok (.invokevirtual 274, 3) := by decide +kernel
theorem dL_law_2052 : decode cL_law 2052 = .ok (.aload_n 2, 1) := by decide +kernel
theorem dL_law_2053 : decode cL_law 2053 = .ok (.invokevirtual 277, 3) := by decide +kernel
theorem dL_law_2056 : decode cL_law 2056 = .ok (.if_icmp .eq 725, 3) := by decide +kernel
theorem dL_law_2059 : decode cL_law 2059 = .ok (.iconst 0, 1) := by decide +kernel
theorem dL_law_2060 : decode cL_law 2060 = .ok (.ireturn, 1) := by decide +kernel
theorem dL_law_2061 : decode cL_law 2061 = .ok (.aload_n 1, 1) := by decide +kernel
theorem dL_law_2062 : decode cL_law 2062 = .ok (.aload_n 0, 1) := by decide +kernel
theorem dL_law_2063 : decode cL_law 2063 = .ok (.iload 5, 2) := by decide +kernel
theorem dL_law_2065 : decode cL_law 2065 = .ok (.iconst 1, 1) := by decide +kernel
theorem dL_law_2066 : decode cL_law 2066 = .ok (.iadd, 1) := by decide +kernel
theorem dL_law_2067 : decode cL_law 2067 = .ok (.iaload, 1) := by decide +kernel
theorem dL_law_2068 : decode cL_law 2068 = .ok (.i2c, 1) := by decide +kernel
theorem dL_law_2069 : decode cL_law 2069 = .ok (.aload_n 0, 1) := by decide +kernel
theorem dL_law_2070 : decode cL_law 2070 = .ok (.iload 5, 2) := by decide +kernel
theorem dL_law_2072 : decode cL_law 2072 = .ok (.iconst 2, 1) := by decide +kernel
theorem dL_law_2073 : decode cL_law 2073 = .ok (.iadd, 1) := by decide +kernel
theorem dL_law_2074 : decode cL_law 2074 = .ok (.iaload, 1) := by decide +kernel
theorem dL_law_2075 : decode cL_law 2075 = .ok (.i2c, 1) := by decide +kernel
theorem dL_law_2076 : decode cL_law 2076 = .ok (.aload_n 3, 1) := by decide +kernel
theorem dL_law_2077 : decode cL_law 2077 = .ok (.invokestatic 278, 3) := by decide +kernel
theorem dL_law_2080 : decode cL_law 2080 = .ok (.istore 6, 2) := by decide +kernel
theorem dL_law_2082 : decode cL_law 2082 = .ok (.aload_n 2, 1) := by decide +kernel
theorem dL_law_2083 : decode cL_law 2083 = .ok (.aload_n 0, 1) := by decide +kernel
theorem dL_law_2084 : decode cL_law 2084 = .ok (.iload 5, 2) := by decide +kernel
theorem dL_law_2086 : decode cL_law 2086 = .ok (.iconst 1, 1) := by decide +kernel
theorem dL_law_2087 : decode cL_law 2087 = .ok (.iadd, 1) := by decide +kernel
theorem dL_law_2088 : decode cL_law 2088 = .ok (.iaload, 1) := by decide +kernel
theorem dL_law_2089 : decode cL_law 2089 = .ok (.i2c, 1) := by decide +kernel
theorem dL_law_2090 : decode cL_law 2090 = .ok (.aload_n 0, 1) := by decide +kernel
theorem dL_law_2091 : decode cL_law 2091 = .ok (.iload 5, 2) := by decide +kernel
theorem dL_law_2093 : decode cL_law 2093 = .ok (.iconst 2, 1) := by decide +kernel
theorem dL_law_2094 : decode cL_law 2094 = .ok (.iadd, 1) := by decide +kernel
theorem dL_law_2095 : decode cL_law 2095 = .ok (.iaload, 1) := by decide +kernel
theorem dL_law_2096 : decode cL_law 2096 = .ok (.i2c, 1) := by decide +kernel
theorem dL_law_2097 : decode cL_law 2097 = .ok (.invokevirtual 280, 3) := by decide +kernel
theorem dL_law_2100 : decode cL_law 2100 = .ok (.istore 7, 2) := by decide +kernel
theorem dL_law_2102 : decode cL_law 2102 = .ok (.aload_n 2, 1) := by decide +kernel
theorem dL_law_2103 : decode cL_law 2103 = .ok (.invokevirtual 155, 3) := by decide +kernel
theorem dL_law_2106 : decode cL_law 2106 = .ok (.iload 6, 2) := by decide +kernel
theorem dL_law_2108 : decode cL_law 2108 = .ok (.if_icmp .eq 5, 3) := by decide +kernel
theorem dL_law_2111 : decode cL_law 2111 = .ok (.iconst 0, 1) := by decide +kernel
theorem dL_law_2112 : decode cL_law 2112 = .ok (.ireturn, 1) := by decide +kernel
theorem dL_law_2113 : decode cL_law 2113 = .ok (.iload 6, 2) := by decide +kernel
theorem dL_law_2115 : decode cL_law 2115 = .ok (.ifCond .ne 15, 3) := by decide +kernel
theorem dL_law_2118 : decode cL_law 2118 = .ok (.aload_n 3, 1) := by decide +kernel
theorem dL_law_2119 : decode cL_law 2119 = .ok (.iconst 0, 1) := by decide +kernel
theorem dL_law_2120 : decode cL_law 2120 = .ok (.laload, 1) := by decide +kernel
theorem dL_law_2121 : decode cL_law 2121 = .ok (.iload 7, 2) := by decide +kernel
theorem dL_law_2123 : decode cL_law 2123 = .ok (.i2l, 1) := by decide +kernel
theorem dL_law_2124 : decode cL_law 2124 = .ok (.lcmp, 1) := by decide +kernel
theorem dL_law_2125 : decode cL_law 2125 = .ok (.ifCond .eq 5, 3) := by decide +kernel
theorem dL_law_2128 : decode cL_law 2128 = .ok (.iconst 0, 1) := by decide +kernel
theorem dL_law_2129 : decode cL_law 2129 = .ok (.ireturn, 1) := by decide +kernel
theorem dL_law_2130 : decode cL_law 2130 = .ok (.goto 651, 3) := by decide +kernel
theorem dL_law_2133 : decode cL_law 2133 = .ok (.aload_n 1, 1) := by decide +kernel
theorem dL_law_2134 : decode cL_law 2134 = .ok (.aload_n 0, 1) := by decide +kernel
theorem dL_law_2135 : decode cL_law 2135 = .ok (.iload 5, 2) := by decide +kernel
theorem dL_law_2137 : decode cL_law 2137 = .ok (.iconst 1, 1) := by decide +kernel
theorem dL_law_2138 : decode cL_law 2138 = .ok (.iadd, 1) := by decide +kernel
theorem dL_law_2139 : decode cL_law 2139 = .ok (.iaload, 1) := by decide +kernel
theorem dL_law_2140 : decode cL_law 2140 = .ok (.aload_n 3, 1) := by decide +kernel
theorem dL_law_2141 : decode cL_law 2141 = .ok (.invokestatic 281, 3) := by decide +kernel
theorem dL_law_2144 : decode cL_law 2144 = .ok (.istore 6, 2) := by decide +kernel
theorem dL_law_2146 : decode cL_law 2146 = .ok (.aload_n 2, 1) := by decide +kernel
theorem dL_law_2147 : decode cL_law 2147 = .ok (.aload_n 0, 1) := by decide +kernel
theorem dL_law_2148 : decode cL_law 2148 = .ok (.iload 5, 2) := by decide +kernel
theorem dL_law_2150 : decode cL_law 2150 = .ok (.iconst 1, 1) := by decide +kernel
theorem dL_law_2151 : decode cL_law 2151 = .ok (.iadd, 1) := by decide +kernel
theorem dL_law_2152 : decode cL_law 2152 = .ok (.iaload, 1) := by decide +kernel
theorem dL_law_2153 : decode cL_law 2153 = .ok (.invokevirtual 283, 3) := by decide +kernel
theorem dL_law_2156 : decode cL_law 2156 = .ok (.istore 7, 2) := by decide +kernel
theorem dL_law_2158 : decode cL_law 2158 = .ok (.aload_n 2, 1) := by decide +kernel
theorem dL_law_2159 : decode cL_law 2159 = .ok (.invokevirtual 155, 3) := by decide +kernel
theorem dL_law_2162 : decode cL_law 2162 = .ok (.iload 6, 2) := by decide +kernel
theorem dL_law_2164 : decode cL_law 2164 = .ok (.if_icmp .eq 5, 3) := by decide +kernel
theorem dL_law_2167 : decode cL_law 2167 = .ok (.iconst 0, 1) := by decide +kernel
theorem dL_law_2168 : decode cL_law 2168 = .ok (.ireturn, 1) := by decide +kernel
theorem dL_law_2169 : decode cL_law 2169 = .ok (.iload 6, 2) := by decide +kernel
theorem dL_law_2171 : decode cL_law 2171 = .ok (.ifCond .ne 15, 3) := by decide +kernel
theorem dL_law_2174 : decode cL_law 2174 = .ok (.aload_n 3, 1) := by decide +kernel
theorem dL_law_2175 : decode cL_law 2175 = .ok (.iconst 0, 1) := by decide +kernel
theorem dL_law_2176 : decode cL_law 2176 = .ok (.laload, 1) := by decide +kernel
theorem dL_law_2177 : decode cL_law 2177 = .ok (.iload 7, 2) := by decide +kernel
theorem dL_law_2179 : decode cL_law 2179 = .ok (.i2l, 1) := by decide +kernel
theorem dL_law_2180 : decode cL_law 2180 = .ok (.lcmp, 1) := by decide +kernel
theorem dL_law_2181 : decode cL_law 2181 = .ok (.ifCond .eq 5, 3) := by decide +kernel
theorem dL_law_2184 : decode cL_law 2184 = .ok (.iconst 0, 1) := by decide +kernel
theorem dL_law_2185 : decode cL_law 2185 = .ok (.ireturn, 1) := by decide +kernel
theorem dL_law_2186 : decode cL_law 2186 = .ok (.goto 595, 3) := by decide +kernel
theorem dL_law_2189 : decode cL_law 2189 = .ok (.aload_n 1, 1) := by decide +kernel
theorem dL_law_2190 : decode cL_law 2190 = .ok (.aload_n 0, 1) := by decide +kernel
theorem dL_law_2191 : decode cL_law 2191 = .ok (.iload 5, 2) := by decide +kernel
theorem dL_law_2193 : decode cL_law 2193 = .ok (.iconst 1, 1) := by decide +kernel
theorem dL_law_2194 : decode cL_law 2194 = .ok (.iadd, 1) := by decide +kernel
theorem dL_law_2195 : decode cL_law 2195 = .ok (.iaload, 1) := by decide +kernel
theorem dL_law_2196 : decode cL_law 2196 = .ok (.aload_n 3, 1) := by decide +kernel
theorem dL_law_2197 : decode cL_law 2197 = .ok (.invokestatic 284, 3) := by decide +kernel
theorem dL_law_2200 : decode cL_law 2200 = .ok (.istore 6, 2) := by decide +kernel
theorem dL_law_2202 : decode cL_law 2202 = .ok (.aload_n 2, 1) := by decide +kernel
theorem dL_law_2203 : decode cL_law 2203 = .ok (.aload_n 0, 1) := by decide +kernel
theorem dL_law_2204 : decode cL_law 2204 = .ok (.iload 5, 2) := by decide +kernel
theorem dL_law_2206 : decode cL_law 2206 = .ok (.iconst 1, 1) := by decide +kernel
theorem dL_law_2207 : decode cL_law 2207 = .ok (.iadd, 1) := by decide +kernel
theorem dL_law_2208 : decode cL_law 2208 = .ok (.iaload, 1) := by decide +kernel
theorem dL_law_2209 : decode cL_law 2209 = .ok (.invokevirtual 286, 3) := by decide +kernel
theorem dL_law_2212 : decode cL_law 2212 = .ok (.istore 7, 2) := by decide +kernel
theorem dL_law_2214 : decode cL_law 2214 = .ok (.aload_n 2, 1) := by decide +kernel
theorem dL_law_2215 : decode cL_law 2215 = .ok (.invokevirtual 155, 3) := by decide +kernel
theorem dL_law_2218 : decode cL_law 2218 = .ok (.iload 6, 2) := by decide +kernel
theorem dL_law_2220 : decode cL_law 2220 = .ok (.if_icmp .eq 5, 3) := by decide +kernel
theorem dL_law_2223 : decode cL_law 2223 = .ok (.iconst 0, 1) := by decide +kernel
theorem dL_law_2224 : decode cL_law 2224 = .ok (.ireturn, 1) := by decide +kernel
theorem dL_law_2225 : decode cL_law 2225 = .ok (.iload 6, 2) := by decide +kernel
theorem dL_law_2227 : decode cL_law 2227 = .ok (.ifCond .ne 15, 3) := by decide +kernel
theorem dL_law_2230 : decode cL_law 2230 = .ok (.aload_n 3, 1) := by decide +kernel
theorem dL_law_2231 : decode cL_law 2231 = .ok (.iconst 0, 1) := by decide +kernel
theorem dL_law_2232 : decode cL_law 2232 = .ok (.laload, 1) := by decide +kernel
theorem dL_law_2233 : decode cL_law 2233 = .ok (.iload 7, 2) := by decide +kernel
theorem dL_law_2235 : decode cL_law 2235 = .ok (.i2l, 1) := by decide +kernel
theorem dL_law_2236 : decode cL_law 2236 = .ok (.lcmp, 1) := by decide +kernel
theorem dL_law_2237 : decode cL_law 2237 = .ok (.ifCond .eq 5, 3) := by decide +kernel
theorem dL_law_2240 : decode cL_law 2240 = .ok (.iconst 0, 1) := by decide +kernel
theorem dL_law_2241 : decode cL_law 2241 = .ok (.ireturn, 1) := by decide +kernel
theorem dL_law_2242 : decode cL_law 2242 = .ok (.goto 539, 3) := by decide +kernel
theorem dL_law_2245 : decode cL_law 2245 = .ok (.aload_n 1, 1) := by decide +kernel
theorem dL_law_2246 : decode cL_law 2246 = .ok (.invokevirtual 287, 3) := by decide +kernel
theorem dL_law_2249 : decode cL_law 2249 = .ok (.dstore 6, 2) := by decide +kernel
theorem dL_law_2251 : decode cL_law 2251 = .ok (.aload_n 2, 1) := by decide +kernel
theorem dL_law_2252 : decode cL_law 2252 = .ok (.invokevirtual 291, 3) := by decide +kernel
theorem dL_law_2255 : decode cL_law 2255 = .ok (.dstore 8, 2) := by decide +kernel
theorem dL_law_2257 : decode cL_law 2257 = .ok (.dload 6, 2) := by decide +kernel
theorem dL_law_2259 : decode cL_law 2259 = .ok (.dload 8, 2) := by decide +kernel
theorem dL_law_2261 : decode cL_law 2261 = .ok (.dcmp .l, 1) := by decide +kernel
theorem dL_law_2262 : decode cL_law 2262 = .ok (.ifCond .eq 21, 3) := by decide +kernel
theorem dL_law_2265 : decode cL_law 2265 = .ok (.dload 6, 2) := by decide +kernel
theorem dL_law_2267 : decode cL_law 2267 = .ok (.dload 6, 2) := by decide +kernel
theorem dL_law_2269 : decode cL_law 2269 = .ok (.dcmp .l, 1) := by decide +kernel
theorem dL_law_2270 : decode cL_law 2270 = .ok (.ifCond .eq 11, 3) := by decide +kernel
theorem dL_law_2273 : decode cL_law 2273 = .ok (.dload 8, 2) := by decide +kernel
theorem dL_law_2275 : decode cL_law 2275 = .ok (.dload 8, 2) := by decide +kernel
theorem dL_law_2277 : decode cL_law 2277 = .ok (.dcmp .l, 1) := by decide +kernel
theorem dL_law_2278 : decode cL_law 2278 = .ok (.ifCond .ne 5, 3) := by decide +kernel
theorem dL_law_2281 : decode cL_law 2281 = .ok (.iconst 0, 1) := by decide +kernel
theorem dL_law_2282 : decode cL_law 2282 = .ok (.ireturn, 1) := by decide +kernel
theorem dL_law_2283 : decode cL_law 2283 = .ok (.goto 498, 3) := by decide +kernel
theorem dL_law_2286 : decode cL_law 2286 = .ok (.aload_n 1, 1) := by decide +kernel
theorem dL_law_2287 : decode cL_law 2287 = .ok (.aload 4, 2) := by decide +kernel
theorem dL_law_2289 : decode cL_law 2289 = .ok (.invokestatic 292, 3) := by decide +kernel
theorem dL_law_2292 : decode cL_law 2292 = .ok (.istore 6, 2) := by decide +kernel
theorem dL_law_2294 : decode cL_law 2294 = .ok (.aload_n 2, 1) := by decide +kernel
theorem dL_law_2295 : decode cL_law 2295 = .ok (.invokevirtual 295, 3) := by decide +kernel
theorem dL_law_2298 : decode cL_law 2298 = .ok (.fstore 7, 2) := by decide +kernel
theorem dL_law_2300 : decode cL_law 2300 = .ok (.aload_n 2, 1) := by decide +kernel
theorem dL_law_2301 : decode cL_law 2301 = .ok (.invokevirtual 155, 3) := by decide +kernel
theorem dL_law_2304 : decode cL_law 2304 = .ok (.iload 6, 2) := by decide +kernel
theorem dL_law_2306 : decode cL_law 2306 = .ok (.if_icmp .eq 5, 3) := by decide +kernel
theorem dL_law_2309 : decode cL_law 2309 = .ok (.iconst 0, 1) := by decide +kernel
theorem dL_law_2310 : decode cL_law 2310 = .ok (.ireturn, 1) := by decide +kernel
theorem dL_law_2311 : decode cL_law 2311 = .ok (.iload 6, 2) := by decide +kernel
theorem dL_law_2313 : decode cL_law 2313 = .ok (.ifCond .ne 36, 3) := by decide +kernel
theorem dL_law_2316 : decode cL_law 2316 = .ok (.aload 4, 2) := by decide +kernel
theorem dL_law_2318 : decode cL_law 2318 = .ok (.iconst 0, 1) := by decide +kernel
theorem dL_law_2319 : decode cL_law 2319 = .ok (.daload, 1) := by decide +kernel
theorem dL_law_2320 : decode cL_law 2320 = .ok (.fload 7, 2) := by decide +kernel
theorem dL_law_2322 : decode cL_law 2322 = .ok (.f2d, 1) := by decide +kernel
theorem dL_law_2323 : decode cL_law 2323 = .ok (.dcmp .l, 1) := by decide +kernel
theorem dL_law_2324 : decode cL_law 2324 = .ok (.ifCond .eq 25, 3) := by decide +kernel
theorem dL_law_2327 : decode cL_law 2327 = .ok (.aload 4, 2) := by decide +kernel
theorem dL_law_2329 : decode cL_law 2329 = .ok (.iconst 0, 1) := by decide +kernel
theorem dL_law_2330 : decode cL_law 2330 = .ok (.daload, 1) := by decide +kernel
theorem dL_law_2331 : decode cL_law 2331 = .ok (.aload 4, 2) := by decide +kernel
