theorem dL_law_1882 : decode code 1882 = .ok (.aload_n 3, 1) := by decide +kernel
theorem dL_law_1883 : decode code 1883 = .ok (.invokestatic 205, 3) := by decide +kernel
theorem dL_law_1886 : decode code 1886 = .ok (.istore 5, 2) := by decide +kernel
theorem dL_law_1888 : decode code 1888 = .ok (.aload_n 2, 1) := by decide +kernel
theorem dL_law_1889 : decode code 1889 = .ok (.aload_n 0, 1) := by decide +kernel
theorem dL_law_1890 : decode code 1890 = .ok (.iload 4, 2) := by decide +kernel
theorem dL_law_1892 : decode code 1892 = .ok (.iconst 1, 1) := by decide +kernel
theorem dL_law_1893 : decode code 1893 = .ok (.iadd, 1) := by decide +kernel
theorem dL_law_1894 : decode code 1894 = .ok (.iaload, 1) := by decide +kernel
theorem dL_law_1895 : decode code 1895 = .ok (.invokevirtual 207, 3) := by decide +kernel
theorem dL_law_1898 : decode code 1898 = .ok (.istore 6, 2) := by decide +kernel
theorem dL_law_1900 : decode code 1900 = .ok (.aload_n 2, 1) := by decide +kernel
theorem dL_law_1901 : decode code 1901 = .ok (.invokevirtual 122, 3) := by decide +kernel
theorem dL_law_1904 : decode code 1904 = .ok (.iload 5, 2) := by decide +kernel
theorem dL_law_1906 : decode code 1906 = .ok (.if_icmp .eq 5, 3) := by decide +kernel
theorem dL_law_1911 : decode code 1911 = .ok (.iload 5, 2) := by decide +kernel
theorem dL_law_1913 : decode code 1913 = .ok (.ifCond .ne 15, 3) := by decide +kernel
theorem dL_law_1916 : decode code 1916 = .ok (.aload_n 3, 1) := by decide +kernel
theorem dL_law_1917 : decode code 1917 = .ok (.iconst 0, 1) := by decide +kernel
theorem dL_law_1918 : decode code 1918 = .ok (.laload, 1) := by decide +kernel
theorem dL_law_1919 : decode code 1919 = .ok (.iload 6, 2) := by decide +kernel
theorem dL_law_1921 : decode code 1921 = .ok (.i2l, 1) := by decide +kernel
theorem dL_law_1922 : decode code 1922 = .ok (.lcmp, 1) := by decide +kernel
theorem dL_law_1923 : decode code 1923 = .ok (.ifCond .eq 5, 3) := by decide +kernel
theorem dL_law_1928 : decode code 1928 = .ok (.goto 319, 3) := by decide +kernel
theorem dL_law_1931 : decode code 1931 = .ok (.aload_n 1, 1) := by decide +kernel
theorem dL_law_1932 : decode code 1932 = .ok (.aload_n 0, 1) := by decide +kernel
theorem dL_law_1933 : decode code 1933 = .ok (.iload 4, 2) := by decide +kernel
theorem dL_law_1935 : decode code 1935 = .ok (.iconst 1, 1) := by decide +kernel
theorem dL_law_1936 : decode code 1936 = .ok (.iadd, 1) := by decide +kernel
theorem dL_law_1937 : decode code 1937 = .ok (.iaload, 1) := by decide +kernel
theorem dL_law_1938 : decode code 1938 = .ok (.aload_n 0, 1) := by decide +kernel
theorem dL_law_1939 : decode code 1939 = .ok (.iload 4, 2) := by decide +kernel
theorem dL_law_1941 : decode code 1941 = .ok (.iconst 2, 1) := by decide +kernel
theorem dL_law_1942 : decode code 1942 = .ok (.iadd, 1) := by decide +kernel
theorem dL_law_1943 : decode code 1943 = .ok (.iaload, 1) := by decide +kernel
theorem dL_law_1944 : decode code 1944 = .ok (.aload_n 3, 1) := by decide +kernel
theorem dL_law_1945 : decode code 1945 = .ok (.invokestatic 208, 3) := by decide +kernel
theorem dL_law_1948 : decode code 1948 = .ok (.istore 5, 2) := by decide +kernel
theorem dL_law_1950 : decode code 1950 = .ok (.aload_n 2, 1) := by decide +kernel
theorem dL_law_1951 : decode code 1951 = .ok (.aload_n 0, 1) := by decide +kernel
theorem dL_law_1952 : decode code 1952 = .ok (.iload 4, 2) := by decide +kernel
theorem dL_law_1954 : decode code 1954 = .ok (.iconst 1, 1) := by decide +kernel
theorem dL_law_1955 : decode code 1955 = .ok (.iadd, 1) := by decide +kernel
theorem dL_law_1956 : decode code 1956 = .ok (.iaload, 1) := by decide +kernel
theorem dL_law_1957 : decode code 1957 = .ok (.aload_n 0, 1) := by decide +kernel
theorem dL_law_1958 : decode code 1958 = .ok (.iload 4, 2) := by decide +kernel
theorem dL_law_1960 : decode code 1960 = .ok (.iconst 2, 1) := by decide +kernel
theorem dL_law_1961 : decode code 1961 = .ok (.iadd, 1) := by decide +kernel
theorem dL_law_1962 : decode code 1962 = .ok (.iaload, 1) := by decide +kernel
theorem dL_law_1963 : decode code 1963 = .ok (.invokevirtual 210, 3) := by decide +kernel
theorem dL_law_1966 : decode code 1966 = .ok (.istore 6, 2) := by decide +kernel
theorem dL_law_1968 : decode code 1968 = .ok (.aload_n 2, 1) := by decide +kernel
theorem dL_law_1969 : decode code 1969 = .ok (.invokevirtual 122, 3) := by decide +kernel
theorem dL_law_1972 : decode code 1972 = .ok (.iload 5, 2) := by decide +kernel
theorem dL_law_1974 : decode code 1974 = .ok (.if_icmp .eq 5, 3) := by decide +kernel
theorem dL_law_1979 : decode code 1979 = .ok (.iload 5, 2) := by decide +kernel
theorem dL_law_1981 : decode code 1981 = .ok (.ifCond .ne 15, 3) := by decide +kernel
theorem dL_law_1984 : decode code 1984 = .ok (.aload_n 3, 1) := by decide +kernel
theorem dL_law_1985 : decode code 1985 = .ok (.iconst 0, 1) := by decide +kernel
theorem dL_law_1986 : decode code 1986 = .ok (.laload, 1) := by decide +kernel
theorem dL_law_1987 : decode code 1987 = .ok (.iload 6, 2) := by decide +kernel
theorem dL_law_1989 : decode code 1989 = .ok (.i2l, 1) := by decide +kernel
theorem dL_law_1990 : decode code 1990 = .ok (.lcmp, 1) := by decide +kernel
theorem dL_law_1991 : decode code 1991 = .ok (.ifCond .eq 5, 3) := by decide +kernel
theorem dL_law_1996 : decode code 1996 = .ok (.goto 251, 3) := by decide +kernel
theorem dL_law_1999 : decode code 1999 = .ok (.aload_n 1, 1) := by decide +kernel
theorem dL_law_2000 : decode code 2000 = .ok (.aload_n 0, 1) := by decide +kernel
theorem dL_law_2001 : decode code 2001 = .ok (.iload 4, 2) := by decide +kernel
theorem dL_law_2003 : decode code 2003 = .ok (.iconst 1, 1) := by decide +kernel
theorem dL_law_2004 : decode code 2004 = .ok (.iadd, 1) := by decide +kernel
theorem dL_law_2005 : decode code 2005 = .ok (.iaload, 1) := by decide +kernel
theorem dL_law_2006 : decode code 2006 = .ok (.aload_n 3, 1) := by decide +kernel
theorem dL_law_2007 : decode code 2007 = .ok (.invokestatic 211, 3) := by decide +kernel
theorem dL_law_2010 : decode code 2010 = .ok (.istore 5, 2) := by decide +kernel
theorem dL_law_2012 : decode code 2012 = .ok (.aload_n 2, 1) := by decide +kernel
theorem dL_law_2013 : decode code 2013 = .ok (.aload_n 0, 1) := by decide +kernel
theorem dL_law_2014 : decode code 2014 = .ok (.iload 4, 2) := by decide +kernel
theorem dL_law_2016 : decode code 2016 = .ok (.iconst 1, 1) := by decide +kernel
theorem dL_law_2017 : decode code 2017 = .ok (.iadd, 1) := by decide +kernel
theorem dL_law_2018 : decode code 2018 = .ok (.iaload, 1) := by decide +kernel
theorem dL_law_2019 : decode code 2019 = .ok (.invokevirtual 213, 3) := by decide +kernel
theorem dL_law_2022 : decode code 2022 = .ok (.istore 6, 2) := by decide +kernel
theorem dL_law_2024 : decode code 2024 = .ok (.aload_n 2, 1) := by decide +kernel
theorem dL_law_2025 : decode code 2025 = .ok (.invokevirtual 122, 3) := by decide +kernel
theorem dL_law_2028 : decode code 2028 = .ok (.iload 5, 2) := by decide +kernel
theorem dL_law_2030 : decode code 2030 = .ok (.if_icmp .eq 5, 3) := by decide +kernel
theorem dL_law_2035 : decode code 2035 = .ok (.iload 5, 2) := by decide +kernel
theorem dL_law_2037 : decode code 2037 = .ok (.ifCond .ne 15, 3) := by decide +kernel
theorem dL_law_2040 : decode code 2040 = .ok (.aload_n 3, 1) := by decide +kernel
theorem dL_law_2041 : decode code 2041 = .ok (.iconst 0, 1) := by decide +kernel
theorem dL_law_2042 : decode code 2042 = .ok (.laload, 1) := by decide +kernel
theorem dL_law_2043 : decode code 2043 = .ok (.iload 6, 2) := by decide +kernel
theorem dL_law_2045 : decode code 2045 = .ok (.i2l, 1) := by decide +kernel
theorem dL_law_2046 : decode code 2046 = .ok (.lcmp, 1) := by decide +kernel
theorem dL_law_2047 : decode code 2047 = .ok (.ifCond .eq 5, 3) := by decide +kernel
theorem dL_law_2052 : decode code 2052 = .ok (.goto 195, 3) := by decide +kernel
theorem dL_law_2055 : decode code 2055 = .ok (.aload_n 1, 1) := by decide +kernel
theorem dL_law_2056 : decode code 2056 = .ok (.aload_n 0, 1) := by decide +kernel
theorem dL_law_2057 : decode code 2057 = .ok (.iload 4, 2) := by decide +kernel
theorem dL_law_2059 : decode code 2059 = .ok (.iconst 1, 1) := by decide +kernel
theorem dL_law_2060 : decode code 2060 = .ok (.iadd, 1) := by decide +kernel
theorem dL_law_2061 : decode code 2061 = .ok (.iaload, 1) := by decide +kernel
theorem dL_law_2062 : decode code 2062 = .ok (.aload_n 3, 1) := by decide +kernel
theorem dL_law_2063 : decode code 2063 = .ok (.invokestatic 214, 3) := by decide +kernel
theorem dL_law_2066 : decode code 2066 = .ok (.istore 5, 2) := by decide +kernel
theorem dL_law_2068 : decode code 2068 = .ok (.aload_n 2, 1) := by decide +kernel
theorem dL_law_2069 : decode code 2069 = .ok (.aload_n 0, 1) := by decide +kernel
theorem dL_law_2070 : decode code 2070 = .ok (.iload 4, 2) := by decide +kernel
theorem dL_law_2072 : decode code 2072 = .ok (.iconst 1, 1) := by decide +kernel
theorem dL_law_2073 : decode code 2073 = .ok (.iadd, 1) := by decide +kernel
theorem dL_law_2074 : decode code 2074 = .ok (.iaload, 1) := by decide +kernel
theorem dL_law_2075 : decode code 2075 = .ok (.invokevirtual 216, 3) := by decide +kernel
theorem dL_law_2078 : decode code 2078 = .ok (.istore 6, 2) := by decide +kernel
theorem dL_law_2080 : decode code 2080 = .ok (.aload_n 2, 1) := by decide +kernel
theorem dL_law_2081 : decode code 2081 = .ok (.invokevirtual 122, 3) := by decide +kernel
theorem dL_law_2084 : decode code 2084 = .ok (.iload 5, 2) := by decide +kernel
theorem dL_law_2086 : decode code 2086 = .ok (.if_icmp .eq 5, 3) := by decide +kernel
theorem dL_law_2091 : decode code 2091 = .ok (.iload 5, 2) := by decide +kernel
theorem dL_law_2093 : decode code 2093 = .ok (.ifCond .ne 15, 3) := by decide +kernel
theorem dL_law_2096 : decode code 2096 = .ok (.aload_n 3, 1) := by decide +kernel
theorem dL_law_2097 : decode code 2097 = .ok (.iconst 0, 1) := by decide +kernel
theorem dL_law_2098 : decode code 2098 = .ok (.laload, 1) := by decide +kernel
theorem dL_law_2099 : decode code 2099 = .ok (.iload 6, 2) := by decide +kernel
theorem dL_law_2101 : decode code 2101 = .ok (.i2l, 1) := by decide +kernel
theorem dL_law_2102 : decode code 2102 = .ok (.lcmp, 1) := by decide +kernel
theorem dL_law_2103 : decode code 2103 = .ok (.ifCond .eq 5, 3) := by decide +kernel
theorem dL_law_2108 : decode code 2108 = .ok (.goto 139, 3) := by decide +kernel
theorem dL_law_2111 : decode code 2111 = .ok (.aload_n 1, 1) := by decide +kernel
theorem dL_law_2112 : decode code 2112 = .ok (.aload_n 0, 1) := by decide +kernel
theorem dL_law_2113 : decode code 2113 = .ok (.iload 4, 2) := by decide +kernel
theorem dL_law_2115 : decode code 2115 = .ok (.iconst 1, 1) := by decide +kernel
theorem dL_law_2116 : decode code 2116 = .ok (.iadd, 1) := by decide +kernel
theorem dL_law_2117 : decode code 2117 = .ok (.iaload, 1) := by decide +kernel
theorem dL_law_2118 : decode code 2118 = .ok (.aload_n 3, 1) := by decide +kernel
theorem dL_law_2119 : decode code 2119 = .ok (.invokestatic 217, 3) := by decide +kernel
theorem dL_law_2122 : decode code 2122 = .ok (.istore 5, 2) := by decide +kernel
theorem dL_law_2124 : decode code 2124 = .ok (.aload_n 2, 1) := by decide +kernel
theorem dL_law_2125 : decode code 2125 = .ok (.aload_n 0, 1) := by decide +kernel
theorem dL_law_2126 : decode code 2126 = .ok (.iload 4, 2) := by decide +kernel
theorem dL_law_2128 : decode code 2128 = .ok (.iconst 1, 1) := by decide +kernel
theorem dL_law_2129 : decode code 2129 = .ok (.iadd, 1) := by decide +kernel
theorem dL_law_2130 : decode code 2130 = .ok (.iaload, 1) := by decide +kernel
theorem dL_law_2131 : decode code 2131 = .ok (.invokevirtual 219, 3) := by decide +kernel
theorem dL_law_2134 : decode code 2134 = .ok (.istore 6, 2) := by decide +kernel
theorem dL_law_2136 : decode code 2136 = .ok (.aload_n 2, 1) := by decide +kernel
theorem dL_law_2137 : decode code 2137 = .ok (.invokevirtual 122, 3) := by decide +kernel
theorem dL_law_2140 : decode code 2140 = .ok (.iload 5, 2) := by decide +kernel
theorem dL_law_2142 : decode code 2142 = .ok (.if_icmp .eq 5, 3) := by decide +kernel
theorem dL_law_2147 : decode code 2147 = .ok (.iload 5, 2) := by decide +kernel
theorem dL_law_2149 : decode code 2149 = .ok (.ifCond .ne 15, 3) := by decide +kernel
theorem dL_law_2152 : decode code 2152 = .ok (.aload_n 3, 1) := by decide +kernel
theorem dL_law_2153 : decode code 2153 = .ok (.iconst 0, 1) := by decide +kernel
theorem dL_law_2154 : decode code 2154 = .ok (.laload, 1) := by decide +kernel
theorem dL_law_2155 : decode code 2155 = .ok (.iload 6, 2) := by decide +kernel
theorem dL_law_2157 : decode code 2157 = .ok (.i2l, 1) := by decide +kernel
theorem dL_law_2158 : decode code 2158 = .ok (.lcmp, 1) := by decide +kernel
theorem dL_law_2159 : decode code 2159 = .ok (.ifCond .eq 5, 3) := by decide +kernel
theorem dL_law_2164 : decode code 2164 = .ok (.goto 83, 3) := by decide +kernel
theorem dL_law_2167 : decode code 2167 = .ok (.aload_n 1, 1) := by decide +kernel
theorem dL_law_2168 : decode code 2168 = .ok (.aload_n 0, 1) := by decide +kernel
theorem dL_law_2169 : decode code 2169 = .ok (.iload 4, 2) := by decide +kernel
theorem dL_law_2171 : decode code 2171 = .ok (.iconst 1, 1) := by decide +kernel
theorem dL_law_2172 : decode code 2172 = .ok (.iadd, 1) := by decide +kernel
theorem dL_law_2173 : decode code 2173 = .ok (.iaload, 1) := by decide +kernel
theorem dL_law_2174 : decode code 2174 = .ok (.aload_n 0, 1) := by decide +kernel
theorem dL_law_2175 : decode code 2175 = .ok (.iload 4, 2) := by decide +kernel
theorem dL_law_2177 : decode code 2177 = .ok (.iconst 2, 1) := by decide +kernel
theorem dL_law_2178 : decode code 2178 = .ok (.iadd, 1) := by decide +kernel
theorem dL_law_2179 : decode code 2179 = .ok (.iaload, 1) := by decide +kernel
theorem dL_law_2180 : decode code 2180 = .ok (.aload_n 0, 1) := by decide +kernel
theorem dL_law_2181 : decode code 2181 = .ok (.iload 4, 2) := by decide +kernel
theorem dL_law_2183 : decode code 2183 = .ok (.iconst 3, 1) := by decide +kernel
theorem dL_law_2184 : decode code 2184 = .ok (.iadd, 1) := by decide +kernel
theorem dL_law_2185 : decode code 2185 = .ok (.iaload, 1) := by decide +kernel
theorem dL_law_2186 : decode code 2186 = .ok (.aload_n 3, 1) := by decide +kernel
theorem dL_law_2187 : decode code 2187 = .ok (.invokestatic 220, 3) := by decide +kernel
theorem dL_law_2190 : decode code 2190 = .ok (.istore 5, 2) := by decide +kernel
theorem dL_law_2192 : decode code 2192 = .ok (.aload_n 2, 1) := by decide +kernel
theorem dL_law_2193 : decode code 2193 = .ok (.aload_n 0, 1) := by decide +kernel
theorem dL_law_2194 : decode code 2194 = .ok (.iload 4, 2) := by decide +kernel
theorem dL_law_2196 : decode code 2196 = .ok (.iconst 1, 1) := by decide +kernel
theorem dL_law_2197 : decode code 2197 = .ok (.iadd, 1) := by decide +kernel
theorem dL_law_2198 : decode code 2198 = .ok (.iaload, 1) := by decide +kernel
theorem dL_law_2199 : decode code 2199 = .ok (.aload_n 0, 1) := by decide +kernel
theorem dL_law_2200 : decode code 2200 = .ok (.iload 4, 2) := by decide +kernel
theorem dL_law_2202 : decode code 2202 = .ok (.iconst 2, 1) := by decide +kernel
theorem dL_law_2203 : decode code 2203 = .ok (.iadd, 1) := by decide +kernel
theorem dL_law_2204 : decode code 2204 = .ok (.iaload, 1) := by decide +kernel
theorem dL_law_2205 : decode code 2205 = .ok (.aload_n 0, 1) := by decide +kernel
theorem dL_law_2206 : decode code 2206 = .ok (.iload 4, 2) := by decide +kernel
theorem dL_law_2208 : decode code 2208 = .ok (.iconst 3, 1) := by decide +kernel
theorem dL_law_2209 : decode code 2209 = .ok (.iadd, 1) := by decide +kernel
theorem dL_law_2210 : decode code 2210 = .ok (.iaload, 1) := by decide +kernel
theorem dL_law_2211 : decode code 2211 = .ok (.invokevirtual 222, 3) := by decide +kernel
theorem dL_law_2214 : decode code 2214 = .ok (.istore 6, 2) := by decide +kernel
theorem dL_law_2216 : decode code 2216 = .ok (.aload_n 2, 1) := by decide +kernel
theorem dL_law_2217 : decode code 2217 = .ok (.invokevirtual 122, 3) := by decide +kernel
theorem dL_law_2220 : decode code 2220 = .ok (.iload 5, 2) := by decide +kernel
theorem dL_law_2222 : decode code 2222 = .ok (.if_icmp .eq 5, 3) := by decide +kernel
theorem dL_law_2227 : decode code 2227 = .ok (.iload 5, 2) := by decide +kernel
theorem dL_law_2229 : decode code 2229 = .ok (.ifCond .ne 15, 3) := by decide +kernel
theorem dL_law_2232 : decode code 2232 = .ok (.aload_n 3, 1) := by decide +kernel
theorem dL_law_2233 : decode code 2233 = .ok (.iconst 0, 1) := by decide +kernel
theorem dL_law_2234 : decode code 2234 = .ok (.laload, 1) := by decide +kernel
theorem dL_law_2235 : decode code 2235 = .ok (.iload 6, 2) := by decide +kernel
theorem dL_law_2237 : decode code 2237 = .ok (.i2l, 1) := by decide +kernel
theorem dL_law_2238 : decode code 2238 = .ok (.lcmp, 1) := by decide +kernel
theorem dL_law_2239 : decode code 2239 = .ok (.ifCond .eq 5, 3) := by decide +kernel
theorem dL_law_2244 : decode code 2244 = .ok (.goto 3, 3) := by decide +kernel
theorem dL_law_2247 : decode code 2247 = .ok (.iinc 4 6, 3) := by decide +kernel
theorem dL_law_2250 : decode code 2250 = .ok (.goto (-2227), 3) := by decide +kernel
theorem dL_law_2253 : decode code 2253 = .ok (.iconst 1, 1) := by decide +kernel
theorem dL_law_2254 : decode code 2254 = .ok (.ireturn, 1) := by decide +kernel
