theorem dL_law_1976 : decode cL_law 1976 = .ok (.aload_n 0, 1) := by decide +kernel
theorem dL_law_1977 : decode cL_law 1977 = .ok (.iload 4, 2) := by decide +kernel
theorem dL_law_1979 : decode cL_law 1979 = .ok (.iconst 1, 1) := by decide +kernel
theorem dL_law_1980 : decode cL_law 1980 = .ok (.iadd, 1) := by decide +kernel
theorem dL_law_1981 : decode cL_law 1981 = .ok (.iaload, 1) := by decide +kernel
theorem dL_law_1982 : decode cL_law 1982 = .ok (.aload_n 0, 1) := by decide +kernel
theorem dL_law_1983 : decode cL_law 1983 = .ok (.iload 4, 2) := by decide +kernel
theorem dL_law_1985 : decode cL_law 1985 = .ok (.iconst 2, 1) := by decide +kernel
theorem dL_law_1986 : decode cL_law 1986 = .ok (.iadd, 1) := by decide +kernel
theorem dL_law_1987 : decode cL_law 1987 = .ok (.iaload, 1) := by decide +kernel
theorem dL_law_1988 : decode cL_law 1988 = .ok (.aload_n 3, 1) := by decide +kernel
theorem dL_law_1989 : decode cL_law 1989 = .ok (.invokestatic 216, 3) := by decide +kernel
theorem dL_law_1992 : decode cL_law 1992 = .ok (.istore 5, 2) := by decide +kernel
theorem dL_law_1994 : decode cL_law 1994 = .ok (.aload_n 2, 1) := by decide +kernel
theorem dL_law_1995 : decode cL_law 1995 = .ok (.aload_n 0, 1) := by decide +kernel
theorem dL_law_1996 : decode cL_law 1996 = .ok (.iload 4, 2) := by decide +kernel
theorem dL_law_1998 : decode cL_law 1998 = .ok (.iconst 1, 1) := by decide +kernel
theorem dL_law_1999 : decode cL_law 1999 = .ok (.iadd, 1) := by decide +kernel
theorem dL_law_2000 : decode cL_law 2000 = .ok (.iaload, 1) := by decide +kernel
theorem dL_law_2001 : decode cL_law 2001 = .ok (.aload_n 0, 1) := by decide +kernel
theorem dL_law_2002 : decode cL_law 2002 = .ok (.iload 4, 2) := by decide +kernel
theorem dL_law_2004 : decode cL_law 2004 = .ok (.iconst 2, 1) := by decide +kernel
theorem dL_law_2005 : decode cL_law 2005 = .ok (.iadd, 1) := by decide +kernel
theorem dL_law_2006 : decode cL_law 2006 = .ok (.iaload, 1) := by decide +kernel
theorem dL_law_2007 : decode cL_law 2007 = .ok (.invokevirtual 218, 3) := by decide +kernel
theorem dL_law_2010 : decode cL_law 2010 = .ok (.istore 6, 2) := by decide +kernel
theorem dL_law_2012 : decode cL_law 2012 = .ok (.aload_n 2, 1) := by decide +kernel
theorem dL_law_2013 : decode cL_law 2013 = .ok (.invokevirtual 126, 3) := by decide +kernel
theorem dL_law_2016 : decode cL_law 2016 = .ok (.iload 5, 2) := by decide +kernel
theorem dL_law_2018 : decode cL_law 2018 = .ok (.if_icmp .eq 5, 3) := by decide +kernel
theorem dL_law_2021 : decode cL_law 2021 = .ok (.iconst 0, 1) := by decide +kernel
theorem dL_law_2022 : decode cL_law 2022 = .ok (.ireturn, 1) := by decide +kernel
theorem dL_law_2023 : decode cL_law 2023 = .ok (.iload 5, 2) := by decide +kernel
theorem dL_law_2025 : decode cL_law 2025 = .ok (.ifCond .ne 15, 3) := by decide +kernel
theorem dL_law_2028 : decode cL_law 2028 = .ok (.aload_n 3, 1) := by decide +kernel
theorem dL_law_2029 : decode cL_law 2029 = .ok (.iconst 0, 1) := by decide +kernel
theorem dL_law_2030 : decode cL_law 2030 = .ok (.laload, 1) := by decide +kernel
theorem dL_law_2031 : decode cL_law 2031 = .ok (.iload 6, 2) := by decide +kernel
theorem dL_law_2033 : decode cL_law 2033 = .ok (.i2l, 1) := by decide +kernel
theorem dL_law_2034 : decode cL_law 2034 = .ok (.lcmp, 1) := by decide +kernel
theorem dL_law_2035 : decode cL_law 2035 = .ok (.ifCond .eq 5, 3) := by decide +kernel
theorem dL_law_2038 : decode cL_law 2038 = .ok (.iconst 0, 1) := by decide +kernel
theorem dL_law_2039 : decode cL_law 2039 = .ok (.ireturn, 1) := by decide +kernel
theorem dL_law_2040 : decode cL_law 2040 = .ok (.goto 226, 3) := by decide +kernel
theorem dL_law_2043 : decode cL_law 2043 = .ok (.aload_n 1, 1) := by decide +kernel
theorem dL_law_2044 : decode cL_law 2044 = .ok (.aload_n 0, 1) := by decide +kernel
theorem dL_law_2045 : decode cL_law 2045 = .ok (.iload 4, 2) := by decide +kernel
theorem dL_law_2047 : decode cL_law 2047 = .ok (.iconst 1, 1) := by decide +kernel
theorem dL_law_2048 : decode cL_law 2048 = .ok (.iadd, 1) := by decide +kernel
theorem dL_law_2049 : decode cL_law 2049 = .ok (.iaload, 1) := by decide +kernel
theorem dL_law_2050 : decode cL_law 2050 = .ok (.invokevirtual 219, 3) := by decide +kernel
theorem dL_law_2053 : decode cL_law 2053 = .ok (.aload_n 2, 1) := by decide +kernel
theorem dL_law_2054 : decode cL_law 2054 = .ok (.aload_n 0, 1) := by decide +kernel
theorem dL_law_2055 : decode cL_law 2055 = .ok (.iload 4, 2) := by decide +kernel
theorem dL_law_2057 : decode cL_law 2057 = .ok (.iconst 1, 1) := by decide +kernel
theorem dL_law_2058 : decode cL_law 2058 = .ok (.iadd, 1) := by decide +kernel
theorem dL_law_2059 : decode cL_law 2059 = .ok (.iaload, 1) := by decide +kernel
theorem dL_law_2060 : decode cL_law 2060 = .ok (.invokevirtual 222, 3) := by decide +kernel
theorem dL_law_2063 : decode cL_law 2063 = .ok (.if_icmp .eq 203, 3) := by decide +kernel
theorem dL_law_2066 : decode cL_law 2066 = .ok (.iconst 0, 1) := by decide +kernel
theorem dL_law_2067 : decode cL_law 2067 = .ok (.ireturn, 1) := by decide +kernel
theorem dL_law_2068 : decode cL_law 2068 = .ok (.aload_n 1, 1) := by decide +kernel
theorem dL_law_2069 : decode cL_law 2069 = .ok (.aload_n 0, 1) := by decide +kernel
theorem dL_law_2070 : decode cL_law 2070 = .ok (.iload 4, 2) := by decide +kernel
theorem dL_law_2072 : decode cL_law 2072 = .ok (.iconst 1, 1) := by decide +kernel
theorem dL_law_2073 : decode cL_law 2073 = .ok (.iadd, 1) := by decide +kernel
theorem dL_law_2074 : decode cL_law 2074 = .ok (.iaload, 1) := by decide +kernel
theorem dL_law_2075 : decode cL_law 2075 = .ok (.aload_n 0, 1) := by decide +kernel
theorem dL_law_2076 : decode cL_law 2076 = .ok (.iload 4, 2) := by decide +kernel
theorem dL_law_2078 : decode cL_law 2078 = .ok (.iconst 2, 1) := by decide +kernel
theorem dL_law_2079 : decode cL_law 2079 = .ok (.iadd, 1) := by decide +kernel
theorem dL_law_2080 : decode cL_law 2080 = .ok (.iaload, 1) := by decide +kernel
theorem dL_law_2081 : decode cL_law 2081 = .ok (.aload_n 3, 1) := by decide +kernel
theorem dL_law_2082 : decode cL_law 2082 = .ok (.invokestatic 223, 3) := by decide +kernel
theorem dL_law_2085 : decode cL_law 2085 = .ok (.istore 5, 2) := by decide +kernel
theorem dL_law_2087 : decode cL_law 2087 = .ok (.aload_n 2, 1) := by decide +kernel
theorem dL_law_2088 : decode cL_law 2088 = .ok (.aload_n 0, 1) := by decide +kernel
theorem dL_law_2089 : decode cL_law 2089 = .ok (.iload 4, 2) := by decide +kernel
theorem dL_law_2091 : decode cL_law 2091 = .ok (.iconst 1, 1) := by decide +kernel
theorem dL_law_2092 : decode cL_law 2092 = .ok (.iadd, 1) := by decide +kernel
theorem dL_law_2093 : decode cL_law 2093 = .ok (.iaload, 1) := by decide +kernel
theorem dL_law_2094 : decode cL_law 2094 = .ok (.aload_n 0, 1) := by decide +kernel
theorem dL_law_2095 : decode cL_law 2095 = .ok (.iload 4, 2) := by decide +kernel
theorem dL_law_2097 : decode cL_law 2097 = .ok (.iconst 2, 1) := by decide +kernel
theorem dL_law_2098 : decode cL_law 2098 = .ok (.iadd, 1) := by decide +kernel
theorem dL_law_2099 : decode cL_law 2099 = .ok (.iaload, 1) := by decide +kernel
theorem dL_law_2100 : decode cL_law 2100 = .ok (.invokevirtual 225, 3) := by decide +kernel
theorem dL_law_2103 : decode cL_law 2103 = .ok (.istore 6, 2) := by decide +kernel
theorem dL_law_2105 : decode cL_law 2105 = .ok (.aload_n 2, 1) := by decide +kernel
theorem dL_law_2106 : decode cL_law 2106 = .ok (.invokevirtual 126, 3) := by decide +kernel
theorem dL_law_2109 : decode cL_law 2109 = .ok (.iload 5, 2) := by decide +kernel
theorem dL_law_2111 : decode cL_law 2111 = .ok (.if_icmp .eq 5, 3) := by decide +kernel
theorem dL_law_2114 : decode cL_law 2114 = .ok (.iconst 0, 1) := by decide +kernel
theorem dL_law_2115 : decode cL_law 2115 = .ok (.ireturn, 1) := by decide +kernel
theorem dL_law_2116 : decode cL_law 2116 = .ok (.iload 5, 2) := by decide +kernel
theorem dL_law_2118 : decode cL_law 2118 = .ok (.ifCond .ne 15, 3) := by decide +kernel
theorem dL_law_2121 : decode cL_law 2121 = .ok (.aload_n 3, 1) := by decide +kernel
theorem dL_law_2122 : decode cL_law 2122 = .ok (.iconst 0, 1) := by decide +kernel
theorem dL_law_2123 : decode cL_law 2123 = .ok (.laload, 1) := by decide +kernel
theorem dL_law_2124 : decode cL_law 2124 = .ok (.iload 6, 2) := by decide +kernel
theorem dL_law_2126 : decode cL_law 2126 = .ok (.i2l, 1) := by decide +kernel
theorem dL_law_2127 : decode cL_law 2127 = .ok (.lcmp, 1) := by decide +kernel
theorem dL_law_2128 : decode cL_law 2128 = .ok (.ifCond .eq 5, 3) := by decide +kernel
theorem dL_law_2131 : decode cL_law 2131 = .ok (.iconst 0, 1) := by decide +kernel
theorem dL_law_2132 : decode cL_law 2132 = .ok (.ireturn, 1) := by decide +kernel
theorem dL_law_2133 : decode cL_law 2133 = .ok (.goto 133, 3) := by decide +kernel
theorem dL_law_2136 : decode cL_law 2136 = .ok (.aload_n 1, 1) := by decide +kernel
theorem dL_law_2137 : decode cL_law 2137 = .ok (.invokevirtual 226, 3) := by decide +kernel
theorem dL_law_2140 : decode cL_law 2140 = .ok (.aload_n 2, 1) := by decide +kernel
theorem dL_law_2141 : decode cL_law 2141 = .ok (.invokevirtual 229, 3) := by decide +kernel
theorem dL_law_2144 : decode cL_law 2144 = .ok (.if_icmp .eq 122, 3) := by decide +kernel
theorem dL_law_2147 : decode cL_law 2147 = .ok (.iconst 0, 1) := by decide +kernel
theorem dL_law_2148 : decode cL_law 2148 = .ok (.ireturn, 1) := by decide +kernel
theorem dL_law_2149 : decode cL_law 2149 = .ok (.aload_n 1, 1) := by decide +kernel
theorem dL_law_2150 : decode cL_law 2150 = .ok (.aload_n 0, 1) := by decide +kernel
theorem dL_law_2151 : decode cL_law 2151 = .ok (.iload 4, 2) := by decide +kernel
theorem dL_law_2153 : decode cL_law 2153 = .ok (.iconst 1, 1) := by decide +kernel
theorem dL_law_2154 : decode cL_law 2154 = .ok (.iadd, 1) := by decide +kernel
theorem dL_law_2155 : decode cL_law 2155 = .ok (.iaload, 1) := by decide +kernel
theorem dL_law_2156 : decode cL_law 2156 = .ok (.aload_n 0, 1) := by decide +kernel
theorem dL_law_2157 : decode cL_law 2157 = .ok (.iload 4, 2) := by decide +kernel
theorem dL_law_2159 : decode cL_law 2159 = .ok (.iconst 2, 1) := by decide +kernel
theorem dL_law_2160 : decode cL_law 2160 = .ok (.iadd, 1) := by decide +kernel
theorem dL_law_2161 : decode cL_law 2161 = .ok (.iaload, 1) := by decide +kernel
theorem dL_law_2162 : decode cL_law 2162 = .ok (.aload_n 3, 1) := by decide +kernel
theorem dL_law_2163 : decode cL_law 2163 = .ok (.invokestatic 230, 3) := by decide +kernel
theorem dL_law_2166 : decode cL_law 2166 = .ok (.istore 5, 2) := by decide +kernel
theorem dL_law_2168 : decode cL_law 2168 = .ok (.aload_n 2, 1) := by decide +kernel
theorem dL_law_2169 : decode cL_law 2169 = .ok (.aload_n 0, 1) := by decide +kernel
theorem dL_law_2170 : decode cL_law 2170 = .ok (.iload 4, 2) := by decide +kernel
theorem dL_law_2172 : decode cL_law 2172 = .ok (.iconst 1, 1) := by decide +kernel
theorem dL_law_2173 : decode cL_law 2173 = .ok (.iadd, 1) := by decide +kernel
theorem dL_law_2174 : decode cL_law 2174 = .ok (.iaload, 1) := by decide +kernel
theorem dL_law_2175 : decode cL_law 2175 = .ok (.aload_n 0, 1) := by decide +kernel
theorem dL_law_2176 : decode cL_law 2176 = .ok (.iload 4, 2) := by decide +kernel
theorem dL_law_2178 : decode cL_law 2178 = .ok (.iconst 2, 1) := by decide +kernel
theorem dL_law_2179 : decode cL_law 2179 = .ok (.iadd, 1) := by decide +kernel
theorem dL_law_2180 : decode cL_law 2180 = .ok (.iaload, 1) := by decide +kernel
theorem dL_law_2181 : decode cL_law 2181 = .ok (.invokevirtual 232, 3) := by decide +kernel
theorem dL_law_2184 : decode cL_law 2184 = .ok (.istore 6, 2) := by decide +kernel
theorem dL_law_2186 : decode cL_law 2186 = .ok (.aload_n 2, 1) := by decide +kernel
theorem dL_law_2187 : decode cL_law 2187 = .ok (.invokevirtual 126, 3) := by decide +kernel
theorem dL_law_2190 : decode cL_law 2190 = .ok (.iload 5, 2) := by decide +kernel
theorem dL_law_2192 : decode cL_law 2192 = .ok (.if_icmp .eq 5, 3) := by decide +kernel
theorem dL_law_2195 : decode cL_law 2195 = .ok (.iconst 0, 1) := by decide +kernel
theorem dL_law_2196 : decode cL_law 2196 = .ok (.ireturn, 1) := by decide +kernel
theorem dL_law_2197 : decode cL_law 2197 = .ok (.iload 5, 2) := by decide +kernel
theorem dL_law_2199 : decode cL_law 2199 = .ok (.ifCond .ne 15, 3) := by decide +kernel
theorem dL_law_2202 : decode cL_law 2202 = .ok (.aload_n 3, 1) := by decide +kernel
theorem dL_law_2203 : decode cL_law 2203 = .ok (.iconst 0, 1) := by decide +kernel
theorem dL_law_2204 : decode cL_law 2204 = .ok (.laload, 1) := by decide +kernel
theorem dL_law_2205 : decode cL_law 2205 = .ok (.iload 6, 2) := by decide +kernel
theorem dL_law_2207 : decode cL_law 2207 = .ok (.i2l, 1) := by decide +kernel
theorem dL_law_2208 : decode cL_law 2208 = .ok (.lcmp, 1) := by decide +kernel
theorem dL_law_2209 : decode cL_law 2209 = .ok (.ifCond .eq 5, 3) := by decide +kernel
theorem dL_law_2212 : decode cL_law 2212 = .ok (.iconst 0, 1) := by decide +kernel
theorem dL_law_2213 : decode cL_law 2213 = .ok (.ireturn, 1) := by decide +kernel
theorem dL_law_2214 : decode cL_law 2214 = .ok (.goto 52, 3) := by decide +kernel
theorem dL_law_2217 : decode cL_law 2217 = .ok (.aload_n 1, 1) := by decide +kernel
theorem dL_law_2218 : decode cL_law 2218 = .ok (.invokevirtual 233, 3) := by decide +kernel
theorem dL_law_2221 : decode cL_law 2221 = .ok (.aload_n 2, 1) := by decide +kernel
theorem dL_law_2222 : decode cL_law 2222 = .ok (.invokevirtual 236, 3) := by decide +kernel
theorem dL_law_2225 : decode cL_law 2225 = .ok (.goto 41, 3) := by decide +kernel
theorem dL_law_2228 : decode cL_law 2228 = .ok (.aload_n 1, 1) := by decide +kernel
theorem dL_law_2229 : decode cL_law 2229 = .ok (.invokevirtual 237, 3) := by decide +kernel
theorem dL_law_2232 : decode cL_law 2232 = .ok (.aload_n 2, 1) := by decide +kernel
theorem dL_law_2233 : decode cL_law 2233 = .ok (.invokevirtual 241, 3) := by decide +kernel
theorem dL_law_2236 : decode cL_law 2236 = .ok (.if_icmp .eq 30, 3) := by decide +kernel
theorem dL_law_2239 : decode cL_law 2239 = .ok (.iconst 0, 1) := by decide +kernel
theorem dL_law_2240 : decode cL_law 2240 = .ok (.ireturn, 1) := by decide +kernel
theorem dL_law_2241 : decode cL_law 2241 = .ok (.aload_n 1, 1) := by decide +kernel
theorem dL_law_2242 : decode cL_law 2242 = .ok (.aload_n 0, 1) := by decide +kernel
theorem dL_law_2243 : decode cL_law 2243 = .ok (.iload 4, 2) := by decide +kernel
theorem dL_law_2245 : decode cL_law 2245 = .ok (.iconst 1, 1) := by decide +kernel
theorem dL_law_2246 : decode cL_law 2246 = .ok (.iadd, 1) := by decide +kernel
theorem dL_law_2247 : decode cL_law 2247 = .ok (.iaload, 1) := by decide +kernel
theorem dL_law_2248 : decode cL_law 2248 = .ok (.invokevirtual 242, 3) := by decide +kernel
theorem dL_law_2251 : decode cL_law 2251 = .ok (.aload_n 2, 1) := by decide +kernel
theorem dL_law_2252 : decode cL_law 2252 = .ok (.aload_n 0, 1) := by decide +kernel
theorem dL_law_2253 : decode cL_law 2253 = .ok (.iload 4, 2) := by decide +kernel
theorem dL_law_2255 : decode cL_law 2255 = .ok (.iconst 1, 1) := by decide +kernel
theorem dL_law_2256 : decode cL_law 2256 = .ok (.iadd, 1) := by decide +kernel
theorem dL_law_2257 : decode cL_law 2257 = .ok (.iaload, 1) := by decide +kernel
theorem dL_law_2258 : decode cL_law 2258 = .ok (.invokevirtual 245, 3) := by decide +kernel
theorem dL_law_2261 : decode cL_law 2261 = .ok (.if_icmp .eq 5, 3) := by decide +kernel
theorem dL_law_2264 : decode cL_law 2264 = .ok (.iconst 0, 1) := by decide +kernel
theorem dL_law_2265 : decode cL_law 2265 = .ok (.ireturn, 1) := by decide +kernel
theorem dL_law_2266 : decode cL_law 2266 = .ok (.iinc 4 6, 3) := by decide +kernel
theorem dL_law_2269 : decode cL_law 2269 = .ok (.goto (-2246), 3) := by decide +kernel
theorem dL_law_2272 : decode cL_law 2272 = .ok (.iconst 1, 1) := by decide +kernel
theorem dL_law_2273 : decode cL_law 2273 = .ok (.ireturn, 1) := by decide +kernel
