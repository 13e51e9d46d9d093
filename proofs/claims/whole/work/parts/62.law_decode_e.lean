theorem dL_law_2039 : decode cL_law 2039 = .ok (.iload 5, 2) := by decide +kernel
theorem dL_law_2041 : decode cL_law 2041 = .ok (.iconst 1, 1) := by decide +kernel
theorem dL_law_2042 : decode cL_law 2042 = .ok (.iadd, 1) := by decide +kernel
theorem dL_law_2043 : decode cL_law 2043 = .ok (.iaload, 1) := by decide +kernel
theorem dL_law_2044 : decode cL_law 2044 = .ok (.aload_n 0, 1) := by decide +kernel
theorem dL_law_2045 : decode cL_law 2045 = .ok (.iload 5, 2) := by decide +kernel
theorem dL_law_2047 : decode cL_law 2047 = .ok (.iconst 2, 1) := by decide +kernel
theorem dL_law_2048 : decode cL_law 2048 = .ok (.iadd, 1) := by decide +kernel
theorem dL_law_2049 : decode cL_law 2049 = .ok (.iaload, 1) := by decide +kernel
theorem dL_law_2050 : decode cL_law 2050 = .ok (.aload_n 0, 1) := by decide +kernel
theorem dL_law_2051 : decode cL_law 2051 = .ok (.iload 5, 2) := by decide +kernel
theorem dL_law_2053 : decode cL_law 2053 = .ok (.iconst 3, 1) := by decide +kernel
theorem dL_law_2054 : decode cL_law 2054 = .ok (.iadd, 1) := by decide +kernel
theorem dL_law_2055 : decode cL_law 2055 = .ok (.iaload, 1) := by decide +kernel
theorem dL_law_2056 : decode cL_law 2056 = .ok (.invokevirtual 256, 3) := by decide +kernel
theorem dL_law_2059 : decode cL_law 2059 = .ok (.istore 7, 2) := by decide +kernel
theorem dL_law_2061 : decode cL_law 2061 = .ok (.aload_n 2, 1) := by decide +kernel
theorem dL_law_2062 : decode cL_law 2062 = .ok (.invokevirtual 162, 3) := by decide +kernel
theorem dL_law_2065 : decode cL_law 2065 = .ok (.iload 6, 2) := by decide +kernel
theorem dL_law_2067 : decode cL_law 2067 = .ok (.if_icmp .eq 5, 3) := by decide +kernel
theorem dL_law_2070 : decode cL_law 2070 = .ok (.iconst 0, 1) := by decide +kernel
theorem dL_law_2071 : decode cL_law 2071 = .ok (.ireturn, 1) := by decide +kernel
theorem dL_law_2072 : decode cL_law 2072 = .ok (.iload 6, 2) := by decide +kernel
theorem dL_law_2074 : decode cL_law 2074 = .ok (.ifCond .ne 15, 3) := by decide +kernel
theorem dL_law_2077 : decode cL_law 2077 = .ok (.aload_n 3, 1) := by decide +kernel
theorem dL_law_2078 : decode cL_law 2078 = .ok (.iconst 0, 1) := by decide +kernel
theorem dL_law_2079 : decode cL_law 2079 = .ok (.laload, 1) := by decide +kernel
theorem dL_law_2080 : decode cL_law 2080 = .ok (.iload 7, 2) := by decide +kernel
theorem dL_law_2082 : decode cL_law 2082 = .ok (.i2l, 1) := by decide +kernel
theorem dL_law_2083 : decode cL_law 2083 = .ok (.lcmp, 1) := by decide +kernel
theorem dL_law_2084 : decode cL_law 2084 = .ok (.ifCond .eq 5, 3) := by decide +kernel
theorem dL_law_2087 : decode cL_law 2087 = .ok (.iconst 0, 1) := by decide +kernel
theorem dL_law_2088 : decode cL_law 2088 = .ok (.ireturn, 1) := by decide +kernel
theorem dL_law_2089 : decode cL_law 2089 = .ok (.goto 895, 3) := by decide +kernel
theorem dL_law_2092 : decode cL_law 2092 = .ok (.aload_n 1, 1) := by decide +kernel
theorem dL_law_2093 : decode cL_law 2093 = .ok (.aload_n 0, 1) := by decide +kernel
theorem dL_law_2094 : decode cL_law 2094 = .ok (.iload 5, 2) := by decide +kernel
theorem dL_law_2096 : decode cL_law 2096 = .ok (.iconst 1, 1) := by decide +kernel
theorem dL_law_2097 : decode cL_law 2097 = .ok (.iadd, 1) := by decide +kernel
theorem dL_law_2098 : decode cL_law 2098 = .ok (.iaload, 1) := by decide +kernel
theorem dL_law_2099 : decode cL_law 2099 = .ok (.aload_n 0, 1) := by decide +kernel
theorem dL_law_2100 : decode cL_law 2100 = .ok (.iload 5, 2) := by decide +kernel
theorem dL_law_2102 : decode cL_law 2102 = .ok (.iconst 2, 1) := by decide +kernel
theorem dL_law_2103 : decode cL_law 2103 = .ok (.iadd, 1) := by decide +kernel
theorem dL_law_2104 : decode cL_law 2104 = .ok (.iaload, 1) := by decide +kernel
theorem dL_law_2105 : decode cL_law 2105 = .ok (.aload_n 0, 1) := by decide +kernel
theorem dL_law_2106 : decode cL_law 2106 = .ok (.iload 5, 2) := by decide +kernel
theorem dL_law_2108 : decode cL_law 2108 = .ok (.iconst 3, 1) := by decide +kernel
theorem dL_law_2109 : decode cL_law 2109 = .ok (.iadd, 1) := by decide +kernel
theorem dL_law_2110 : decode cL_law 2110 = .ok (.iaload, 1) := by decide +kernel
theorem dL_law_2111 : decode cL_law 2111 = .ok (.aload_n 3, 1) := by decide +kernel
theorem dL_law_2112 : decode cL_law 2112 = .ok (.invokestatic 257, 3) := by decide +kernel
theorem dL_law_2115 : decode cL_law 2115 = .ok (.istore 6, 2) := by decide +kernel
theorem dL_law_2117 : decode cL_law 2117 = .ok (.aload_n 2, 1) := by decide +kernel
theorem dL_law_2118 : decode cL_law 2118 = .ok (.aload_n 0, 1) := by decide +kernel
theorem dL_law_2119 : decode cL_law 2119 = .ok (.iload 5, 2) := by decide +kernel
theorem dL_law_2121 : decode cL_law 2121 = .ok (.iconst 1, 1) := by decide +kernel
theorem dL_law_2122 : decode cL_law 2122 = .ok (.iadd, 1) := by decide +kernel
theorem dL_law_2123 : decode cL_law 2123 = .ok (.iaload, 1) := by decide +kernel
theorem dL_law_2124 : decode cL_law 2124 = .ok (.aload_n 0, 1) := by decide +kernel
theorem dL_law_2125 : decode cL_law 2125 = .ok (.iload 5, 2) := by decide +kernel
theorem dL_law_2127 : decode cL_law 2127 = .ok (.iconst 2, 1) := by decide +kernel
theorem dL_law_2128 : decode cL_law 2128 = .ok (.iadd, 1) := by decide +kernel
theorem dL_law_2129 : decode cL_law 2129 = .ok (.iaload, 1) := by decide +kernel
theorem dL_law_2130 : decode cL_law 2130 = .ok (.aload_n 0, 1) := by decide +kernel
theorem dL_law_2131 : decode cL_law 2131 = .ok (.iload 5, 2) := by decide +kernel
theorem dL_law_2133 : decode cL_law 2133 = .ok (.iconst 3, 1) := by decide +kernel
theorem dL_law_2134 : decode cL_law 2134 = .ok (.iadd, 1) := by decide +kernel
theorem dL_law_2135 : decode cL_law 2135 = .ok (.iaload, 1) := by decide +kernel
theorem dL_law_2136 : decode cL_law 2136 = .ok (.invokevirtual 259, 3) := by decide +kernel
theorem dL_law_2139 : decode cL_law 2139 = .ok (.istore 7, 2) := by decide +kernel
theorem dL_law_2141 : decode cL_law 2141 = .ok (.aload_n 2, 1) := by decide +kernel
theorem dL_law_2142 : decode cL_law 2142 = .ok (.invokevirtual 162, 3) := by decide +kernel
theorem dL_law_2145 : decode cL_law 2145 = .ok (.iload 6, 2) := by decide +kernel
theorem dL_law_2147 : decode cL_law 2147 = .ok (.if_icmp .eq 5, 3) := by decide +kernel
theorem dL_law_2150 : decode cL_law 2150 = .ok (.iconst 0, 1) := by decide +kernel
theorem dL_law_2151 : decode cL_law 2151 = .ok (.ireturn, 1) := by decide +kernel
theorem dL_law_2152 : decode cL_law 2152 = .ok (.iload 6, 2) := by decide +kernel
theorem dL_law_2154 : decode cL_law 2154 = .ok (.ifCond .ne 15, 3) := by decide +kernel
theorem dL_law_2157 : decode cL_law 2157 = .ok (.aload_n 3, 1) := by decide +kernel
theorem dL_law_2158 : decode cL_law 2158 = .ok (.iconst 0, 1) := by decide +kernel
theorem dL_law_2159 : decode cL_law 2159 = .ok (.laload, 1) := by decide +kernel
theorem dL_law_2160 : decode cL_law 2160 = .ok (.iload 7, 2) := by decide +kernel
theorem dL_law_2162 : decode cL_law 2162 = .ok (.i2l, 1) := by decide +kernel
theorem dL_law_2163 : decode cL_law 2163 = .ok (.lcmp, 1) := by decide +kernel
theorem dL_law_2164 : decode cL_law 2164 = .ok (.ifCond .eq 5, 3) := by decide +kernel
theorem dL_law_2167 : decode cL_law 2167 = .ok (.iconst 0, 1) := by decide +kernel
theorem dL_law_2168 : decode cL_law 2168 = .ok (.ireturn, 1) := by decide +kernel
theorem dL_law_2169 : decode cL_law 2169 = .ok (.goto 815, 3) := by decide +kernel
theorem dL_law_2172 : decode cL_law 2172 = .ok (.aload_n 1, 1) := by decide +kernel
theorem dL_law_2173 : decode cL_law 2173 = .ok (.aload_n 0, 1) := by decide +kernel
theorem dL_law_2174 : decode cL_law 2174 = .ok (.iload 5, 2) := by decide +kernel
theorem dL_law_2176 : decode cL_law 2176 = .ok (.iconst 1, 1) := by decide +kernel
theorem dL_law_2177 : decode cL_law 2177 = .ok (.iadd, 1) := by decide +kernel
theorem dL_law_2178 : decode cL_law 2178 = .ok (.iaload, 1) := by decide +kernel
theorem dL_law_2179 : decode cL_law 2179 = .ok (.aload_n 0, 1) := by decide +kernel
theorem dL_law_2180 : decode cL_law 2180 = .ok (.iload 5, 2) := by decide +kernel
theorem dL_law_2182 : decode cL_law 2182 = .ok (.iconst 2, 1) := by decide +kernel
theorem dL_law_2183 : decode cL_law 2183 = .ok (.iadd, 1) := by decide +kernel
theorem dL_law_2184 : decode cL_law 2184 = .ok (.iaload, 1) := by decide +kernel
theorem dL_law_2185 : decode cL_law 2185 = .ok (.aload_n 0, 1) := by decide +kernel
theorem dL_law_2186 : decode cL_law 2186 = .ok (.iload 5, 2) := by decide +kernel
theorem dL_law_2188 : decode cL_law 2188 = .ok (.iconst 3, 1) := by decide +kernel
theorem dL_law_2189 : decode cL_law 2189 = .ok (.iadd, 1) := by decide +kernel
theorem dL_law_2190 : decode cL_law 2190 = .ok (.iaload, 1) := by decide +kernel
theorem dL_law_2191 : decode cL_law 2191 = .ok (.aload_n 3, 1) := by decide +kernel
theorem dL_law_2192 : decode cL_law 2192 = .ok (.invokestatic 260, 3) := by decide +kernel
theorem dL_law_2195 : decode cL_law 2195 = .ok (.istore 6, 2) := by decide +kernel
theorem dL_law_2197 : decode cL_law 2197 = .ok (.aload_n 2, 1) := by decide +kernel
theorem dL_law_2198 : decode cL_law 2198 = .ok (.aload_n 0, 1) := by decide +kernel
theorem dL_law_2199 : decode cL_law 2199 = .ok (.iload 5, 2) := by decide +kernel
theorem dL_law_2201 : decode cL_law 2201 = .ok (.iconst 1, 1) := by decide +kernel
theorem dL_law_2202 : decode cL_law 2202 = .ok (.iadd, 1) := by decide +kernel
theorem dL_law_2203 : decode cL_law 2203 = .ok (.iaload, 1) := by decide +kernel
theorem dL_law_2204 : decode cL_law 2204 = .ok (.aload_n 0, 1) := by decide +kernel
theorem dL_law_2205 : decode cL_law 2205 = .ok (.iload 5, 2) := by decide +kernel
theorem dL_law_2207 : decode cL_law 2207 = .ok (.iconst 2, 1) := by decide +kernel
theorem dL_law_2208 : decode cL_law 2208 = .ok (.iadd, 1) := by decide +kernel
theorem dL_law_2209 : decode cL_law 2209 = .ok (.iaload, 1) := by decide +kernel
theorem dL_law_2210 : decode cL_law 2210 = .ok (.aload_n 0, 1) := by decide +kernel
theorem dL_law_2211 : decode cL_law 2211 = .ok (.iload 5, 2) := by decide +kernel
theorem dL_law_2213 : decode cL_law 2213 = .ok (.iconst 3, 1) := by decide +kernel
theorem dL_law_2214 : decode cL_law 2214 = .ok (.iadd, 1) := by decide +kernel
theorem dL_law_2215 : decode cL_law 2215 = .ok (.iaload, 1) := by decide +kernel
theorem dL_law_2216 : decode cL_law 2216 = .ok (.invokevirtual 262, 3) := by decide +kernel
theorem dL_law_2219 : decode cL_law 2219 = .ok (.istore 7, 2) := by decide +kernel
theorem dL_law_2221 : decode cL_law 2221 = .ok (.aload_n 2, 1) := by decide +kernel
theorem dL_law_2222 : decode cL_law 2222 = .ok (.invokevirtual 162, 3) := by decide +kernel
theorem dL_law_2225 : decode cL_law 2225 = .ok (.iload 6, 2) := by decide +kernel
theorem dL_law_2227 : decode cL_law 2227 = .ok (.if_icmp .eq 5, 3) := by decide +kernel
theorem dL_law_2230 : decode cL_law 2230 = .ok (.iconst 0, 1) := by decide +kernel
theorem dL_law_2231 : decode cL_law 2231 = .ok (.ireturn, 1) := by decide +kernel
theorem dL_law_2232 : decode cL_law 2232 = .ok (.iload 6, 2) := by decide +kernel
theorem dL_law_2234 : decode cL_law 2234 = .ok (.ifCond .ne 15, 3) := by decide +kernel
theorem dL_law_2237 : decode cL_law 2237 = .ok (.aload_n 3, 1) := by decide +kernel
theorem dL_law_2238 : decode cL_law 2238 = .ok (.iconst 0, 1) := by decide +kernel
theorem dL_law_2239 : decode cL_law 2239 = .ok (.laload, 1) := by decide +kernel
theorem dL_law_2240 : decode cL_law 2240 = .ok (.iload 7, 2) := by decide +kernel
theorem dL_law_2242 : decode cL_law 2242 = .ok (.i2l, 1) := by decide +kernel
theorem dL_law_2243 : decode cL_law 2243 = .ok (.lcmp, 1) := by decide +kernel
theorem dL_law_2244 : decode cL_law 2244 = .ok (.ifCond .eq 5, 3) := by decide +kernel
theorem dL_law_2247 : decode cL_law 2247 = .ok (.iconst 0, 1) := by decide +kernel
theorem dL_law_2248 : decode cL_law 2248 = .ok (.ireturn, 1) := by decide +kernel
theorem dL_law_2249 : decode cL_law 2249 = .ok (.goto 735, 3) := by decide +kernel
theorem dL_law_2252 : decode cL_law 2252 = .ok (.aload_n 1, 1) := by decide +kernel
theorem dL_law_2253 : decode cL_law 2253 = .ok (.aload_n 0, 1) := by decide +kernel
theorem dL_law_2254 : decode cL_law 2254 = .ok (.iload 5, 2) := by decide +kernel
theorem dL_law_2256 : decode cL_law 2256 = .ok (.iconst 1, 1) := by decide +kernel
theorem dL_law_2257 : decode cL_law 2257 = .ok (.iadd, 1) := by decide +kernel
theorem dL_law_2258 : decode cL_law 2258 = .ok (.iaload, 1) := by decide +kernel
theorem dL_law_2259 : decode cL_law 2259 = .ok (.aload_n 3, 1) := by decide +kernel
theorem dL_law_2260 : decode cL_law 2260 = .ok (.invokestatic 263, 3) := by decide +kernel
theorem dL_law_2263 : decode cL_law 2263 = .ok (.istore 6, 2) := by decide +kernel
theorem dL_law_2265 : decode cL_law 2265 = .ok (.aload_n 2, 1) := by decide +kernel
theorem dL_law_2266 : decode cL_law 2266 = .ok (.aload_n 0, 1) := by decide +kernel
theorem dL_law_2267 : decode cL_law 2267 = .ok (.iload 5, 2) := by decide +kernel
theorem dL_law_2269 : decode cL_law 2269 = .ok (.iconst 1, 1) := by decide +kernel
theorem dL_law_2270 : decode cL_law 2270 = .ok (.iadd, 1) := by decide +kernel
theorem dL_law_2271 : decode cL_law 2271 = .ok (.iaload, 1) := by decide +kernel
theorem dL_law_2272 : decode cL_law 2272 = .ok (.invokevirtual 265, 3) := by decide +kernel
theorem dL_law_2275 : decode cL_law 2275 = .ok (.istore 7, 2) := by decide +kernel
theorem dL_law_2277 : decode cL_law 2277 = .ok (.aload_n 2, 1) := by decide +kernel
theorem dL_law_2278 : decode cL_law 2278 = .ok (.invokevirtual 162, 3) := by decide +kernel
theorem dL_law_2281 : decode cL_law 2281 = .ok (.iload 6, 2) := by decide +kernel
theorem dL_law_2283 : decode cL_law 2283 = .ok (.if_icmp .eq 5, 3) := by decide +kernel
theorem dL_law_2286 : decode cL_law 2286 = .ok (.iconst 0, 1) := by decide +kernel
theorem dL_law_2287 : decode cL_law 2287 = .ok (.ireturn, 1) := by decide +kernel
theorem dL_law_2288 : decode cL_law 2288 = .ok (.iload 6, 2) := by decide +kernel
theorem dL_law_2290 : decode cL_law 2290 = .ok (.ifCond .ne 15, 3) := by decide +kernel
theorem dL_law_2293 : decode cL_law 2293 = .ok (.aload_n 3, 1) := by decide +kernel
theorem dL_law_2294 : decode cL_law 2294 = .ok (.iconst 0, 1) := by decide +kernel
theorem dL_law_2295 : decode cL_law 2295 = .ok (.laload, 1) := by decide +kernel
theorem dL_law_2296 : decode cL_law 2296 = .ok (.iload 7, 2) := by decide +kernel
theorem dL_law_2298 : decode cL_law 2298 = .ok (.i2l, 1) := by decide +kernel
theorem dL_law_2299 : decode cL_law 2299 = .ok (.lcmp, 1) := by decide +kernel
theorem dL_law_2300 : decode cL_law 2300 = .ok (.ifCond .eq 5, 3) := by decide +kernel
theorem dL_law_2303 : decode cL_law 2303 = .ok (.iconst 0, 1) := by decide +kernel
theorem dL_law_2304 : decode cL_law 2304 = .ok (.ireturn, 1) := by decide +kernel
theorem dL_law_2305 : decode cL_law 2305 = .ok (.goto 679, 3) := by decide +kernel
theorem dL_law_2308 : decode cL_law 2308 = .ok (.aload_n 1, 1) := by decide +kernel
theorem dL_law_2309 : decode cL_law 2309 = .ok (.aload_n 0, 1) := by decide +kernel
theorem dL_law_2310 : decode cL_law 2310 = .ok (.iload 5, 2) := by decide +kernel
theorem dL_law_2312 : decode cL_law 2312 = .ok (.iconst 1, 1) := by decide +kernel
theorem dL_law_2313 : decode cL_law 2313 = .ok (.iadd, 1) := by decide +kernel
theorem dL_law_2314 : decode cL_law 2314 = .ok (.iaload, 1) := by decide +kernel
theorem dL_law_2315 : decode cL_law 2315 = .ok (.aload_n 3, 1) := by decide +kernel
theorem dL_law_2316 : decode cL_law 2316 = .ok (.invokestatic 266, 3) := by decide +kernel
theorem dL_law_2319 : decode cL_law 2319 = .ok (.istore 6, 2) := by decide +kernel
theorem dL_law_2321 : decode cL_law 2321 = .ok (.aload_n 2, 1) := by decide +kernel
theorem dL_law_2322 : decode cL_law 2322 = .ok (.aload_n 0, 1) := by decide +kernel
theorem dL_law_2323 : decode cL_law 2323 = .ok (.iload 5, 2) := by decide +kernel
theorem dL_law_2325 : decode cL_law 2325 = .ok (.iconst 1, 1) := by decide +kernel
theorem dL_law_2326 : decode cL_law 2326 = .ok (.iadd, 1) := by decide +kernel
theorem dL_law_2327 : decode cL_law 2327 = .ok (.iaload, 1) := by decide +kernel
theorem dL_law_2328 : decode cL_law 2328 = .ok (.invokevirtual 268, 3) := by decide +kernel
theorem dL_law_2331 : decode cL_law 2331 = .ok (.istore 7, 2) := by decide +kernel
theorem dL_law_2333 : decode cL_law 2333 = .ok (.aload_n 2, 1) := by decide +kernel
theorem dL_law_2334 : decode cL_law 2334 = .ok (.invokevirtual 162, 3) := by decide +kernel
theorem dL_law_2337 : decode cL_law 2337 = .ok (.iload 6, 2) := by decide +kernel
theorem dL_law_2339 : decode cL_law 2339 = .ok (.if_icmp .eq 5, 3) := by decide +kernel
theorem dL_law_2342 : decode cL_law 2342 = .ok (.iconst 0, 1) := by decide +kernel
theorem dL_law_2343 : decode cL_law 2343 = .ok (.ireturn, 1) := by decide +kernel
theorem dL_law_2344 : decode cL_law 2344 = .ok (.iload 6, 2) := by decide +kernel
theorem dL_law_2346 : decode cL_law 2346 = .ok (.ifCond .ne 15, 3) := by decide +kernel
theorem dL_law_2349 : decode cL_law 2349 = .ok (.aload_n 3, 1) := by decide +kernel
theorem dL_law_2350 : decode cL_law 2350 = .ok (.iconst 0, 1) := by decide +kernel
theorem dL_law_2351 : decode cL_law 2351 = .ok (.laload, 1) := by decide +kernel
theorem dL_law_2352 : decode cL_law 2352 = .ok (.iload 7, 2) := by decide +kernel
theorem dL_law_2354 : decode cL_law 2354 = .ok (.i2l, 1) := by decide +kernel
theorem dL_law_2355 : decode cL_law 2355 = .ok (.lcmp, 1) := by decide +kernel
theorem dL_law_2356 : decode cL_law 2356 = .ok (.ifCond .eq 5, 3) := by decide +kernel
theorem dL_law_2359 : decode cL_law 2359 = .ok (.iconst 0, 1) := by decide +kernel
theorem dL_law_2360 : decode cL_law 2360 = .ok (.ireturn, 1) := by decide +kernel
theorem dL_law_2361 : decode cL_law 2361 = .ok (.goto 623, 3) := by decide +kernel
theorem dL_law_2364 : decode cL_law 2364 = .ok (.aload_n 1, 1) := by decide +kernel
theorem dL_law_2365 : decode cL_law 2365 = .ok (.aload_n 0, 1) := by decide +kernel
theorem dL_law_2366 : decode cL_law 2366 = .ok (.iload 5, 2) := by decide +kernel
theorem dL_law_2368 : decode cL_law 2368 = .ok (.iconst 1, 1) := by decide +kernel
theorem dL_law_2369 : decode cL_law 2369 = .ok (.iadd, 1) := by decide +kernel
theorem dL_law_2370 : decode cL_law 2370 = .ok (.iaload, 1) := by decide +kernel
theorem dL_law_2371 : decode cL_law 2371 = .ok (.aload_n 0, 1) := by decide +kernel
theorem dL_law_2372 : decode cL_law 2372 = .ok (.iload 5, 2) := by decide +kernel
theorem dL_law_2374 : decode cL_law 2374 = .ok (.iconst 2, 1) := by decide +kernel
theorem dL_law_2375 : decode cL_law 2375 = .ok (.iadd, 1) := by decide +kernel
theorem dL_law_2376 : decode cL_law 2376 = .ok (.iaload, 1) := by decide +kernel
theorem dL_law_2377 : decode cL_law 2377 = .ok (.aload_n 0, 1) := by decide +kernel
theorem dL_law_2378 : decode cL_law 2378 = .ok (.iload 5, 2) := by decide +kernel
theorem dL_law_2380 : decode cL_law 2380 = .ok (.iconst 3, 1) := by decide +kernel
theorem dL_law_2381 : decode cL_law 2381 = .ok (.iadd, 1) := by decide +kernel
theorem dL_law_2382 : decode cL_law 2382 = .ok (.iaload, 1) := by decide +kernel
theorem dL_law_2383 : decode cL_law 2383 = .ok (.aload_n 3, 1) := by decide +kernel
theorem dL_law_2384 : decode cL_law 2384 = .ok (.invokestatic 269, 3) := by decide +kernel
theorem dL_law_2387 : decode cL_law 2387 = .ok (.istore 6, 2) := by decide +kernel
theorem dL_law_2389 : decode cL_law 2389 = .ok (.aload_n 2, 1) := by decide +kernel
theorem dL_law_2390 : decode cL_law 2390 = .ok (.aload_n 0, 1) := by decide +kernel
theorem dL_law_2391 : decode cL_law 2391 = .ok (.iload 5, 2) := by decide +kernel
theorem dL_law_2393 : decode cL_law 2393 = .ok (.iconst 1, 1) := by decide +kernel
theorem dL_law_2394 : decode cL_law 2394 = .ok (.iadd, 1) := by decide +kernel
theorem dL_law_2395 : decode cL_law 2395 = .ok (.iaload, 1) := by decide +kernel
theorem dL_law_2396 : decode cL_law 2396 = .ok (.aload_n 0, 1) := by decide +kernel
theorem dL_law_2397 : decode cL_law 2397 = .ok (.iload 5, 2) := by decide +kernel
theorem dL_law_2399 : decode cL_law 2399 = .ok (.iconst 2, 1) := by decide +kernel
theorem dL_law_2400 : decode cL_law 2400 = .ok (.iadd, 1) := by decide +kernel
theorem dL_law_2401 : decode cL_law 2401 = .ok (.iaload, 1) := by decide +kernel
theorem dL_law_2402 : decode cL_law 2402 = .ok (.aload_n 0, 1) := by decide +kernel
theorem dL_law_2403 : decode cL_law 2403 = .ok (.iload 5, 2) := by decide +kernel
theorem dL_law_2405 : decode cL_law 2405 = .ok (.iconst 3, 1) := by decide +kernel
theorem dL_law_2406 : decode cL_law 2406 = .ok (.iadd, 1) := by decide +kernel
theorem dL_law_2407 : decode cL_law 2407 = .ok (.iaload, 1) := by decide +kernel
theorem dL_law_2408 : decode cL_law 2408 = .ok (.invokevirtual 271, 3) := by decide +kernel
theorem dL_law_2411 : decode cL_law 2411 = .ok (.istore 7, 2) := by decide +kernel
theorem dL_law_2413 : decode cL_law 2413 = .ok (.aload_n 2, 1) := by decide +kernel
theorem dL_law_2414 : decode cL_law 2414 = .ok (.invokevirtual 162, 3) := by decide +kernel
theorem dL_law_2417 : decode cL_law 2417 = .ok (.iload 6, 2) := by decide +kernel
theorem dL_law_2419 : decode cL_law 2419 = .ok (.if_icmp .eq 5, 3) := by decide +kernel
theorem dL_law_2422 : decode cL_law 2422 = .ok (.iconst 0, 1) := by decide +kernel
theorem dL_law_2423 : decode cL_law 2423 = .ok (.ireturn, 1) := by decide +kernel
theorem dL_law_2424 : decode cL_law 2424 = .ok (.iload 6, 2) := by decide +kernel
theorem dL_law_2426 : decode cL_law 2426 = .ok (.ifCond .ne 15, 3) := by decide +kernel
theorem dL_law_2429 : decode cL_law 2429 = .ok (.aload_n 3, 1) := by decide +kernel
theorem dL_law_2430 : decode cL_law 2430 = .ok (.iconst 0, 1) := by decide +kernel
theorem dL_law_2431 : decode cL_law 2431 = .ok (.laload, 1) := by decide +kernel
theorem dL_law_2432 : decode cL_law 2432 = .ok (.iload 7, 2) := by decide +kernel
theorem dL_law_2434 : decode cL_law 2434 = .ok (.i2l, 1) := by decide +kernel
theorem dL_law_2435 : decode cL_law 2435 = .ok (.lcmp, 1) := by decide +kernel
theorem dL_law_2436 : decode cL_law 2436 = .ok (.ifCond .eq 5, 3) := by decide +kernel
theorem dL_law_2439 : decode cL_law 2439 = .ok (.iconst 0, 1) := by decide +kernel
theorem dL_law_2440 : decode cL_law 2440 = .ok (.ireturn, 1) := by decide +kernel
theorem dL_law_2441 : decode cL_law 2441 = .ok (.goto 543, 3) := by decide +kernel
theorem dL_law_2444 : decode cL_law 2444 = .ok (.aload_n 1, 1) := by decide +kernel
theorem dL_law_2445 : decode cL_law 2445 = .ok (.invokevirtual 272, 3) := by decide +kernel
theorem dL_law_2448 : decode cL_law 2448 = .ok (.aload_n 2, 1) := by decide +kernel
theorem dL_law_2449 : decode cL_law 2449 = .ok (.invokevirtual 275, 3) := by decide +kernel
theorem dL_law_2452 : decode cL_law 2452 = .ok (.if_icmp .eq 532, 3) := by decide +kernel
theorem dL_law_2455 : decode cL_law 2455 = .ok (.iconst 0, 1) := by decide +kernel
theorem dL_law_2456 : decode cL_law 2456 = .ok (.ireturn, 1) := by decide +kernel
theorem dL_law_2457 : decode cL_law 2457 = .ok (.aload_n 1, 1) := by decide +kernel
theorem dL_law_2458 : decode cL_law 2458 = .ok (.invokevirtual 276, 3) := by decide +kernel
theorem dL_law_2461 : decode cL_law 2461 = .ok (.aload_n 2, 1) := by decide +kernel
theorem dL_law_2462 : decode cL_law 2462 = .ok (.invokevirtual 280, 3) := by decide +kernel
theorem dL_law_2465 : decode cL_law 2465 = .ok (.lcmp, 1) := by decide +kernel
theorem dL_law_2466 : decode cL_law 2466 = .ok (.ifCond .eq 518, 3) := by decide +kernel
theorem dL_law_2469 : decode cL_law 2469 = .ok (.iconst 0, 1) := by decide +kernel
theorem dL_law_2470 : decode cL_law 2470 = .ok (.ireturn, 1) := by decide +kernel
theorem dL_law_2471 : decode cL_law 2471 = .ok (.aload_n 1, 1) := by decide +kernel
theorem dL_law_2472 : decode cL_law 2472 = .ok (.invokevirtual 281, 3) := by decide +kernel
theorem dL_law_2475 : decode cL_law 2475 = .ok (.dstore 6, 2) := by decide +kernel
theorem dL_law_2477 : decode cL_law 2477 = .ok (.aload_n 2, 1) := by decide +kernel
theorem dL_law_2478 : decode cL_law 2478 = .ok (.invokevirtual 285, 3) := by decide +kernel
theorem dL_law_2481 : decode cL_law 2481 = .ok (.dstore 8, 2) := by decide +kernel
theorem dL_law_2483 : decode cL_law 2483 = .ok (.dload 6, 2) := by decide +kernel
theorem dL_law_2485 : decode cL_law 2485 = .ok (.dload 8, 2) := by decide +kernel
theorem dL_law_2487 : decode cL_law 2487 = .ok (.dcmp .l, 1) := by decide +kernel
theorem dL_law_2488 : decode cL_law 2488 = .ok (.ifCond .eq 21, 3) := by decide +kernel
theorem dL_law_2491 : decode cL_law 2491 = .ok (.dload 6, 2) := by decide +kernel
theorem dL_law_2493 : decode cL_law 2493 = .ok (.dload 6, 2) := by decide +kernel
theorem dL_law_2495 : decode cL_law 2495 = .ok (.dcmp .l, 1) := by decide +kernel
theorem dL_law_2496 : decode cL_law 2496 = .ok (.ifCond .eq 11, 3) := by decide +kernel
theorem dL_law_2499 : decode cL_law 2499 = .ok (.dload 8, 2) := by decide +kernel
theorem dL_law_2501 : decode cL_law 2501 = .ok (.dload 8, 2) := by decide +kernel
