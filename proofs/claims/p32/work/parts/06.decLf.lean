theorem dL_law_2088 : decode cL_law 2088 = .ok (.bipush 101, 2) := by decide +kernel
theorem dL_law_2090 : decode cL_law 2090 = .ok (.irem, 1) := by decide +kernel
theorem dL_law_2091 : decode cL_law 2091 = .ok (.istore 26, 2) := by decide +kernel
theorem dL_law_2093 : decode cL_law 2093 = .ok (.aload_n 1, 1) := by decide +kernel
theorem dL_law_2094 : decode cL_law 2094 = .ok (.iload 25, 2) := by decide +kernel
theorem dL_law_2096 : decode cL_law 2096 = .ok (.iload 26, 2) := by decide +kernel
theorem dL_law_2098 : decode cL_law 2098 = .ok (.invokevirtual 149, 3) := by decide +kernel
theorem dL_law_2101 : decode cL_law 2101 = .ok (.aload 13, 2) := by decide +kernel
theorem dL_law_2103 : decode cL_law 2103 = .ok (.iload 25, 2) := by decide +kernel
theorem dL_law_2105 : decode cL_law 2105 = .ok (.iaload, 1) := by decide +kernel
theorem dL_law_2106 : decode cL_law 2106 = .ok (.if_icmp .ne 7, 3) := by decide +kernel
theorem dL_law_2109 : decode cL_law 2109 = .ok (.iconst 1, 1) := by decide +kernel
theorem dL_law_2110 : decode cL_law 2110 = .ok (.goto 4, 3) := by decide +kernel
theorem dL_law_2113 : decode cL_law 2113 = .ok (.iconst 0, 1) := by decide +kernel
theorem dL_law_2114 : decode cL_law 2114 = .ok (.istore 16, 2) := by decide +kernel
theorem dL_law_2116 : decode cL_law 2116 = .ok (.aload 13, 2) := by decide +kernel
theorem dL_law_2118 : decode cL_law 2118 = .ok (.iload 25, 2) := by decide +kernel
theorem dL_law_2120 : decode cL_law 2120 = .ok (.iload 26, 2) := by decide +kernel
theorem dL_law_2122 : decode cL_law 2122 = .ok (.iastore, 1) := by decide +kernel
theorem dL_law_2123 : decode cL_law 2123 = .ok (.goto 432, 3) := by decide +kernel
theorem dL_law_2126 : decode cL_law 2126 = .ok (.iload 19, 2) := by decide +kernel
theorem dL_law_2128 : decode cL_law 2128 = .ok (.bipush 28, 2) := by decide +kernel
theorem dL_law_2130 : decode cL_law 2130 = .ok (.if_icmp .ne 114, 3) := by decide +kernel
theorem dL_law_2133 : decode cL_law 2133 = .ok (.aload_n 2, 1) := by decide +kernel
theorem dL_law_2134 : decode cL_law 2134 = .ok (.iconst 1, 1) := by decide +kernel
theorem dL_law_2135 : decode cL_law 2135 = .ok (.iaload, 1) := by decide +kernel
theorem dL_law_2136 : decode cL_law 2136 = .ok (.ifCond .le 108, 3) := by decide +kernel
theorem dL_law_2139 : decode cL_law 2139 = .ok (.iconst 1, 1) := by decide +kernel
theorem dL_law_2140 : decode cL_law 2140 = .ok (.iload 20, 2) := by decide +kernel
theorem dL_law_2142 : decode cL_law 2142 = .ok (.bipush 9, 2) := by decide +kernel
theorem dL_law_2144 : decode cL_law 2144 = .ok (.idiv, 1) := by decide +kernel
theorem dL_law_2145 : decode cL_law 2145 = .ok (.sipush 5000, 3) := by decide +kernel
theorem dL_law_2148 : decode cL_law 2148 = .ok (.irem, 1) := by decide +kernel
theorem dL_law_2149 : decode cL_law 2149 = .ok (.iadd, 1) := by decide +kernel
theorem dL_law_2150 : decode cL_law 2150 = .ok (.istore 26, 2) := by decide +kernel
theorem dL_law_2152 : decode cL_law 2152 = .ok (.aload 11, 2) := by decide +kernel
theorem dL_law_2154 : decode cL_law 2154 = .ok (.iload 25, 2) := by decide +kernel
theorem dL_law_2156 : decode cL_law 2156 = .ok (.iaload, 1) := by decide +kernel
theorem dL_law_2157 : decode cL_law 2157 = .ok (.iconst 4, 1) := by decide +kernel
theorem dL_law_2158 : decode cL_law 2158 = .ok (.irem, 1) := by decide +kernel
theorem dL_law_2159 : decode cL_law 2159 = .ok (.istore 27, 2) := by decide +kernel
theorem dL_law_2161 : decode cL_law 2161 = .ok (.iload 27, 2) := by decide +kernel
theorem dL_law_2163 : decode cL_law 2163 = .ok (.iload 23, 2) := by decide +kernel
theorem dL_law_2165 : decode cL_law 2165 = .ok (.if_icmp .ne 7, 3) := by decide +kernel
theorem dL_law_2168 : decode cL_law 2168 = .ok (.iconst 0, 1) := by decide +kernel
theorem dL_law_2169 : decode cL_law 2169 = .ok (.goto 14, 3) := by decide +kernel
theorem dL_law_2172 : decode cL_law 2172 = .ok (.iload 26, 2) := by decide +kernel
theorem dL_law_2174 : decode cL_law 2174 = .ok (.aload 13, 2) := by decide +kernel
theorem dL_law_2176 : decode cL_law 2176 = .ok (.iload 25, 2) := by decide +kernel
theorem dL_law_2178 : decode cL_law 2178 = .ok (.iaload, 1) := by decide +kernel
theorem dL_law_2179 : decode cL_law 2179 = .ok (.imul, 1) := by decide +kernel
theorem dL_law_2180 : decode cL_law 2180 = .ok (.bipush 100, 2) := by decide +kernel
theorem dL_law_2182 : decode cL_law 2182 = .ok (.idiv, 1) := by decide +kernel
theorem dL_law_2183 : decode cL_law 2183 = .ok (.istore 28, 2) := by decide +kernel
theorem dL_law_2185 : decode cL_law 2185 = .ok (.aload 15, 2) := by decide +kernel
theorem dL_law_2187 : decode cL_law 2187 = .ok (.iload 27, 2) := by decide +kernel
theorem dL_law_2189 : decode cL_law 2189 = .ok (.dup2, 1) := by decide +kernel
theorem dL_law_2190 : decode cL_law 2190 = .ok (.iaload, 1) := by decide +kernel
theorem dL_law_2191 : decode cL_law 2191 = .ok (.iload 28, 2) := by decide +kernel
theorem dL_law_2193 : decode cL_law 2193 = .ok (.iadd, 1) := by decide +kernel
theorem dL_law_2194 : decode cL_law 2194 = .ok (.iastore, 1) := by decide +kernel
theorem dL_law_2195 : decode cL_law 2195 = .ok (.aload 15, 2) := by decide +kernel
theorem dL_law_2197 : decode cL_law 2197 = .ok (.iload 23, 2) := by decide +kernel
theorem dL_law_2199 : decode cL_law 2199 = .ok (.dup2, 1) := by decide +kernel
theorem dL_law_2200 : decode cL_law 2200 = .ok (.iaload, 1) := by decide +kernel
theorem dL_law_2201 : decode cL_law 2201 = .ok (.iload 26, 2) := by decide +kernel
theorem dL_law_2203 : decode cL_law 2203 = .ok (.iload 28, 2) := by decide +kernel
theorem dL_law_2205 : decode cL_law 2205 = .ok (.isub, 1) := by decide +kernel
theorem dL_law_2206 : decode cL_law 2206 = .ok (.iadd, 1) := by decide +kernel
theorem dL_law_2207 : decode cL_law 2207 = .ok (.iastore, 1) := by decide +kernel
theorem dL_law_2208 : decode cL_law 2208 = .ok (.aload_n 2, 1) := by decide +kernel
theorem dL_law_2209 : decode cL_law 2209 = .ok (.iconst 5, 1) := by decide +kernel
theorem dL_law_2210 : decode cL_law 2210 = .ok (.dup2, 1) := by decide +kernel
theorem dL_law_2211 : decode cL_law 2211 = .ok (.iaload, 1) := by decide +kernel
theorem dL_law_2212 : decode cL_law 2212 = .ok (.iload 26, 2) := by decide +kernel
theorem dL_law_2214 : decode cL_law 2214 = .ok (.iadd, 1) := by decide +kernel
theorem dL_law_2215 : decode cL_law 2215 = .ok (.iastore, 1) := by decide +kernel
theorem dL_law_2216 : decode cL_law 2216 = .ok (.aload_n 1, 1) := by decide +kernel
theorem dL_law_2217 : decode cL_law 2217 = .ok (.iload 23, 2) := by decide +kernel
theorem dL_law_2219 : decode cL_law 2219 = .ok (.iload 25, 2) := by decide +kernel
theorem dL_law_2221 : decode cL_law 2221 = .ok (.iload 26, 2) := by decide +kernel
theorem dL_law_2223 : decode cL_law 2223 = .ok (.invokevirtual 152, 3) := by decide +kernel
theorem dL_law_2226 : decode cL_law 2226 = .ok (.iload 26, 2) := by decide +kernel
theorem dL_law_2228 : decode cL_law 2228 = .ok (.iload 28, 2) := by decide +kernel
theorem dL_law_2230 : decode cL_law 2230 = .ok (.isub, 1) := by decide +kernel
theorem dL_law_2231 : decode cL_law 2231 = .ok (.if_icmp .ne 7, 3) := by decide +kernel
theorem dL_law_2234 : decode cL_law 2234 = .ok (.iconst 1, 1) := by decide +kernel
theorem dL_law_2235 : decode cL_law 2235 = .ok (.goto 4, 3) := by decide +kernel
theorem dL_law_2238 : decode cL_law 2238 = .ok (.iconst 0, 1) := by decide +kernel
theorem dL_law_2239 : decode cL_law 2239 = .ok (.istore 16, 2) := by decide +kernel
theorem dL_law_2241 : decode cL_law 2241 = .ok (.goto 314, 3) := by decide +kernel
theorem dL_law_2244 : decode cL_law 2244 = .ok (.iload 19, 2) := by decide +kernel
theorem dL_law_2246 : decode cL_law 2246 = .ok (.bipush 29, 2) := by decide +kernel
theorem dL_law_2248 : decode cL_law 2248 = .ok (.if_icmp .ne 115, 3) := by decide +kernel
theorem dL_law_2251 : decode cL_law 2251 = .ok (.iconst 1, 1) := by decide +kernel
theorem dL_law_2252 : decode cL_law 2252 = .ok (.iload 20, 2) := by decide +kernel
theorem dL_law_2254 : decode cL_law 2254 = .ok (.bipush 9, 2) := by decide +kernel
theorem dL_law_2256 : decode cL_law 2256 = .ok (.idiv, 1) := by decide +kernel
theorem dL_law_2257 : decode cL_law 2257 = .ok (.sipush 5000, 3) := by decide +kernel
theorem dL_law_2260 : decode cL_law 2260 = .ok (.irem, 1) := by decide +kernel
theorem dL_law_2261 : decode cL_law 2261 = .ok (.iadd, 1) := by decide +kernel
theorem dL_law_2262 : decode cL_law 2262 = .ok (.istore 26, 2) := by decide +kernel
theorem dL_law_2264 : decode cL_law 2264 = .ok (.iload 20, 2) := by decide +kernel
theorem dL_law_2266 : decode cL_law 2266 = .ok (.iconst 3, 1) := by decide +kernel
theorem dL_law_2267 : decode cL_law 2267 = .ok (.irem, 1) := by decide +kernel
theorem dL_law_2268 : decode cL_law 2268 = .ok (.ifCond .ne 7, 3) := by decide +kernel
theorem dL_law_2271 : decode cL_law 2271 = .ok (.iconst (-1), 1) := by decide +kernel
theorem dL_law_2272 : decode cL_law 2272 = .ok (.goto 5, 3) := by decide +kernel
theorem dL_law_2275 : decode cL_law 2275 = .ok (.iload 24, 2) := by decide +kernel
theorem dL_law_2277 : decode cL_law 2277 = .ok (.istore 27, 2) := by decide +kernel
theorem dL_law_2279 : decode cL_law 2279 = .ok (.iload 27, 2) := by decide +kernel
theorem dL_law_2281 : decode cL_law 2281 = .ok (.ifCond .lt 21, 3) := by decide +kernel
theorem dL_law_2284 : decode cL_law 2284 = .ok (.aload 4, 2) := by decide +kernel
theorem dL_law_2286 : decode cL_law 2286 = .ok (.iload 24, 2) := by decide +kernel
theorem dL_law_2288 : decode cL_law 2288 = .ok (.iaload, 1) := by decide +kernel
theorem dL_law_2289 : decode cL_law 2289 = .ok (.aload_n 2, 1) := by decide +kernel
theorem dL_law_2290 : decode cL_law 2290 = .ok (.iconst 2, 1) := by decide +kernel
theorem dL_law_2291 : decode cL_law 2291 = .ok (.iaload, 1) := by decide +kernel
theorem dL_law_2292 : decode cL_law 2292 = .ok (.if_icmp .lt 10, 3) := by decide +kernel
theorem dL_law_2295 : decode cL_law 2295 = .ok (.iload 26, 2) := by decide +kernel
theorem dL_law_2297 : decode cL_law 2297 = .ok (.iconst 4, 1) := by decide +kernel
theorem dL_law_2298 : decode cL_law 2298 = .ok (.idiv, 1) := by decide +kernel
theorem dL_law_2299 : decode cL_law 2299 = .ok (.goto 4, 3) := by decide +kernel
theorem dL_law_2302 : decode cL_law 2302 = .ok (.iconst 0, 1) := by decide +kernel
theorem dL_law_2303 : decode cL_law 2303 = .ok (.istore 28, 2) := by decide +kernel
theorem dL_law_2305 : decode cL_law 2305 = .ok (.aload 15, 2) := by decide +kernel
theorem dL_law_2307 : decode cL_law 2307 = .ok (.iload 23, 2) := by decide +kernel
theorem dL_law_2309 : decode cL_law 2309 = .ok (.dup2, 1) := by decide +kernel
theorem dL_law_2310 : decode cL_law 2310 = .ok (.iaload, 1) := by decide +kernel
theorem dL_law_2311 : decode cL_law 2311 = .ok (.iload 26, 2) := by decide +kernel
theorem dL_law_2313 : decode cL_law 2313 = .ok (.iload 28, 2) := by decide +kernel
theorem dL_law_2315 : decode cL_law 2315 = .ok (.iadd, 1) := by decide +kernel
theorem dL_law_2316 : decode cL_law 2316 = .ok (.iadd, 1) := by decide +kernel
theorem dL_law_2317 : decode cL_law 2317 = .ok (.iastore, 1) := by decide +kernel
theorem dL_law_2318 : decode cL_law 2318 = .ok (.aload 15, 2) := by decide +kernel
theorem dL_law_2320 : decode cL_law 2320 = .ok (.iconst 4, 1) := by decide +kernel
theorem dL_law_2321 : decode cL_law 2321 = .ok (.dup2, 1) := by decide +kernel
theorem dL_law_2322 : decode cL_law 2322 = .ok (.iaload, 1) := by decide +kernel
theorem dL_law_2323 : decode cL_law 2323 = .ok (.iload 28, 2) := by decide +kernel
theorem dL_law_2325 : decode cL_law 2325 = .ok (.isub, 1) := by decide +kernel
theorem dL_law_2326 : decode cL_law 2326 = .ok (.iastore, 1) := by decide +kernel
theorem dL_law_2327 : decode cL_law 2327 = .ok (.aload_n 2, 1) := by decide +kernel
theorem dL_law_2328 : decode cL_law 2328 = .ok (.iconst 5, 1) := by decide +kernel
theorem dL_law_2329 : decode cL_law 2329 = .ok (.dup2, 1) := by decide +kernel
theorem dL_law_2330 : decode cL_law 2330 = .ok (.iaload, 1) := by decide +kernel
theorem dL_law_2331 : decode cL_law 2331 = .ok (.iload 26, 2) := by decide +kernel
theorem dL_law_2333 : decode cL_law 2333 = .ok (.iadd, 1) := by decide +kernel
theorem dL_law_2334 : decode cL_law 2334 = .ok (.iastore, 1) := by decide +kernel
theorem dL_law_2335 : decode cL_law 2335 = .ok (.aload_n 1, 1) := by decide +kernel
theorem dL_law_2336 : decode cL_law 2336 = .ok (.iload 23, 2) := by decide +kernel
theorem dL_law_2338 : decode cL_law 2338 = .ok (.iload 26, 2) := by decide +kernel
theorem dL_law_2340 : decode cL_law 2340 = .ok (.iload 27, 2) := by decide +kernel
theorem dL_law_2342 : decode cL_law 2342 = .ok (.invokevirtual 155, 3) := by decide +kernel
theorem dL_law_2345 : decode cL_law 2345 = .ok (.iload 26, 2) := by decide +kernel
theorem dL_law_2347 : decode cL_law 2347 = .ok (.iload 28, 2) := by decide +kernel
theorem dL_law_2349 : decode cL_law 2349 = .ok (.iadd, 1) := by decide +kernel
theorem dL_law_2350 : decode cL_law 2350 = .ok (.if_icmp .ne 7, 3) := by decide +kernel
theorem dL_law_2353 : decode cL_law 2353 = .ok (.iconst 1, 1) := by decide +kernel
theorem dL_law_2354 : decode cL_law 2354 = .ok (.goto 4, 3) := by decide +kernel
theorem dL_law_2357 : decode cL_law 2357 = .ok (.iconst 0, 1) := by decide +kernel
theorem dL_law_2358 : decode cL_law 2358 = .ok (.istore 16, 2) := by decide +kernel
theorem dL_law_2360 : decode cL_law 2360 = .ok (.goto 195, 3) := by decide +kernel
theorem dL_law_2363 : decode cL_law 2363 = .ok (.iload 19, 2) := by decide +kernel
theorem dL_law_2365 : decode cL_law 2365 = .ok (.bipush 30, 2) := by decide +kernel
theorem dL_law_2367 : decode cL_law 2367 = .ok (.if_icmp .ne 106, 3) := by decide +kernel
theorem dL_law_2370 : decode cL_law 2370 = .ok (.iload 20, 2) := by decide +kernel
theorem dL_law_2372 : decode cL_law 2372 = .ok (.iconst 5, 1) := by decide +kernel
theorem dL_law_2373 : decode cL_law 2373 = .ok (.idiv, 1) := by decide +kernel
theorem dL_law_2374 : decode cL_law 2374 = .ok (.sipush 2001, 3) := by decide +kernel
theorem dL_law_2377 : decode cL_law 2377 = .ok (.irem, 1) := by decide +kernel
theorem dL_law_2378 : decode cL_law 2378 = .ok (.istore 26, 2) := by decide +kernel
theorem dL_law_2380 : decode cL_law 2380 = .ok (.iload 20, 2) := by decide +kernel
theorem dL_law_2382 : decode cL_law 2382 = .ok (.iconst 5, 1) := by decide +kernel
theorem dL_law_2383 : decode cL_law 2383 = .ok (.irem, 1) := by decide +kernel
theorem dL_law_2384 : decode cL_law 2384 = .ok (.ifCond .ne 7, 3) := by decide +kernel
theorem dL_law_2387 : decode cL_law 2387 = .ok (.iconst 1, 1) := by decide +kernel
theorem dL_law_2388 : decode cL_law 2388 = .ok (.goto 4, 3) := by decide +kernel
theorem dL_law_2391 : decode cL_law 2391 = .ok (.iconst 0, 1) := by decide +kernel
theorem dL_law_2392 : decode cL_law 2392 = .ok (.istore 27, 2) := by decide +kernel
theorem dL_law_2394 : decode cL_law 2394 = .ok (.aload_n 1, 1) := by decide +kernel
theorem dL_law_2395 : decode cL_law 2395 = .ok (.iload 27, 2) := by decide +kernel
theorem dL_law_2397 : decode cL_law 2397 = .ok (.ifCond .eq 7, 3) := by decide +kernel
theorem dL_law_2400 : decode cL_law 2400 = .ok (.iconst (-1), 1) := by decide +kernel
theorem dL_law_2401 : decode cL_law 2401 = .ok (.goto 5, 3) := by decide +kernel
theorem dL_law_2404 : decode cL_law 2404 = .ok (.iload 23, 2) := by decide +kernel
theorem dL_law_2406 : decode cL_law 2406 = .ok (.iload 26, 2) := by decide +kernel
theorem dL_law_2408 : decode cL_law 2408 = .ok (.invokevirtual 158, 3) := by decide +kernel
theorem dL_law_2411 : decode cL_law 2411 = .ok (.iload 27, 2) := by decide +kernel
theorem dL_law_2413 : decode cL_law 2413 = .ok (.ifCond .eq 9, 3) := by decide +kernel
theorem dL_law_2416 : decode cL_law 2416 = .ok (.aload_n 2, 1) := by decide +kernel
theorem dL_law_2417 : decode cL_law 2417 = .ok (.iconst 3, 1) := by decide +kernel
theorem dL_law_2418 : decode cL_law 2418 = .ok (.iaload, 1) := by decide +kernel
theorem dL_law_2419 : decode cL_law 2419 = .ok (.goto 7, 3) := by decide +kernel
theorem dL_law_2422 : decode cL_law 2422 = .ok (.aload_n 3, 1) := by decide +kernel
theorem dL_law_2423 : decode cL_law 2423 = .ok (.iload 23, 2) := by decide +kernel
theorem dL_law_2425 : decode cL_law 2425 = .ok (.iaload, 1) := by decide +kernel
theorem dL_law_2426 : decode cL_law 2426 = .ok (.if_icmp .ne 7, 3) := by decide +kernel
theorem dL_law_2429 : decode cL_law 2429 = .ok (.iconst 1, 1) := by decide +kernel
theorem dL_law_2430 : decode cL_law 2430 = .ok (.goto 4, 3) := by decide +kernel
theorem dL_law_2433 : decode cL_law 2433 = .ok (.iconst 0, 1) := by decide +kernel
theorem dL_law_2434 : decode cL_law 2434 = .ok (.istore 16, 2) := by decide +kernel
theorem dL_law_2436 : decode cL_law 2436 = .ok (.aload_n 2, 1) := by decide +kernel
theorem dL_law_2437 : decode cL_law 2437 = .ok (.iconst 3, 1) := by decide +kernel
theorem dL_law_2438 : decode cL_law 2438 = .ok (.iload 27, 2) := by decide +kernel
theorem dL_law_2440 : decode cL_law 2440 = .ok (.ifCond .eq 8, 3) := by decide +kernel
theorem dL_law_2443 : decode cL_law 2443 = .ok (.iload 26, 2) := by decide +kernel
theorem dL_law_2445 : decode cL_law 2445 = .ok (.goto 6, 3) := by decide +kernel
theorem dL_law_2448 : decode cL_law 2448 = .ok (.aload_n 2, 1) := by decide +kernel
theorem dL_law_2449 : decode cL_law 2449 = .ok (.iconst 3, 1) := by decide +kernel
theorem dL_law_2450 : decode cL_law 2450 = .ok (.iaload, 1) := by decide +kernel
theorem dL_law_2451 : decode cL_law 2451 = .ok (.iastore, 1) := by decide +kernel
theorem dL_law_2452 : decode cL_law 2452 = .ok (.aload_n 3, 1) := by decide +kernel
theorem dL_law_2453 : decode cL_law 2453 = .ok (.iload 23, 2) := by decide +kernel
theorem dL_law_2455 : decode cL_law 2455 = .ok (.iload 27, 2) := by decide +kernel
theorem dL_law_2457 : decode cL_law 2457 = .ok (.ifCond .eq 10, 3) := by decide +kernel
theorem dL_law_2460 : decode cL_law 2460 = .ok (.aload_n 3, 1) := by decide +kernel
theorem dL_law_2461 : decode cL_law 2461 = .ok (.iload 23, 2) := by decide +kernel
theorem dL_law_2463 : decode cL_law 2463 = .ok (.iaload, 1) := by decide +kernel
theorem dL_law_2464 : decode cL_law 2464 = .ok (.goto 5, 3) := by decide +kernel
theorem dL_law_2467 : decode cL_law 2467 = .ok (.iload 26, 2) := by decide +kernel
theorem dL_law_2469 : decode cL_law 2469 = .ok (.iastore, 1) := by decide +kernel
theorem dL_law_2470 : decode cL_law 2470 = .ok (.goto 85, 3) := by decide +kernel
theorem dL_law_2473 : decode cL_law 2473 = .ok (.aload_n 2, 1) := by decide +kernel
theorem dL_law_2474 : decode cL_law 2474 = .ok (.iconst 2, 1) := by decide +kernel
theorem dL_law_2475 : decode cL_law 2475 = .ok (.iaload, 1) := by decide +kernel
theorem dL_law_2476 : decode cL_law 2476 = .ok (.sipush 1900, 3) := by decide +kernel
theorem dL_law_2479 : decode cL_law 2479 = .ok (.if_icmp .ge 76, 3) := by decide +kernel
theorem dL_law_2482 : decode cL_law 2482 = .ok (.iload 20, 2) := by decide +kernel
theorem dL_law_2484 : decode cL_law 2484 = .ok (.iconst 3, 1) := by decide +kernel
theorem dL_law_2485 : decode cL_law 2485 = .ok (.irem, 1) := by decide +kernel
theorem dL_law_2486 : decode cL_law 2486 = .ok (.ifCond .ne 15, 3) := by decide +kernel
theorem dL_law_2489 : decode cL_law 2489 = .ok (.iconst 1, 1) := by decide +kernel
theorem dL_law_2490 : decode cL_law 2490 = .ok (.iload 20, 2) := by decide +kernel
theorem dL_law_2492 : decode cL_law 2492 = .ok (.iconst 3, 1) := by decide +kernel
theorem dL_law_2493 : decode cL_law 2493 = .ok (.idiv, 1) := by decide +kernel
theorem dL_law_2494 : decode cL_law 2494 = .ok (.bipush 12, 2) := by decide +kernel
theorem dL_law_2496 : decode cL_law 2496 = .ok (.irem, 1) := by decide +kernel
theorem dL_law_2497 : decode cL_law 2497 = .ok (.iadd, 1) := by decide +kernel
theorem dL_law_2498 : decode cL_law 2498 = .ok (.goto 4, 3) := by decide +kernel
theorem dL_law_2501 : decode cL_law 2501 = .ok (.iconst 1, 1) := by decide +kernel
theorem dL_law_2502 : decode cL_law 2502 = .ok (.istore 26, 2) := by decide +kernel
theorem dL_law_2504 : decode cL_law 2504 = .ok (.iconst 0, 1) := by decide +kernel
theorem dL_law_2505 : decode cL_law 2505 = .ok (.istore 27, 2) := by decide +kernel
theorem dL_law_2507 : decode cL_law 2507 = .ok (.iload 27, 2) := by decide +kernel
theorem dL_law_2509 : decode cL_law 2509 = .ok (.iload 26, 2) := by decide +kernel
theorem dL_law_2511 : decode cL_law 2511 = .ok (.if_icmp .ge 25, 3) := by decide +kernel
theorem dL_law_2514 : decode cL_law 2514 = .ok (.aload_n 2, 1) := by decide +kernel
theorem dL_law_2515 : decode cL_law 2515 = .ok (.aload 4, 2) := by decide +kernel
theorem dL_law_2517 : decode cL_law 2517 = .ok (.aload 5, 2) := by decide +kernel
theorem dL_law_2519 : decode cL_law 2519 = .ok (.aload 6, 2) := by decide +kernel
theorem dL_law_2521 : decode cL_law 2521 = .ok (.aload 7, 2) := by decide +kernel
theorem dL_law_2523 : decode cL_law 2523 = .ok (.aload 8, 2) := by decide +kernel
theorem dL_law_2525 : decode cL_law 2525 = .ok (.aload 15, 2) := by decide +kernel
theorem dL_law_2527 : decode cL_law 2527 = .ok (.invokestatic 161, 3) := by decide +kernel
theorem dL_law_2530 : decode cL_law 2530 = .ok (.iinc 27 1, 3) := by decide +kernel
theorem dL_law_2533 : decode cL_law 2533 = .ok (.goto (-26), 3) := by decide +kernel
theorem dL_law_2536 : decode cL_law 2536 = .ok (.aload_n 1, 1) := by decide +kernel
theorem dL_law_2537 : decode cL_law 2537 = .ok (.iload 26, 2) := by decide +kernel
theorem dL_law_2539 : decode cL_law 2539 = .ok (.invokevirtual 165, 3) := by decide +kernel
theorem dL_law_2542 : decode cL_law 2542 = .ok (.aload_n 2, 1) := by decide +kernel
theorem dL_law_2543 : decode cL_law 2543 = .ok (.iconst 2, 1) := by decide +kernel
theorem dL_law_2544 : decode cL_law 2544 = .ok (.iaload, 1) := by decide +kernel
theorem dL_law_2545 : decode cL_law 2545 = .ok (.if_icmp .ne 7, 3) := by decide +kernel
theorem dL_law_2548 : decode cL_law 2548 = .ok (.iconst 1, 1) := by decide +kernel
theorem dL_law_2549 : decode cL_law 2549 = .ok (.goto 4, 3) := by decide +kernel
theorem dL_law_2552 : decode cL_law 2552 = .ok (.iconst 0, 1) := by decide +kernel
theorem dL_law_2553 : decode cL_law 2553 = .ok (.istore 16, 2) := by decide +kernel
theorem dL_law_2555 : decode cL_law 2555 = .ok (.iload 16, 2) := by decide +kernel
theorem dL_law_2557 : decode cL_law 2557 = .ok (.ifCond .eq 43, 3) := by decide +kernel
theorem dL_law_2560 : decode cL_law 2560 = .ok (.iload 17, 2) := by decide +kernel
theorem dL_law_2562 : decode cL_law 2562 = .ok (.iconst 4, 1) := by decide +kernel
theorem dL_law_2563 : decode cL_law 2563 = .ok (.irem, 1) := by decide +kernel
theorem dL_law_2564 : decode cL_law 2564 = .ok (.iconst 3, 1) := by decide +kernel
theorem dL_law_2565 : decode cL_law 2565 = .ok (.if_icmp .lt 31, 3) := by decide +kernel
theorem dL_law_2568 : decode cL_law 2568 = .ok (.aload_n 1, 1) := by decide +kernel
theorem dL_law_2569 : decode cL_law 2569 = .ok (.aload_n 2, 1) := by decide +kernel
theorem dL_law_2570 : decode cL_law 2570 = .ok (.aload 4, 2) := by decide +kernel
theorem dL_law_2572 : decode cL_law 2572 = .ok (.aload 5, 2) := by decide +kernel
theorem dL_law_2574 : decode cL_law 2574 = .ok (.aload 6, 2) := by decide +kernel
theorem dL_law_2576 : decode cL_law 2576 = .ok (.aload 7, 2) := by decide +kernel
theorem dL_law_2578 : decode cL_law 2578 = .ok (.aload 8, 2) := by decide +kernel
theorem dL_law_2580 : decode cL_law 2580 = .ok (.aload 9, 2) := by decide +kernel
theorem dL_law_2582 : decode cL_law 2582 = .ok (.aload 11, 2) := by decide +kernel
theorem dL_law_2584 : decode cL_law 2584 = .ok (.aload 14, 2) := by decide +kernel
theorem dL_law_2586 : decode cL_law 2586 = .ok (.aload 15, 2) := by decide +kernel
theorem dL_law_2588 : decode cL_law 2588 = .ok (.iload 20, 2) := by decide +kernel
theorem dL_law_2590 : decode cL_law 2590 = .ok (.invokestatic 121, 3) := by decide +kernel
theorem dL_law_2593 : decode cL_law 2593 = .ok (.ifCond .eq 7, 3) := by decide +kernel
theorem dL_law_2596 : decode cL_law 2596 = .ok (.iconst 1, 1) := by decide +kernel
theorem dL_law_2597 : decode cL_law 2597 = .ok (.goto 4, 3) := by decide +kernel
theorem dL_law_2600 : decode cL_law 2600 = .ok (.iconst 0, 1) := by decide +kernel
theorem dL_law_2601 : decode cL_law 2601 = .ok (.istore 16, 2) := by decide +kernel
theorem dL_law_2603 : decode cL_law 2603 = .ok (.iinc 17 1, 3) := by decide +kernel
theorem dL_law_2606 : decode cL_law 2606 = .ok (.goto (-2443), 3) := by decide +kernel
theorem dL_law_2609 : decode cL_law 2609 = .ok (.iload 16, 2) := by decide +kernel
theorem dL_law_2611 : decode cL_law 2611 = .ok (.ifCond .eq 34, 3) := by decide +kernel
theorem dL_law_2614 : decode cL_law 2614 = .ok (.aload_n 1, 1) := by decide +kernel
theorem dL_law_2615 : decode cL_law 2615 = .ok (.aload_n 2, 1) := by decide +kernel
theorem dL_law_2616 : decode cL_law 2616 = .ok (.aload 4, 2) := by decide +kernel
theorem dL_law_2618 : decode cL_law 2618 = .ok (.aload 5, 2) := by decide +kernel
