/-! DECODE ROWS -/
theorem d_L_law_2142 : decode (mi_code n_L_law) 2142 = .ok (.ifCond .eq 5, 3) := by decide +kernel
theorem d_L_law_2145 : decode (mi_code n_L_law) 2145 = .ok (.iconst 0, 1) := by decide +kernel
theorem d_L_law_2146 : decode (mi_code n_L_law) 2146 = .ok (.ireturn, 1) := by decide +kernel
theorem d_L_law_2147 : decode (mi_code n_L_law) 2147 = .ok (.goto 418, 3) := by decide +kernel
theorem d_L_law_2150 : decode (mi_code n_L_law) 2150 = .ok (.aload_n 1, 1) := by decide +kernel
theorem d_L_law_2151 : decode (mi_code n_L_law) 2151 = .ok (.aload_n 0, 1) := by decide +kernel
theorem d_L_law_2152 : decode (mi_code n_L_law) 2152 = .ok (.iload 4, 2) := by decide +kernel
theorem d_L_law_2154 : decode (mi_code n_L_law) 2154 = .ok (.iconst 1, 1) := by decide +kernel
theorem d_L_law_2155 : decode (mi_code n_L_law) 2155 = .ok (.iadd, 1) := by decide +kernel
theorem d_L_law_2156 : decode (mi_code n_L_law) 2156 = .ok (.iaload, 1) := by decide +kernel
theorem d_L_law_2157 : decode (mi_code n_L_law) 2157 = .ok (.aload_n 0, 1) := by decide +kernel
theorem d_L_law_2158 : decode (mi_code n_L_law) 2158 = .ok (.iload 4, 2) := by decide +kernel
theorem d_L_law_2160 : decode (mi_code n_L_law) 2160 = .ok (.iconst 2, 1) := by decide +kernel
theorem d_L_law_2161 : decode (mi_code n_L_law) 2161 = .ok (.iadd, 1) := by decide +kernel
theorem d_L_law_2162 : decode (mi_code n_L_law) 2162 = .ok (.iaload, 1) := by decide +kernel
theorem d_L_law_2163 : decode (mi_code n_L_law) 2163 = .ok (.aload_n 0, 1) := by decide +kernel
theorem d_L_law_2164 : decode (mi_code n_L_law) 2164 = .ok (.iload 4, 2) := by decide +kernel
theorem d_L_law_2166 : decode (mi_code n_L_law) 2166 = .ok (.iconst 3, 1) := by decide +kernel
theorem d_L_law_2167 : decode (mi_code n_L_law) 2167 = .ok (.iadd, 1) := by decide +kernel
theorem d_L_law_2168 : decode (mi_code n_L_law) 2168 = .ok (.iaload, 1) := by decide +kernel
theorem d_L_law_2169 : decode (mi_code n_L_law) 2169 = .ok (.aload_n 0, 1) := by decide +kernel
theorem d_L_law_2170 : decode (mi_code n_L_law) 2170 = .ok (.iload 4, 2) := by decide +kernel
theorem d_L_law_2172 : decode (mi_code n_L_law) 2172 = .ok (.iconst 4, 1) := by decide +kernel
theorem d_L_law_2173 : decode (mi_code n_L_law) 2173 = .ok (.iadd, 1) := by decide +kernel
theorem d_L_law_2174 : decode (mi_code n_L_law) 2174 = .ok (.iaload, 1) := by decide +kernel
theorem d_L_law_2175 : decode (mi_code n_L_law) 2175 = .ok (.aload_n 3, 1) := by decide +kernel
theorem d_L_law_2176 : decode (mi_code n_L_law) 2176 = .ok (.invokestatic 225, 3) := by decide +kernel
theorem d_L_law_2179 : decode (mi_code n_L_law) 2179 = .ok (.istore 5, 2) := by decide +kernel
theorem d_L_law_2181 : decode (mi_code n_L_law) 2181 = .ok (.aload_n 2, 1) := by decide +kernel
theorem d_L_law_2182 : decode (mi_code n_L_law) 2182 = .ok (.aload_n 0, 1) := by decide +kernel
theorem d_L_law_2183 : decode (mi_code n_L_law) 2183 = .ok (.iload 4, 2) := by decide +kernel
theorem d_L_law_2185 : decode (mi_code n_L_law) 2185 = .ok (.iconst 1, 1) := by decide +kernel
theorem d_L_law_2186 : decode (mi_code n_L_law) 2186 = .ok (.iadd, 1) := by decide +kernel
theorem d_L_law_2187 : decode (mi_code n_L_law) 2187 = .ok (.iaload, 1) := by decide +kernel
theorem d_L_law_2188 : decode (mi_code n_L_law) 2188 = .ok (.aload_n 0, 1) := by decide +kernel
theorem d_L_law_2189 : decode (mi_code n_L_law) 2189 = .ok (.iload 4, 2) := by decide +kernel
theorem d_L_law_2191 : decode (mi_code n_L_law) 2191 = .ok (.iconst 2, 1) := by decide +kernel
theorem d_L_law_2192 : decode (mi_code n_L_law) 2192 = .ok (.iadd, 1) := by decide +kernel
theorem d_L_law_2193 : decode (mi_code n_L_law) 2193 = .ok (.iaload, 1) := by decide +kernel
theorem d_L_law_2194 : decode (mi_code n_L_law) 2194 = .ok (.aload_n 0, 1) := by decide +kernel
theorem d_L_law_2195 : decode (mi_code n_L_law) 2195 = .ok (.iload 4, 2) := by decide +kernel
theorem d_L_law_2197 : decode (mi_code n_L_law) 2197 = .ok (.iconst 3, 1) := by decide +kernel
theorem d_L_law_2198 : decode (mi_code n_L_law) 2198 = .ok (.iadd, 1) := by decide +kernel
theorem d_L_law_2199 : decode (mi_code n_L_law) 2199 = .ok (.iaload, 1) := by decide +kernel
theorem d_L_law_2200 : decode (mi_code n_L_law) 2200 = .ok (.aload_n 0, 1) := by decide +kernel
theorem d_L_law_2201 : decode (mi_code n_L_law) 2201 = .ok (.iload 4, 2) := by decide +kernel
theorem d_L_law_2203 : decode (mi_code n_L_law) 2203 = .ok (.iconst 4, 1) := by decide +kernel
theorem d_L_law_2204 : decode (mi_code n_L_law) 2204 = .ok (.iadd, 1) := by decide +kernel
theorem d_L_law_2205 : decode (mi_code n_L_law) 2205 = .ok (.iaload, 1) := by decide +kernel
theorem d_L_law_2206 : decode (mi_code n_L_law) 2206 = .ok (.invokevirtual 227, 3) := by decide +kernel
theorem d_L_law_2209 : decode (mi_code n_L_law) 2209 = .ok (.istore 6, 2) := by decide +kernel
theorem d_L_law_2211 : decode (mi_code n_L_law) 2211 = .ok (.aload_n 2, 1) := by decide +kernel
theorem d_L_law_2212 : decode (mi_code n_L_law) 2212 = .ok (.invokevirtual 134, 3) := by decide +kernel
theorem d_L_law_2215 : decode (mi_code n_L_law) 2215 = .ok (.iload 5, 2) := by decide +kernel
theorem d_L_law_2217 : decode (mi_code n_L_law) 2217 = .ok (.if_icmp .eq 5, 3) := by decide +kernel
theorem d_L_law_2220 : decode (mi_code n_L_law) 2220 = .ok (.iconst 0, 1) := by decide +kernel
theorem d_L_law_2221 : decode (mi_code n_L_law) 2221 = .ok (.ireturn, 1) := by decide +kernel
theorem d_L_law_2222 : decode (mi_code n_L_law) 2222 = .ok (.iload 5, 2) := by decide +kernel
theorem d_L_law_2224 : decode (mi_code n_L_law) 2224 = .ok (.ifCond .ne 15, 3) := by decide +kernel
theorem d_L_law_2227 : decode (mi_code n_L_law) 2227 = .ok (.aload_n 3, 1) := by decide +kernel
theorem d_L_law_2228 : decode (mi_code n_L_law) 2228 = .ok (.iconst 0, 1) := by decide +kernel
theorem d_L_law_2229 : decode (mi_code n_L_law) 2229 = .ok (.laload, 1) := by decide +kernel
theorem d_L_law_2230 : decode (mi_code n_L_law) 2230 = .ok (.iload 6, 2) := by decide +kernel
theorem d_L_law_2232 : decode (mi_code n_L_law) 2232 = .ok (.i2l, 1) := by decide +kernel
theorem d_L_law_2233 : decode (mi_code n_L_law) 2233 = .ok (.lcmp, 1) := by decide +kernel
theorem d_L_law_2234 : decode (mi_code n_L_law) 2234 = .ok (.ifCond .eq 5, 3) := by decide +kernel
theorem d_L_law_2237 : decode (mi_code n_L_law) 2237 = .ok (.iconst 0, 1) := by decide +kernel
theorem d_L_law_2238 : decode (mi_code n_L_law) 2238 = .ok (.ireturn, 1) := by decide +kernel
theorem d_L_law_2239 : decode (mi_code n_L_law) 2239 = .ok (.goto 326, 3) := by decide +kernel
theorem d_L_law_2242 : decode (mi_code n_L_law) 2242 = .ok (.aload_n 1, 1) := by decide +kernel
theorem d_L_law_2243 : decode (mi_code n_L_law) 2243 = .ok (.aload_n 0, 1) := by decide +kernel
theorem d_L_law_2244 : decode (mi_code n_L_law) 2244 = .ok (.iload 4, 2) := by decide +kernel
theorem d_L_law_2246 : decode (mi_code n_L_law) 2246 = .ok (.iconst 1, 1) := by decide +kernel
theorem d_L_law_2247 : decode (mi_code n_L_law) 2247 = .ok (.iadd, 1) := by decide +kernel
theorem d_L_law_2248 : decode (mi_code n_L_law) 2248 = .ok (.iaload, 1) := by decide +kernel
theorem d_L_law_2249 : decode (mi_code n_L_law) 2249 = .ok (.aload_n 3, 1) := by decide +kernel
theorem d_L_law_2250 : decode (mi_code n_L_law) 2250 = .ok (.invokestatic 228, 3) := by decide +kernel
theorem d_L_law_2253 : decode (mi_code n_L_law) 2253 = .ok (.istore 5, 2) := by decide +kernel
theorem d_L_law_2255 : decode (mi_code n_L_law) 2255 = .ok (.aload_n 2, 1) := by decide +kernel
theorem d_L_law_2256 : decode (mi_code n_L_law) 2256 = .ok (.aload_n 0, 1) := by decide +kernel
theorem d_L_law_2257 : decode (mi_code n_L_law) 2257 = .ok (.iload 4, 2) := by decide +kernel
theorem d_L_law_2259 : decode (mi_code n_L_law) 2259 = .ok (.iconst 1, 1) := by decide +kernel
theorem d_L_law_2260 : decode (mi_code n_L_law) 2260 = .ok (.iadd, 1) := by decide +kernel
theorem d_L_law_2261 : decode (mi_code n_L_law) 2261 = .ok (.iaload, 1) := by decide +kernel
theorem d_L_law_2262 : decode (mi_code n_L_law) 2262 = .ok (.invokevirtual 230, 3) := by decide +kernel
theorem d_L_law_2265 : decode (mi_code n_L_law) 2265 = .ok (.istore 6, 2) := by decide +kernel
theorem d_L_law_2267 : decode (mi_code n_L_law) 2267 = .ok (.aload_n 2, 1) := by decide +kernel
theorem d_L_law_2268 : decode (mi_code n_L_law) 2268 = .ok (.invokevirtual 134, 3) := by decide +kernel
theorem d_L_law_2271 : decode (mi_code n_L_law) 2271 = .ok (.iload 5, 2) := by decide +kernel
theorem d_L_law_2273 : decode (mi_code n_L_law) 2273 = .ok (.if_icmp .eq 5, 3) := by decide +kernel
theorem d_L_law_2276 : decode (mi_code n_L_law) 2276 = .ok (.iconst 0, 1) := by decide +kernel
theorem d_L_law_2277 : decode (mi_code n_L_law) 2277 = .ok (.ireturn, 1) := by decide +kernel
theorem d_L_law_2278 : decode (mi_code n_L_law) 2278 = .ok (.iload 5, 2) := by decide +kernel
theorem d_L_law_2280 : decode (mi_code n_L_law) 2280 = .ok (.ifCond .ne 15, 3) := by decide +kernel
theorem d_L_law_2283 : decode (mi_code n_L_law) 2283 = .ok (.aload_n 3, 1) := by decide +kernel
theorem d_L_law_2284 : decode (mi_code n_L_law) 2284 = .ok (.iconst 0, 1) := by decide +kernel
theorem d_L_law_2285 : decode (mi_code n_L_law) 2285 = .ok (.laload, 1) := by decide +kernel
theorem d_L_law_2286 : decode (mi_code n_L_law) 2286 = .ok (.iload 6, 2) := by decide +kernel
theorem d_L_law_2288 : decode (mi_code n_L_law) 2288 = .ok (.i2l, 1) := by decide +kernel
theorem d_L_law_2289 : decode (mi_code n_L_law) 2289 = .ok (.lcmp, 1) := by decide +kernel
theorem d_L_law_2290 : decode (mi_code n_L_law) 2290 = .ok (.ifCond .eq 5, 3) := by decide +kernel
theorem d_L_law_2293 : decode (mi_code n_L_law) 2293 = .ok (.iconst 0, 1) := by decide +kernel
theorem d_L_law_2294 : decode (mi_code n_L_law) 2294 = .ok (.ireturn, 1) := by decide +kernel
theorem d_L_law_2295 : decode (mi_code n_L_law) 2295 = .ok (.goto 270, 3) := by decide +kernel
theorem d_L_law_2298 : decode (mi_code n_L_law) 2298 = .ok (.aload_n 1, 1) := by decide +kernel
theorem d_L_law_2299 : decode (mi_code n_L_law) 2299 = .ok (.aload_n 0, 1) := by decide +kernel
theorem d_L_law_2300 : decode (mi_code n_L_law) 2300 = .ok (.iload 4, 2) := by decide +kernel
theorem d_L_law_2302 : decode (mi_code n_L_law) 2302 = .ok (.iconst 1, 1) := by decide +kernel
theorem d_L_law_2303 : decode (mi_code n_L_law) 2303 = .ok (.iadd, 1) := by decide +kernel
theorem d_L_law_2304 : decode (mi_code n_L_law) 2304 = .ok (.iaload, 1) := by decide +kernel
theorem d_L_law_2305 : decode (mi_code n_L_law) 2305 = .ok (.aload_n 0, 1) := by decide +kernel
theorem d_L_law_2306 : decode (mi_code n_L_law) 2306 = .ok (.iload 4, 2) := by decide +kernel
theorem d_L_law_2308 : decode (mi_code n_L_law) 2308 = .ok (.iconst 2, 1) := by decide +kernel
theorem d_L_law_2309 : decode (mi_code n_L_law) 2309 = .ok (.iadd, 1) := by decide +kernel
theorem d_L_law_2310 : decode (mi_code n_L_law) 2310 = .ok (.iaload, 1) := by decide +kernel
theorem d_L_law_2311 : decode (mi_code n_L_law) 2311 = .ok (.aload_n 0, 1) := by decide +kernel
theorem d_L_law_2312 : decode (mi_code n_L_law) 2312 = .ok (.iload 4, 2) := by decide +kernel
theorem d_L_law_2314 : decode (mi_code n_L_law) 2314 = .ok (.iconst 3, 1) := by decide +kernel
theorem d_L_law_2315 : decode (mi_code n_L_law) 2315 = .ok (.iadd, 1) := by decide +kernel
theorem d_L_law_2316 : decode (mi_code n_L_law) 2316 = .ok (.iaload, 1) := by decide +kernel
theorem d_L_law_2317 : decode (mi_code n_L_law) 2317 = .ok (.aload_n 3, 1) := by decide +kernel
theorem d_L_law_2318 : decode (mi_code n_L_law) 2318 = .ok (.invokestatic 231, 3) := by decide +kernel
theorem d_L_law_2321 : decode (mi_code n_L_law) 2321 = .ok (.istore 5, 2) := by decide +kernel
theorem d_L_law_2323 : decode (mi_code n_L_law) 2323 = .ok (.aload_n 2, 1) := by decide +kernel
theorem d_L_law_2324 : decode (mi_code n_L_law) 2324 = .ok (.aload_n 0, 1) := by decide +kernel
theorem d_L_law_2325 : decode (mi_code n_L_law) 2325 = .ok (.iload 4, 2) := by decide +kernel
theorem d_L_law_2327 : decode (mi_code n_L_law) 2327 = .ok (.iconst 1, 1) := by decide +kernel
theorem d_L_law_2328 : decode (mi_code n_L_law) 2328 = .ok (.iadd, 1) := by decide +kernel
theorem d_L_law_2329 : decode (mi_code n_L_law) 2329 = .ok (.iaload, 1) := by decide +kernel
theorem d_L_law_2330 : decode (mi_code n_L_law) 2330 = .ok (.aload_n 0, 1) := by decide +kernel
theorem d_L_law_2331 : decode (mi_code n_L_law) 2331 = .ok (.iload 4, 2) := by decide +kernel
theorem d_L_law_2333 : decode (mi_code n_L_law) 2333 = .ok (.iconst 2, 1) := by decide +kernel
theorem d_L_law_2334 : decode (mi_code n_L_law) 2334 = .ok (.iadd, 1) := by decide +kernel
theorem d_L_law_2335 : decode (mi_code n_L_law) 2335 = .ok (.iaload, 1) := by decide +kernel
theorem d_L_law_2336 : decode (mi_code n_L_law) 2336 = .ok (.aload_n 0, 1) := by decide +kernel
theorem d_L_law_2337 : decode (mi_code n_L_law) 2337 = .ok (.iload 4, 2) := by decide +kernel
theorem d_L_law_2339 : decode (mi_code n_L_law) 2339 = .ok (.iconst 3, 1) := by decide +kernel
theorem d_L_law_2340 : decode (mi_code n_L_law) 2340 = .ok (.iadd, 1) := by decide +kernel
theorem d_L_law_2341 : decode (mi_code n_L_law) 2341 = .ok (.iaload, 1) := by decide +kernel
theorem d_L_law_2342 : decode (mi_code n_L_law) 2342 = .ok (.invokevirtual 233, 3) := by decide +kernel
theorem d_L_law_2345 : decode (mi_code n_L_law) 2345 = .ok (.istore 6, 2) := by decide +kernel
theorem d_L_law_2347 : decode (mi_code n_L_law) 2347 = .ok (.aload_n 2, 1) := by decide +kernel
theorem d_L_law_2348 : decode (mi_code n_L_law) 2348 = .ok (.invokevirtual 134, 3) := by decide +kernel
theorem d_L_law_2351 : decode (mi_code n_L_law) 2351 = .ok (.iload 5, 2) := by decide +kernel
theorem d_L_law_2353 : decode (mi_code n_L_law) 2353 = .ok (.if_icmp .eq 5, 3) := by decide +kernel
theorem d_L_law_2356 : decode (mi_code n_L_law) 2356 = .ok (.iconst 0, 1) := by decide +kernel
theorem d_L_law_2357 : decode (mi_code n_L_law) 2357 = .ok (.ireturn, 1) := by decide +kernel
theorem d_L_law_2358 : decode (mi_code n_L_law) 2358 = .ok (.iload 5, 2) := by decide +kernel
theorem d_L_law_2360 : decode (mi_code n_L_law) 2360 = .ok (.ifCond .ne 22, 3) := by decide +kernel
theorem d_L_law_2363 : decode (mi_code n_L_law) 2363 = .ok (.aload_n 3, 1) := by decide +kernel
theorem d_L_law_2364 : decode (mi_code n_L_law) 2364 = .ok (.iconst 0, 1) := by decide +kernel
theorem d_L_law_2365 : decode (mi_code n_L_law) 2365 = .ok (.laload, 1) := by decide +kernel
theorem d_L_law_2366 : decode (mi_code n_L_law) 2366 = .ok (.iload 6, 2) := by decide +kernel
theorem d_L_law_2368 : decode (mi_code n_L_law) 2368 = .ok (.ifCond .eq 7, 3) := by decide +kernel
theorem d_L_law_2371 : decode (mi_code n_L_law) 2371 = .ok (.lconst 1, 1) := by decide +kernel
theorem d_L_law_2372 : decode (mi_code n_L_law) 2372 = .ok (.goto 4, 3) := by decide +kernel
theorem d_L_law_2375 : decode (mi_code n_L_law) 2375 = .ok (.lconst 0, 1) := by decide +kernel
theorem d_L_law_2376 : decode (mi_code n_L_law) 2376 = .ok (.lcmp, 1) := by decide +kernel
theorem d_L_law_2377 : decode (mi_code n_L_law) 2377 = .ok (.ifCond .eq 5, 3) := by decide +kernel
theorem d_L_law_2380 : decode (mi_code n_L_law) 2380 = .ok (.iconst 0, 1) := by decide +kernel
theorem d_L_law_2381 : decode (mi_code n_L_law) 2381 = .ok (.ireturn, 1) := by decide +kernel
theorem d_L_law_2382 : decode (mi_code n_L_law) 2382 = .ok (.goto 183, 3) := by decide +kernel
theorem d_L_law_2385 : decode (mi_code n_L_law) 2385 = .ok (.aload_n 1, 1) := by decide +kernel
theorem d_L_law_2386 : decode (mi_code n_L_law) 2386 = .ok (.aload_n 0, 1) := by decide +kernel
theorem d_L_law_2387 : decode (mi_code n_L_law) 2387 = .ok (.iload 4, 2) := by decide +kernel
theorem d_L_law_2389 : decode (mi_code n_L_law) 2389 = .ok (.iconst 1, 1) := by decide +kernel
theorem d_L_law_2390 : decode (mi_code n_L_law) 2390 = .ok (.iadd, 1) := by decide +kernel
theorem d_L_law_2391 : decode (mi_code n_L_law) 2391 = .ok (.iaload, 1) := by decide +kernel
theorem d_L_law_2392 : decode (mi_code n_L_law) 2392 = .ok (.aload_n 0, 1) := by decide +kernel
theorem d_L_law_2393 : decode (mi_code n_L_law) 2393 = .ok (.iload 4, 2) := by decide +kernel
theorem d_L_law_2395 : decode (mi_code n_L_law) 2395 = .ok (.iconst 2, 1) := by decide +kernel
theorem d_L_law_2396 : decode (mi_code n_L_law) 2396 = .ok (.iadd, 1) := by decide +kernel
theorem d_L_law_2397 : decode (mi_code n_L_law) 2397 = .ok (.iaload, 1) := by decide +kernel
theorem d_L_law_2398 : decode (mi_code n_L_law) 2398 = .ok (.aload_n 3, 1) := by decide +kernel
theorem d_L_law_2399 : decode (mi_code n_L_law) 2399 = .ok (.invokestatic 234, 3) := by decide +kernel
theorem d_L_law_2402 : decode (mi_code n_L_law) 2402 = .ok (.istore 5, 2) := by decide +kernel
theorem d_L_law_2404 : decode (mi_code n_L_law) 2404 = .ok (.aload_n 2, 1) := by decide +kernel
theorem d_L_law_2405 : decode (mi_code n_L_law) 2405 = .ok (.aload_n 0, 1) := by decide +kernel
theorem d_L_law_2406 : decode (mi_code n_L_law) 2406 = .ok (.iload 4, 2) := by decide +kernel
theorem d_L_law_2408 : decode (mi_code n_L_law) 2408 = .ok (.iconst 1, 1) := by decide +kernel
theorem d_L_law_2409 : decode (mi_code n_L_law) 2409 = .ok (.iadd, 1) := by decide +kernel
theorem d_L_law_2410 : decode (mi_code n_L_law) 2410 = .ok (.iaload, 1) := by decide +kernel
theorem d_L_law_2411 : decode (mi_code n_L_law) 2411 = .ok (.aload_n 0, 1) := by decide +kernel
theorem d_L_law_2412 : decode (mi_code n_L_law) 2412 = .ok (.iload 4, 2) := by decide +kernel
theorem d_L_law_2414 : decode (mi_code n_L_law) 2414 = .ok (.iconst 2, 1) := by decide +kernel
theorem d_L_law_2415 : decode (mi_code n_L_law) 2415 = .ok (.iadd, 1) := by decide +kernel
theorem d_L_law_2416 : decode (mi_code n_L_law) 2416 = .ok (.iaload, 1) := by decide +kernel
theorem d_L_law_2417 : decode (mi_code n_L_law) 2417 = .ok (.invokevirtual 236, 3) := by decide +kernel
theorem d_L_law_2420 : decode (mi_code n_L_law) 2420 = .ok (.istore 6, 2) := by decide +kernel
theorem d_L_law_2422 : decode (mi_code n_L_law) 2422 = .ok (.aload_n 2, 1) := by decide +kernel
theorem d_L_law_2423 : decode (mi_code n_L_law) 2423 = .ok (.invokevirtual 134, 3) := by decide +kernel
theorem d_L_law_2426 : decode (mi_code n_L_law) 2426 = .ok (.iload 5, 2) := by decide +kernel
theorem d_L_law_2428 : decode (mi_code n_L_law) 2428 = .ok (.if_icmp .eq 5, 3) := by decide +kernel
theorem d_L_law_2431 : decode (mi_code n_L_law) 2431 = .ok (.iconst 0, 1) := by decide +kernel
theorem d_L_law_2432 : decode (mi_code n_L_law) 2432 = .ok (.ireturn, 1) := by decide +kernel
theorem d_L_law_2433 : decode (mi_code n_L_law) 2433 = .ok (.iload 5, 2) := by decide +kernel
theorem d_L_law_2435 : decode (mi_code n_L_law) 2435 = .ok (.ifCond .ne 15, 3) := by decide +kernel
theorem d_L_law_2438 : decode (mi_code n_L_law) 2438 = .ok (.aload_n 3, 1) := by decide +kernel
theorem d_L_law_2439 : decode (mi_code n_L_law) 2439 = .ok (.iconst 0, 1) := by decide +kernel
theorem d_L_law_2440 : decode (mi_code n_L_law) 2440 = .ok (.laload, 1) := by decide +kernel
theorem d_L_law_2441 : decode (mi_code n_L_law) 2441 = .ok (.iload 6, 2) := by decide +kernel
theorem d_L_law_2443 : decode (mi_code n_L_law) 2443 = .ok (.i2l, 1) := by decide +kernel
theorem d_L_law_2444 : decode (mi_code n_L_law) 2444 = .ok (.lcmp, 1) := by decide +kernel
theorem d_L_law_2445 : decode (mi_code n_L_law) 2445 = .ok (.ifCond .eq 5, 3) := by decide +kernel
theorem d_L_law_2448 : decode (mi_code n_L_law) 2448 = .ok (.iconst 0, 1) := by decide +kernel
theorem d_L_law_2449 : decode (mi_code n_L_law) 2449 = .ok (.ireturn, 1) := by decide +kernel
theorem d_L_law_2450 : decode (mi_code n_L_law) 2450 = .ok (.goto 115, 3) := by decide +kernel
theorem d_L_law_2453 : decode (mi_code n_L_law) 2453 = .ok (.aload_n 1, 1) := by decide +kernel
theorem d_L_law_2454 : decode (mi_code n_L_law) 2454 = .ok (.aload_n 0, 1) := by decide +kernel
theorem d_L_law_2455 : decode (mi_code n_L_law) 2455 = .ok (.iload 4, 2) := by decide +kernel
theorem d_L_law_2457 : decode (mi_code n_L_law) 2457 = .ok (.iconst 1, 1) := by decide +kernel
theorem d_L_law_2458 : decode (mi_code n_L_law) 2458 = .ok (.iadd, 1) := by decide +kernel
theorem d_L_law_2459 : decode (mi_code n_L_law) 2459 = .ok (.iaload, 1) := by decide +kernel
theorem d_L_law_2460 : decode (mi_code n_L_law) 2460 = .ok (.aload_n 3, 1) := by decide +kernel
theorem d_L_law_2461 : decode (mi_code n_L_law) 2461 = .ok (.invokestatic 237, 3) := by decide +kernel
theorem d_L_law_2464 : decode (mi_code n_L_law) 2464 = .ok (.istore 5, 2) := by decide +kernel
theorem d_L_law_2466 : decode (mi_code n_L_law) 2466 = .ok (.aload_n 2, 1) := by decide +kernel
theorem d_L_law_2467 : decode (mi_code n_L_law) 2467 = .ok (.aload_n 0, 1) := by decide +kernel
theorem d_L_law_2468 : decode (mi_code n_L_law) 2468 = .ok (.iload 4, 2) := by decide +kernel
theorem d_L_law_2470 : decode (mi_code n_L_law) 2470 = .ok (.iconst 1, 1) := by decide +kernel
theorem d_L_law_2471 : decode (mi_code n_L_law) 2471 = .ok (.iadd, 1) := by decide +kernel
theorem d_L_law_2472 : decode (mi_code n_L_law) 2472 = .ok (.iaload, 1) := by decide +kernel
theorem d_L_law_2473 : decode (mi_code n_L_law) 2473 = .ok (.invokevirtual 239, 3) := by decide +kernel
theorem d_L_law_2476 : decode (mi_code n_L_law) 2476 = .ok (.istore 6, 2) := by decide +kernel
theorem d_L_law_2478 : decode (mi_code n_L_law) 2478 = .ok (.aload_n 2, 1) := by decide +kernel
theorem d_L_law_2479 : decode (mi_code n_L_law) 2479 = .ok (.invokevirtual 134, 3) := by decide +kernel
theorem d_L_law_2482 : decode (mi_code n_L_law) 2482 = .ok (.iload 5, 2) := by decide +kernel
theorem d_L_law_2484 : decode (mi_code n_L_law) 2484 = .ok (.if_icmp .eq 5, 3) := by decide +kernel
theorem d_L_law_2487 : decode (mi_code n_L_law) 2487 = .ok (.iconst 0, 1) := by decide +kernel
theorem d_L_law_2488 : decode (mi_code n_L_law) 2488 = .ok (.ireturn, 1) := by decide +kernel
theorem d_L_law_2489 : decode (mi_code n_L_law) 2489 = .ok (.iload 5, 2) := by decide +kernel
theorem d_L_law_2491 : decode (mi_code n_L_law) 2491 = .ok (.ifCond .ne 15, 3) := by decide +kernel
theorem d_L_law_2494 : decode (mi_code n_L_law) 2494 = .ok (.aload_n 3, 1) := by decide +kernel
theorem d_L_law_2495 : decode (mi_code n_L_law) 2495 = .ok (.iconst 0, 1) := by decide +kernel
theorem d_L_law_2496 : decode (mi_code n_L_law) 2496 = .ok (.laload, 1) := by decide +kernel
theorem d_L_law_2497 : decode (mi_code n_L_law) 2497 = .ok (.iload 6, 2) := by decide +kernel
theorem d_L_law_2499 : decode (mi_code n_L_law) 2499 = .ok (.i2l, 1) := by decide +kernel
theorem d_L_law_2500 : decode (mi_code n_L_law) 2500 = .ok (.lcmp, 1) := by decide +kernel
theorem d_L_law_2501 : decode (mi_code n_L_law) 2501 = .ok (.ifCond .eq 5, 3) := by decide +kernel
theorem d_L_law_2504 : decode (mi_code n_L_law) 2504 = .ok (.iconst 0, 1) := by decide +kernel
theorem d_L_law_2505 : decode (mi_code n_L_law) 2505 = .ok (.ireturn, 1) := by decide +kernel
theorem d_L_law_2506 : decode (mi_code n_L_law) 2506 = .ok (.goto 59, 3) := by decide +kernel
theorem d_L_law_2509 : decode (mi_code n_L_law) 2509 = .ok (.aload_n 1, 1) := by decide +kernel
theorem d_L_law_2510 : decode (mi_code n_L_law) 2510 = .ok (.aload_n 0, 1) := by decide +kernel
theorem d_L_law_2511 : decode (mi_code n_L_law) 2511 = .ok (.iload 4, 2) := by decide +kernel
theorem d_L_law_2513 : decode (mi_code n_L_law) 2513 = .ok (.iconst 1, 1) := by decide +kernel
theorem d_L_law_2514 : decode (mi_code n_L_law) 2514 = .ok (.iadd, 1) := by decide +kernel
theorem d_L_law_2515 : decode (mi_code n_L_law) 2515 = .ok (.iaload, 1) := by decide +kernel
theorem d_L_law_2516 : decode (mi_code n_L_law) 2516 = .ok (.aload_n 3, 1) := by decide +kernel
theorem d_L_law_2517 : decode (mi_code n_L_law) 2517 = .ok (.invokestatic 240, 3) := by decide +kernel
theorem d_L_law_2520 : decode (mi_code n_L_law) 2520 = .ok (.istore 5, 2) := by decide +kernel
theorem d_L_law_2522 : decode (mi_code n_L_law) 2522 = .ok (.aload_n 2, 1) := by decide +kernel
theorem d_L_law_2523 : decode (mi_code n_L_law) 2523 = .ok (.aload_n 0, 1) := by decide +kernel
theorem d_L_law_2524 : decode (mi_code n_L_law) 2524 = .ok (.iload 4, 2) := by decide +kernel
theorem d_L_law_2526 : decode (mi_code n_L_law) 2526 = .ok (.iconst 1, 1) := by decide +kernel
theorem d_L_law_2527 : decode (mi_code n_L_law) 2527 = .ok (.iadd, 1) := by decide +kernel
theorem d_L_law_2528 : decode (mi_code n_L_law) 2528 = .ok (.iaload, 1) := by decide +kernel
theorem d_L_law_2529 : decode (mi_code n_L_law) 2529 = .ok (.invokevirtual 242, 3) := by decide +kernel
theorem d_L_law_2532 : decode (mi_code n_L_law) 2532 = .ok (.istore 6, 2) := by decide +kernel
theorem d_L_law_2534 : decode (mi_code n_L_law) 2534 = .ok (.aload_n 2, 1) := by decide +kernel
theorem d_L_law_2535 : decode (mi_code n_L_law) 2535 = .ok (.invokevirtual 134, 3) := by decide +kernel
theorem d_L_law_2538 : decode (mi_code n_L_law) 2538 = .ok (.iload 5, 2) := by decide +kernel
theorem d_L_law_2540 : decode (mi_code n_L_law) 2540 = .ok (.if_icmp .eq 5, 3) := by decide +kernel
theorem d_L_law_2543 : decode (mi_code n_L_law) 2543 = .ok (.iconst 0, 1) := by decide +kernel
theorem d_L_law_2544 : decode (mi_code n_L_law) 2544 = .ok (.ireturn, 1) := by decide +kernel
theorem d_L_law_2545 : decode (mi_code n_L_law) 2545 = .ok (.iload 5, 2) := by decide +kernel
theorem d_L_law_2547 : decode (mi_code n_L_law) 2547 = .ok (.ifCond .ne 15, 3) := by decide +kernel
theorem d_L_law_2550 : decode (mi_code n_L_law) 2550 = .ok (.aload_n 3, 1) := by decide +kernel
theorem d_L_law_2551 : decode (mi_code n_L_law) 2551 = .ok (.iconst 0, 1) := by decide +kernel
theorem d_L_law_2552 : decode (mi_code n_L_law) 2552 = .ok (.laload, 1) := by decide +kernel
theorem d_L_law_2553 : decode (mi_code n_L_law) 2553 = .ok (.iload 6, 2) := by decide +kernel
theorem d_L_law_2555 : decode (mi_code n_L_law) 2555 = .ok (.i2l, 1) := by decide +kernel
theorem d_L_law_2556 : decode (mi_code n_L_law) 2556 = .ok (.lcmp, 1) := by decide +kernel
theorem d_L_law_2557 : decode (mi_code n_L_law) 2557 = .ok (.ifCond .eq 5, 3) := by decide +kernel
theorem d_L_law_2560 : decode (mi_code n_L_law) 2560 = .ok (.iconst 0, 1) := by decide +kernel
theorem d_L_law_2561 : decode (mi_code n_L_law) 2561 = .ok (.ireturn, 1) := by decide +kernel
theorem d_L_law_2562 : decode (mi_code n_L_law) 2562 = .ok (.goto 3, 3) := by decide +kernel
theorem d_L_law_2565 : decode (mi_code n_L_law) 2565 = .ok (.iinc 4 6, 3) := by decide +kernel
theorem d_L_law_2568 : decode (mi_code n_L_law) 2568 = .ok (.goto (-2545), 3) := by decide +kernel
theorem d_L_law_2571 : decode (mi_code n_L_law) 2571 = .ok (.iconst 1, 1) := by decide +kernel
theorem d_L_law_2572 : decode (mi_code n_L_law) 2572 = .ok (.ireturn, 1) := by decide +kernel
theorem d_L_mouth_0 : decode (mi_code n_L_mouth) 0 = .ok (.aload_n 3, 1) := by decide +kernel
theorem d_L_mouth_1 : decode (mi_code n_L_mouth) 1 = .ok (.iconst 0, 1) := by decide +kernel
theorem d_L_mouth_2 : decode (mi_code n_L_mouth) 2 = .ok (.aload_n 0, 1) := by decide +kernel
theorem d_L_mouth_3 : decode (mi_code n_L_mouth) 3 = .ok (.iload_n 1, 1) := by decide +kernel
theorem d_L_mouth_4 : decode (mi_code n_L_mouth) 4 = .ok (.iload_n 2, 1) := by decide +kernel
theorem d_L_mouth_5 : decode (mi_code n_L_mouth) 5 = .ok (.invokevirtual 60, 3) := by decide +kernel
theorem d_L_mouth_8 : decode (mi_code n_L_mouth) 8 = .ok (.i2l, 1) := by decide +kernel
theorem d_L_mouth_9 : decode (mi_code n_L_mouth) 9 = .ok (.lastore, 1) := by decide +kernel
theorem d_L_mouth_10 : decode (mi_code n_L_mouth) 10 = .ok (.goto 7, 3) := by decide +kernel
theorem d_L_mouth_13 : decode (mi_code n_L_mouth) 13 = .ok (.astore 4, 2) := by decide +kernel
theorem d_L_mouth_15 : decode (mi_code n_L_mouth) 15 = .ok (.iconst 1, 1) := by decide +kernel
theorem d_L_mouth_16 : decode (mi_code n_L_mouth) 16 = .ok (.ireturn, 1) := by decide +kernel
theorem d_L_mouth_17 : decode (mi_code n_L_mouth) 17 = .ok (.iconst 0, 1) := by decide +kernel
theorem d_L_mouth_18 : decode (mi_code n_L_mouth) 18 = .ok (.ireturn, 1) := by decide +kernel
theorem d_L_move_0 : decode (mi_code n_L_move) 0 = .ok (.aload 5, 2) := by decide +kernel
theorem d_L_move_2 : decode (mi_code n_L_move) 2 = .ok (.iconst 0, 1) := by decide +kernel
theorem d_L_move_3 : decode (mi_code n_L_move) 3 = .ok (.aload_n 0, 1) := by decide +kernel
theorem d_L_move_4 : decode (mi_code n_L_move) 4 = .ok (.iload_n 1, 1) := by decide +kernel
theorem d_L_move_5 : decode (mi_code n_L_move) 5 = .ok (.iload_n 2, 1) := by decide +kernel
theorem d_L_move_6 : decode (mi_code n_L_move) 6 = .ok (.iload_n 3, 1) := by decide +kernel
theorem d_L_move_7 : decode (mi_code n_L_move) 7 = .ok (.iload 4, 2) := by decide +kernel
theorem d_L_move_9 : decode (mi_code n_L_move) 9 = .ok (.invokevirtual 70, 3) := by decide +kernel
theorem d_L_move_12 : decode (mi_code n_L_move) 12 = .ok (.i2l, 1) := by decide +kernel
theorem d_L_move_13 : decode (mi_code n_L_move) 13 = .ok (.lastore, 1) := by decide +kernel
theorem d_L_move_14 : decode (mi_code n_L_move) 14 = .ok (.goto 15, 3) := by decide +kernel
theorem d_L_move_17 : decode (mi_code n_L_move) 17 = .ok (.astore 6, 2) := by decide +kernel
theorem d_L_move_19 : decode (mi_code n_L_move) 19 = .ok (.iconst 1, 1) := by decide +kernel
theorem d_L_move_20 : decode (mi_code n_L_move) 20 = .ok (.ireturn, 1) := by decide +kernel
theorem d_L_move_21 : decode (mi_code n_L_move) 21 = .ok (.astore 6, 2) := by decide +kernel
theorem d_L_move_23 : decode (mi_code n_L_move) 23 = .ok (.iconst 2, 1) := by decide +kernel
theorem d_L_move_24 : decode (mi_code n_L_move) 24 = .ok (.ireturn, 1) := by decide +kernel
theorem d_L_move_25 : decode (mi_code n_L_move) 25 = .ok (.astore 6, 2) := by decide +kernel
theorem d_L_move_27 : decode (mi_code n_L_move) 27 = .ok (.iconst 3, 1) := by decide +kernel
theorem d_L_move_28 : decode (mi_code n_L_move) 28 = .ok (.ireturn, 1) := by decide +kernel
theorem d_L_move_29 : decode (mi_code n_L_move) 29 = .ok (.iconst 0, 1) := by decide +kernel
theorem d_L_move_30 : decode (mi_code n_L_move) 30 = .ok (.ireturn, 1) := by decide +kernel
theorem d_L_moved_0 : decode (mi_code n_L_moved) 0 = .ok (.aload 5, 2) := by decide +kernel
theorem d_L_moved_2 : decode (mi_code n_L_moved) 2 = .ok (.iconst 0, 1) := by decide +kernel
theorem d_L_moved_3 : decode (mi_code n_L_moved) 3 = .ok (.aload_n 0, 1) := by decide +kernel
theorem d_L_moved_4 : decode (mi_code n_L_moved) 4 = .ok (.iload_n 1, 1) := by decide +kernel
theorem d_L_moved_5 : decode (mi_code n_L_moved) 5 = .ok (.iload_n 2, 1) := by decide +kernel
theorem d_L_moved_6 : decode (mi_code n_L_moved) 6 = .ok (.iload_n 3, 1) := by decide +kernel
theorem d_L_moved_7 : decode (mi_code n_L_moved) 7 = .ok (.iload 4, 2) := by decide +kernel
theorem d_L_moved_9 : decode (mi_code n_L_moved) 9 = .ok (.invokevirtual 95, 3) := by decide +kernel
theorem d_L_moved_12 : decode (mi_code n_L_moved) 12 = .ok (.i2l, 1) := by decide +kernel
theorem d_L_moved_13 : decode (mi_code n_L_moved) 13 = .ok (.lastore, 1) := by decide +kernel
theorem d_L_moved_14 : decode (mi_code n_L_moved) 14 = .ok (.goto 7, 3) := by decide +kernel
theorem d_L_moved_17 : decode (mi_code n_L_moved) 17 = .ok (.astore 6, 2) := by decide +kernel
theorem d_L_moved_19 : decode (mi_code n_L_moved) 19 = .ok (.iconst 1, 1) := by decide +kernel
theorem d_L_moved_20 : decode (mi_code n_L_moved) 20 = .ok (.ireturn, 1) := by decide +kernel
theorem d_L_moved_21 : decode (mi_code n_L_moved) 21 = .ok (.iconst 0, 1) := by decide +kernel
theorem d_L_moved_22 : decode (mi_code n_L_moved) 22 = .ok (.ireturn, 1) := by decide +kernel
theorem d_L_of_0 : decode (mi_code n_L_of) 0 = .ok (.aload_n 3, 1) := by decide +kernel
theorem d_L_of_1 : decode (mi_code n_L_of) 1 = .ok (.iconst 0, 1) := by decide +kernel
theorem d_L_of_2 : decode (mi_code n_L_of) 2 = .ok (.aload_n 0, 1) := by decide +kernel
theorem d_L_of_3 : decode (mi_code n_L_of) 3 = .ok (.iload_n 1, 1) := by decide +kernel
theorem d_L_of_4 : decode (mi_code n_L_of) 4 = .ok (.iload_n 2, 1) := by decide +kernel
theorem d_L_of_5 : decode (mi_code n_L_of) 5 = .ok (.invokevirtual 86, 3) := by decide +kernel
theorem d_L_of_8 : decode (mi_code n_L_of) 8 = .ok (.i2l, 1) := by decide +kernel
theorem d_L_of_9 : decode (mi_code n_L_of) 9 = .ok (.lastore, 1) := by decide +kernel
theorem d_L_of_10 : decode (mi_code n_L_of) 10 = .ok (.goto 11, 3) := by decide +kernel
theorem d_L_of_13 : decode (mi_code n_L_of) 13 = .ok (.astore 4, 2) := by decide +kernel
theorem d_L_of_15 : decode (mi_code n_L_of) 15 = .ok (.iconst 1, 1) := by decide +kernel
theorem d_L_of_16 : decode (mi_code n_L_of) 16 = .ok (.ireturn, 1) := by decide +kernel
theorem d_L_of_17 : decode (mi_code n_L_of) 17 = .ok (.astore 4, 2) := by decide +kernel
theorem d_L_of_19 : decode (mi_code n_L_of) 19 = .ok (.iconst 2, 1) := by decide +kernel
theorem d_L_of_20 : decode (mi_code n_L_of) 20 = .ok (.ireturn, 1) := by decide +kernel
theorem d_L_of_21 : decode (mi_code n_L_of) 21 = .ok (.iconst 0, 1) := by decide +kernel
theorem d_L_of_22 : decode (mi_code n_L_of) 22 = .ok (.ireturn, 1) := by decide +kernel
theorem d_L_paint_0 : decode (mi_code n_L_paint) 0 = .ok (.aload_n 3, 1) := by decide +kernel
theorem d_L_paint_1 : decode (mi_code n_L_paint) 1 = .ok (.iconst 0, 1) := by decide +kernel
theorem d_L_paint_2 : decode (mi_code n_L_paint) 2 = .ok (.aload_n 0, 1) := by decide +kernel
theorem d_L_paint_3 : decode (mi_code n_L_paint) 3 = .ok (.iload_n 1, 1) := by decide +kernel
theorem d_L_paint_4 : decode (mi_code n_L_paint) 4 = .ok (.iload_n 2, 1) := by decide +kernel
theorem d_L_paint_5 : decode (mi_code n_L_paint) 5 = .ok (.invokevirtual 35, 3) := by decide +kernel
theorem d_L_paint_8 : decode (mi_code n_L_paint) 8 = .ok (.i2l, 1) := by decide +kernel
theorem d_L_paint_9 : decode (mi_code n_L_paint) 9 = .ok (.lastore, 1) := by decide +kernel
theorem d_L_paint_10 : decode (mi_code n_L_paint) 10 = .ok (.goto 11, 3) := by decide +kernel
theorem d_L_paint_13 : decode (mi_code n_L_paint) 13 = .ok (.astore 4, 2) := by decide +kernel
theorem d_L_paint_15 : decode (mi_code n_L_paint) 15 = .ok (.iconst 1, 1) := by decide +kernel
theorem d_L_paint_16 : decode (mi_code n_L_paint) 16 = .ok (.ireturn, 1) := by decide +kernel
theorem d_L_paint_17 : decode (mi_code n_L_paint) 17 = .ok (.astore 4, 2) := by decide +kernel
theorem d_L_paint_19 : decode (mi_code n_L_paint) 19 = .ok (.iconst 2, 1) := by decide +kernel
theorem d_L_paint_20 : decode (mi_code n_L_paint) 20 = .ok (.ireturn, 1) := by decide +kernel
theorem d_L_paint_21 : decode (mi_code n_L_paint) 21 = .ok (.iconst 0, 1) := by decide +kernel
theorem d_L_paint_22 : decode (mi_code n_L_paint) 22 = .ok (.ireturn, 1) := by decide +kernel
theorem d_L_peg_0 : decode (mi_code n_L_peg) 0 = .ok (.aload_n 2, 1) := by decide +kernel
theorem d_L_peg_1 : decode (mi_code n_L_peg) 1 = .ok (.iconst 0, 1) := by decide +kernel
theorem d_L_peg_2 : decode (mi_code n_L_peg) 2 = .ok (.aload_n 0, 1) := by decide +kernel
theorem d_L_peg_3 : decode (mi_code n_L_peg) 3 = .ok (.iload_n 1, 1) := by decide +kernel
theorem d_L_peg_4 : decode (mi_code n_L_peg) 4 = .ok (.invokevirtual 66, 3) := by decide +kernel
theorem d_L_peg_7 : decode (mi_code n_L_peg) 7 = .ok (.i2l, 1) := by decide +kernel
theorem d_L_peg_8 : decode (mi_code n_L_peg) 8 = .ok (.lastore, 1) := by decide +kernel
theorem d_L_peg_9 : decode (mi_code n_L_peg) 9 = .ok (.goto 9, 3) := by decide +kernel
theorem d_L_peg_12 : decode (mi_code n_L_peg) 12 = .ok (.astore_n 3, 1) := by decide +kernel
theorem d_L_peg_13 : decode (mi_code n_L_peg) 13 = .ok (.iconst 1, 1) := by decide +kernel
theorem d_L_peg_14 : decode (mi_code n_L_peg) 14 = .ok (.ireturn, 1) := by decide +kernel
theorem d_L_peg_15 : decode (mi_code n_L_peg) 15 = .ok (.astore_n 3, 1) := by decide +kernel
theorem d_L_peg_16 : decode (mi_code n_L_peg) 16 = .ok (.iconst 2, 1) := by decide +kernel
theorem d_L_peg_17 : decode (mi_code n_L_peg) 17 = .ok (.ireturn, 1) := by decide +kernel
theorem d_L_peg_18 : decode (mi_code n_L_peg) 18 = .ok (.iconst 0, 1) := by decide +kernel
theorem d_L_peg_19 : decode (mi_code n_L_peg) 19 = .ok (.ireturn, 1) := by decide +kernel
theorem d_L_pen_0 : decode (mi_code n_L_pen) 0 = .ok (.aload_n 0, 1) := by decide +kernel
theorem d_L_pen_1 : decode (mi_code n_L_pen) 1 = .ok (.iload_n 1, 1) := by decide +kernel
theorem d_L_pen_2 : decode (mi_code n_L_pen) 2 = .ok (.iload_n 2, 1) := by decide +kernel
theorem d_L_pen_3 : decode (mi_code n_L_pen) 3 = .ok (.invokevirtual 27, 3) := by decide +kernel
theorem d_L_pen_6 : decode (mi_code n_L_pen) 6 = .ok (.goto 6, 3) := by decide +kernel
theorem d_L_pen_9 : decode (mi_code n_L_pen) 9 = .ok (.astore_n 3, 1) := by decide +kernel
theorem d_L_pen_10 : decode (mi_code n_L_pen) 10 = .ok (.iconst 1, 1) := by decide +kernel
theorem d_L_pen_11 : decode (mi_code n_L_pen) 11 = .ok (.ireturn, 1) := by decide +kernel
theorem d_L_pen_12 : decode (mi_code n_L_pen) 12 = .ok (.iconst 0, 1) := by decide +kernel
theorem d_L_pen_13 : decode (mi_code n_L_pen) 13 = .ok (.ireturn, 1) := by decide +kernel
theorem d_L_point_0 : decode (mi_code n_L_point) 0 = .ok (.aload 4, 2) := by decide +kernel
theorem d_L_point_2 : decode (mi_code n_L_point) 2 = .ok (.iconst 0, 1) := by decide +kernel
theorem d_L_point_3 : decode (mi_code n_L_point) 3 = .ok (.aload_n 0, 1) := by decide +kernel
theorem d_L_point_4 : decode (mi_code n_L_point) 4 = .ok (.iload_n 1, 1) := by decide +kernel
theorem d_L_point_5 : decode (mi_code n_L_point) 5 = .ok (.iload_n 2, 1) := by decide +kernel
theorem d_L_point_6 : decode (mi_code n_L_point) 6 = .ok (.iload_n 3, 1) := by decide +kernel
theorem d_L_point_7 : decode (mi_code n_L_point) 7 = .ok (.invokevirtual 89, 3) := by decide +kernel
theorem d_L_point_10 : decode (mi_code n_L_point) 10 = .ok (.i2l, 1) := by decide +kernel
theorem d_L_point_11 : decode (mi_code n_L_point) 11 = .ok (.lastore, 1) := by decide +kernel
theorem d_L_point_12 : decode (mi_code n_L_point) 12 = .ok (.goto 7, 3) := by decide +kernel
theorem d_L_point_15 : decode (mi_code n_L_point) 15 = .ok (.astore 5, 2) := by decide +kernel
theorem d_L_point_17 : decode (mi_code n_L_point) 17 = .ok (.iconst 1, 1) := by decide +kernel
theorem d_L_point_18 : decode (mi_code n_L_point) 18 = .ok (.ireturn, 1) := by decide +kernel
theorem d_L_point_19 : decode (mi_code n_L_point) 19 = .ok (.iconst 0, 1) := by decide +kernel
theorem d_L_point_20 : decode (mi_code n_L_point) 20 = .ok (.ireturn, 1) := by decide +kernel
theorem d_L_scene_0 : decode (mi_code n_L_scene) 0 = .ok (.aload_n 3, 1) := by decide +kernel
theorem d_L_scene_1 : decode (mi_code n_L_scene) 1 = .ok (.iconst 0, 1) := by decide +kernel
theorem d_L_scene_2 : decode (mi_code n_L_scene) 2 = .ok (.aload_n 0, 1) := by decide +kernel
theorem d_L_scene_3 : decode (mi_code n_L_scene) 3 = .ok (.iload_n 1, 1) := by decide +kernel
theorem d_L_scene_4 : decode (mi_code n_L_scene) 4 = .ok (.iload_n 2, 1) := by decide +kernel
theorem d_L_scene_5 : decode (mi_code n_L_scene) 5 = .ok (.invokevirtual 51, 3) := by decide +kernel
theorem d_L_scene_8 : decode (mi_code n_L_scene) 8 = .ok (.i2l, 1) := by decide +kernel
theorem d_L_scene_9 : decode (mi_code n_L_scene) 9 = .ok (.lastore, 1) := by decide +kernel
theorem d_L_scene_10 : decode (mi_code n_L_scene) 10 = .ok (.goto 15, 3) := by decide +kernel
theorem d_L_scene_13 : decode (mi_code n_L_scene) 13 = .ok (.astore 4, 2) := by decide +kernel
theorem d_L_scene_15 : decode (mi_code n_L_scene) 15 = .ok (.iconst 1, 1) := by decide +kernel
theorem d_L_scene_16 : decode (mi_code n_L_scene) 16 = .ok (.ireturn, 1) := by decide +kernel
theorem d_L_scene_17 : decode (mi_code n_L_scene) 17 = .ok (.astore 4, 2) := by decide +kernel
theorem d_L_scene_19 : decode (mi_code n_L_scene) 19 = .ok (.iconst 2, 1) := by decide +kernel
theorem d_L_scene_20 : decode (mi_code n_L_scene) 20 = .ok (.ireturn, 1) := by decide +kernel
theorem d_L_scene_21 : decode (mi_code n_L_scene) 21 = .ok (.astore 4, 2) := by decide +kernel
theorem d_L_scene_23 : decode (mi_code n_L_scene) 23 = .ok (.iconst 3, 1) := by decide +kernel
theorem d_L_scene_24 : decode (mi_code n_L_scene) 24 = .ok (.ireturn, 1) := by decide +kernel
theorem d_L_scene_25 : decode (mi_code n_L_scene) 25 = .ok (.iconst 0, 1) := by decide +kernel
theorem d_L_scene_26 : decode (mi_code n_L_scene) 26 = .ok (.ireturn, 1) := by decide +kernel
theorem d_L_seen_0 : decode (mi_code n_L_seen) 0 = .ok (.aload 5, 2) := by decide +kernel
theorem d_L_seen_2 : decode (mi_code n_L_seen) 2 = .ok (.iconst 0, 1) := by decide +kernel
theorem d_L_seen_3 : decode (mi_code n_L_seen) 3 = .ok (.aload_n 0, 1) := by decide +kernel
theorem d_L_seen_4 : decode (mi_code n_L_seen) 4 = .ok (.iload_n 1, 1) := by decide +kernel
theorem d_L_seen_5 : decode (mi_code n_L_seen) 5 = .ok (.iload_n 2, 1) := by decide +kernel
theorem d_L_seen_6 : decode (mi_code n_L_seen) 6 = .ok (.iload_n 3, 1) := by decide +kernel
theorem d_L_seen_7 : decode (mi_code n_L_seen) 7 = .ok (.iload 4, 2) := by decide +kernel
theorem d_L_seen_9 : decode (mi_code n_L_seen) 9 = .ok (.invokevirtual 99, 3) := by decide +kernel
theorem d_L_seen_12 : decode (mi_code n_L_seen) 12 = .ok (.i2l, 1) := by decide +kernel
theorem d_L_seen_13 : decode (mi_code n_L_seen) 13 = .ok (.lastore, 1) := by decide +kernel
theorem d_L_seen_14 : decode (mi_code n_L_seen) 14 = .ok (.goto 7, 3) := by decide +kernel
theorem d_L_seen_17 : decode (mi_code n_L_seen) 17 = .ok (.astore 6, 2) := by decide +kernel
theorem d_L_seen_19 : decode (mi_code n_L_seen) 19 = .ok (.iconst 1, 1) := by decide +kernel
theorem d_L_seen_20 : decode (mi_code n_L_seen) 20 = .ok (.ireturn, 1) := by decide +kernel
theorem d_L_seen_21 : decode (mi_code n_L_seen) 21 = .ok (.iconst 0, 1) := by decide +kernel
theorem d_L_seen_22 : decode (mi_code n_L_seen) 22 = .ok (.ireturn, 1) := by decide +kernel
theorem d_L_seenAnew_0 : decode (mi_code n_L_seenAnew) 0 = .ok (.aload 5, 2) := by decide +kernel
theorem d_L_seenAnew_2 : decode (mi_code n_L_seenAnew) 2 = .ok (.iconst 0, 1) := by decide +kernel
theorem d_L_seenAnew_3 : decode (mi_code n_L_seenAnew) 3 = .ok (.aload_n 0, 1) := by decide +kernel
theorem d_L_seenAnew_4 : decode (mi_code n_L_seenAnew) 4 = .ok (.iload_n 1, 1) := by decide +kernel
theorem d_L_seenAnew_5 : decode (mi_code n_L_seenAnew) 5 = .ok (.iload_n 2, 1) := by decide +kernel
theorem d_L_seenAnew_6 : decode (mi_code n_L_seenAnew) 6 = .ok (.iload_n 3, 1) := by decide +kernel
theorem d_L_seenAnew_7 : decode (mi_code n_L_seenAnew) 7 = .ok (.iload 4, 2) := by decide +kernel
theorem d_L_seenAnew_9 : decode (mi_code n_L_seenAnew) 9 = .ok (.invokevirtual 102, 3) := by decide +kernel
theorem d_L_seenAnew_12 : decode (mi_code n_L_seenAnew) 12 = .ok (.i2l, 1) := by decide +kernel
theorem d_L_seenAnew_13 : decode (mi_code n_L_seenAnew) 13 = .ok (.lastore, 1) := by decide +kernel
theorem d_L_seenAnew_14 : decode (mi_code n_L_seenAnew) 14 = .ok (.goto 7, 3) := by decide +kernel
theorem d_L_seenAnew_17 : decode (mi_code n_L_seenAnew) 17 = .ok (.astore 6, 2) := by decide +kernel
theorem d_L_seenAnew_19 : decode (mi_code n_L_seenAnew) 19 = .ok (.iconst 1, 1) := by decide +kernel
theorem d_L_seenAnew_20 : decode (mi_code n_L_seenAnew) 20 = .ok (.ireturn, 1) := by decide +kernel
theorem d_L_seenAnew_21 : decode (mi_code n_L_seenAnew) 21 = .ok (.iconst 0, 1) := by decide +kernel
theorem d_L_seenAnew_22 : decode (mi_code n_L_seenAnew) 22 = .ok (.ireturn, 1) := by decide +kernel
theorem d_L_shoot_0 : decode (mi_code n_L_shoot) 0 = .ok (.aload_n 2, 1) := by decide +kernel
theorem d_L_shoot_1 : decode (mi_code n_L_shoot) 1 = .ok (.iconst 0, 1) := by decide +kernel
theorem d_L_shoot_2 : decode (mi_code n_L_shoot) 2 = .ok (.aload_n 0, 1) := by decide +kernel
theorem d_L_shoot_3 : decode (mi_code n_L_shoot) 3 = .ok (.iload_n 1, 1) := by decide +kernel
theorem d_L_shoot_4 : decode (mi_code n_L_shoot) 4 = .ok (.invokevirtual 77, 3) := by decide +kernel
theorem d_L_shoot_7 : decode (mi_code n_L_shoot) 7 = .ok (.i2l, 1) := by decide +kernel
theorem d_L_shoot_8 : decode (mi_code n_L_shoot) 8 = .ok (.lastore, 1) := by decide +kernel
theorem d_L_shoot_9 : decode (mi_code n_L_shoot) 9 = .ok (.goto 6, 3) := by decide +kernel
theorem d_L_shoot_12 : decode (mi_code n_L_shoot) 12 = .ok (.astore_n 3, 1) := by decide +kernel
theorem d_L_shoot_13 : decode (mi_code n_L_shoot) 13 = .ok (.iconst 1, 1) := by decide +kernel
theorem d_L_shoot_14 : decode (mi_code n_L_shoot) 14 = .ok (.ireturn, 1) := by decide +kernel
theorem d_L_shoot_15 : decode (mi_code n_L_shoot) 15 = .ok (.iconst 0, 1) := by decide +kernel
theorem d_L_shoot_16 : decode (mi_code n_L_shoot) 16 = .ok (.ireturn, 1) := by decide +kernel
theorem d_L_shot_0 : decode (mi_code n_L_shot) 0 = .ok (.aload 5, 2) := by decide +kernel
theorem d_L_shot_2 : decode (mi_code n_L_shot) 2 = .ok (.iconst 0, 1) := by decide +kernel
theorem d_L_shot_3 : decode (mi_code n_L_shot) 3 = .ok (.aload_n 0, 1) := by decide +kernel
theorem d_L_shot_4 : decode (mi_code n_L_shot) 4 = .ok (.iload_n 1, 1) := by decide +kernel
theorem d_L_shot_5 : decode (mi_code n_L_shot) 5 = .ok (.iload_n 2, 1) := by decide +kernel
theorem d_L_shot_6 : decode (mi_code n_L_shot) 6 = .ok (.iload_n 3, 1) := by decide +kernel
theorem d_L_shot_7 : decode (mi_code n_L_shot) 7 = .ok (.iload 4, 2) := by decide +kernel
theorem d_L_shot_9 : decode (mi_code n_L_shot) 9 = .ok (.invokevirtual 105, 3) := by decide +kernel
theorem d_L_shot_12 : decode (mi_code n_L_shot) 12 = .ok (.i2l, 1) := by decide +kernel
theorem d_L_shot_13 : decode (mi_code n_L_shot) 13 = .ok (.lastore, 1) := by decide +kernel
theorem d_L_shot_14 : decode (mi_code n_L_shot) 14 = .ok (.goto 7, 3) := by decide +kernel
theorem d_L_shot_17 : decode (mi_code n_L_shot) 17 = .ok (.astore 6, 2) := by decide +kernel
theorem d_L_shot_19 : decode (mi_code n_L_shot) 19 = .ok (.iconst 1, 1) := by decide +kernel
theorem d_L_shot_20 : decode (mi_code n_L_shot) 20 = .ok (.ireturn, 1) := by decide +kernel
theorem d_L_shot_21 : decode (mi_code n_L_shot) 21 = .ok (.iconst 0, 1) := by decide +kernel
theorem d_L_shot_22 : decode (mi_code n_L_shot) 22 = .ok (.ireturn, 1) := by decide +kernel
theorem d_L_speaks_0 : decode (mi_code n_L_speaks) 0 = .ok (.aload_n 3, 1) := by decide +kernel
theorem d_L_speaks_1 : decode (mi_code n_L_speaks) 1 = .ok (.iconst 0, 1) := by decide +kernel
theorem d_L_speaks_2 : decode (mi_code n_L_speaks) 2 = .ok (.aload_n 0, 1) := by decide +kernel
theorem d_L_speaks_3 : decode (mi_code n_L_speaks) 3 = .ok (.iload_n 1, 1) := by decide +kernel
theorem d_L_speaks_4 : decode (mi_code n_L_speaks) 4 = .ok (.iload_n 2, 1) := by decide +kernel
theorem d_L_speaks_5 : decode (mi_code n_L_speaks) 5 = .ok (.invokevirtual 63, 3) := by decide +kernel
theorem d_L_speaks_8 : decode (mi_code n_L_speaks) 8 = .ok (.ifCond .eq 7, 3) := by decide +kernel
theorem d_L_speaks_11 : decode (mi_code n_L_speaks) 11 = .ok (.lconst 1, 1) := by decide +kernel
theorem d_L_speaks_12 : decode (mi_code n_L_speaks) 12 = .ok (.goto 4, 3) := by decide +kernel
theorem d_L_speaks_15 : decode (mi_code n_L_speaks) 15 = .ok (.lconst 0, 1) := by decide +kernel
theorem d_L_speaks_16 : decode (mi_code n_L_speaks) 16 = .ok (.lastore, 1) := by decide +kernel
theorem d_L_speaks_17 : decode (mi_code n_L_speaks) 17 = .ok (.goto 7, 3) := by decide +kernel
theorem d_L_speaks_20 : decode (mi_code n_L_speaks) 20 = .ok (.astore 4, 2) := by decide +kernel
theorem d_L_speaks_22 : decode (mi_code n_L_speaks) 22 = .ok (.iconst 1, 1) := by decide +kernel
theorem d_L_speaks_23 : decode (mi_code n_L_speaks) 23 = .ok (.ireturn, 1) := by decide +kernel
theorem d_L_speaks_24 : decode (mi_code n_L_speaks) 24 = .ok (.iconst 0, 1) := by decide +kernel
theorem d_L_speaks_25 : decode (mi_code n_L_speaks) 25 = .ok (.ireturn, 1) := by decide +kernel
theorem d_L_splice_0 : decode (mi_code n_L_splice) 0 = .ok (.aload_n 2, 1) := by decide +kernel
theorem d_L_splice_1 : decode (mi_code n_L_splice) 1 = .ok (.iconst 0, 1) := by decide +kernel
theorem d_L_splice_2 : decode (mi_code n_L_splice) 2 = .ok (.aload_n 0, 1) := by decide +kernel
theorem d_L_splice_3 : decode (mi_code n_L_splice) 3 = .ok (.iload_n 1, 1) := by decide +kernel
theorem d_L_splice_4 : decode (mi_code n_L_splice) 4 = .ok (.invokevirtual 83, 3) := by decide +kernel
theorem d_L_splice_7 : decode (mi_code n_L_splice) 7 = .ok (.i2l, 1) := by decide +kernel
theorem d_L_splice_8 : decode (mi_code n_L_splice) 8 = .ok (.lastore, 1) := by decide +kernel
theorem d_L_splice_9 : decode (mi_code n_L_splice) 9 = .ok (.goto 9, 3) := by decide +kernel
theorem d_L_splice_12 : decode (mi_code n_L_splice) 12 = .ok (.astore_n 3, 1) := by decide +kernel
theorem d_L_splice_13 : decode (mi_code n_L_splice) 13 = .ok (.iconst 1, 1) := by decide +kernel
theorem d_L_splice_14 : decode (mi_code n_L_splice) 14 = .ok (.ireturn, 1) := by decide +kernel
theorem d_L_splice_15 : decode (mi_code n_L_splice) 15 = .ok (.astore_n 3, 1) := by decide +kernel
theorem d_L_splice_16 : decode (mi_code n_L_splice) 16 = .ok (.iconst 2, 1) := by decide +kernel
theorem d_L_splice_17 : decode (mi_code n_L_splice) 17 = .ok (.ireturn, 1) := by decide +kernel
theorem d_L_splice_18 : decode (mi_code n_L_splice) 18 = .ok (.iconst 0, 1) := by decide +kernel
theorem d_L_splice_19 : decode (mi_code n_L_splice) 19 = .ok (.ireturn, 1) := by decide +kernel
theorem d_L_stale_0 : decode (mi_code n_L_stale) 0 = .ok (.aload_n 2, 1) := by decide +kernel
theorem d_L_stale_1 : decode (mi_code n_L_stale) 1 = .ok (.iconst 0, 1) := by decide +kernel
theorem d_L_stale_2 : decode (mi_code n_L_stale) 2 = .ok (.aload_n 0, 1) := by decide +kernel
theorem d_L_stale_3 : decode (mi_code n_L_stale) 3 = .ok (.iload_n 1, 1) := by decide +kernel
theorem d_L_stale_4 : decode (mi_code n_L_stale) 4 = .ok (.invokevirtual 108, 3) := by decide +kernel
theorem d_L_stale_7 : decode (mi_code n_L_stale) 7 = .ok (.i2l, 1) := by decide +kernel
theorem d_L_stale_8 : decode (mi_code n_L_stale) 8 = .ok (.lastore, 1) := by decide +kernel
theorem d_L_stale_9 : decode (mi_code n_L_stale) 9 = .ok (.goto 6, 3) := by decide +kernel
theorem d_L_stale_12 : decode (mi_code n_L_stale) 12 = .ok (.astore_n 3, 1) := by decide +kernel
theorem d_L_stale_13 : decode (mi_code n_L_stale) 13 = .ok (.iconst 1, 1) := by decide +kernel
theorem d_L_stale_14 : decode (mi_code n_L_stale) 14 = .ok (.ireturn, 1) := by decide +kernel
theorem d_L_stale_15 : decode (mi_code n_L_stale) 15 = .ok (.iconst 0, 1) := by decide +kernel
theorem d_L_stale_16 : decode (mi_code n_L_stale) 16 = .ok (.ireturn, 1) := by decide +kernel
theorem d_L_stroke_0 : decode (mi_code n_L_stroke) 0 = .ok (.aload 6, 2) := by decide +kernel
theorem d_L_stroke_2 : decode (mi_code n_L_stroke) 2 = .ok (.iconst 0, 1) := by decide +kernel
theorem d_L_stroke_3 : decode (mi_code n_L_stroke) 3 = .ok (.aload_n 0, 1) := by decide +kernel
theorem d_L_stroke_4 : decode (mi_code n_L_stroke) 4 = .ok (.iload_n 1, 1) := by decide +kernel
theorem d_L_stroke_5 : decode (mi_code n_L_stroke) 5 = .ok (.iload_n 2, 1) := by decide +kernel
theorem d_L_stroke_6 : decode (mi_code n_L_stroke) 6 = .ok (.iload_n 3, 1) := by decide +kernel
theorem d_L_stroke_7 : decode (mi_code n_L_stroke) 7 = .ok (.iload 4, 2) := by decide +kernel
theorem d_L_stroke_9 : decode (mi_code n_L_stroke) 9 = .ok (.iload 5, 2) := by decide +kernel
theorem d_L_stroke_11 : decode (mi_code n_L_stroke) 11 = .ok (.invokevirtual 23, 3) := by decide +kernel
theorem d_L_stroke_14 : decode (mi_code n_L_stroke) 14 = .ok (.i2l, 1) := by decide +kernel
theorem d_L_stroke_15 : decode (mi_code n_L_stroke) 15 = .ok (.lastore, 1) := by decide +kernel
theorem d_L_stroke_16 : decode (mi_code n_L_stroke) 16 = .ok (.goto 15, 3) := by decide +kernel
theorem d_L_stroke_19 : decode (mi_code n_L_stroke) 19 = .ok (.astore 7, 2) := by decide +kernel
theorem d_L_stroke_21 : decode (mi_code n_L_stroke) 21 = .ok (.iconst 1, 1) := by decide +kernel
theorem d_L_stroke_22 : decode (mi_code n_L_stroke) 22 = .ok (.ireturn, 1) := by decide +kernel
theorem d_L_stroke_23 : decode (mi_code n_L_stroke) 23 = .ok (.astore 7, 2) := by decide +kernel
theorem d_L_stroke_25 : decode (mi_code n_L_stroke) 25 = .ok (.iconst 2, 1) := by decide +kernel
theorem d_L_stroke_26 : decode (mi_code n_L_stroke) 26 = .ok (.ireturn, 1) := by decide +kernel
theorem d_L_stroke_27 : decode (mi_code n_L_stroke) 27 = .ok (.astore 7, 2) := by decide +kernel
theorem d_L_stroke_29 : decode (mi_code n_L_stroke) 29 = .ok (.iconst 3, 1) := by decide +kernel
theorem d_L_stroke_30 : decode (mi_code n_L_stroke) 30 = .ok (.ireturn, 1) := by decide +kernel
theorem d_L_stroke_31 : decode (mi_code n_L_stroke) 31 = .ok (.iconst 0, 1) := by decide +kernel
theorem d_L_stroke_32 : decode (mi_code n_L_stroke) 32 = .ok (.ireturn, 1) := by decide +kernel
theorem d_L_voice_0 : decode (mi_code n_L_voice) 0 = .ok (.aload 4, 2) := by decide +kernel
theorem d_L_voice_2 : decode (mi_code n_L_voice) 2 = .ok (.iconst 0, 1) := by decide +kernel
theorem d_L_voice_3 : decode (mi_code n_L_voice) 3 = .ok (.aload_n 0, 1) := by decide +kernel
theorem d_L_voice_4 : decode (mi_code n_L_voice) 4 = .ok (.iload_n 1, 1) := by decide +kernel
theorem d_L_voice_5 : decode (mi_code n_L_voice) 5 = .ok (.iload_n 2, 1) := by decide +kernel
theorem d_L_voice_6 : decode (mi_code n_L_voice) 6 = .ok (.iload_n 3, 1) := by decide +kernel
theorem d_L_voice_7 : decode (mi_code n_L_voice) 7 = .ok (.invokevirtual 57, 3) := by decide +kernel
theorem d_L_voice_10 : decode (mi_code n_L_voice) 10 = .ok (.i2l, 1) := by decide +kernel
theorem d_L_voice_11 : decode (mi_code n_L_voice) 11 = .ok (.lastore, 1) := by decide +kernel
theorem d_L_voice_12 : decode (mi_code n_L_voice) 12 = .ok (.goto 7, 3) := by decide +kernel
theorem d_L_voice_15 : decode (mi_code n_L_voice) 15 = .ok (.astore 5, 2) := by decide +kernel
theorem d_L_voice_17 : decode (mi_code n_L_voice) 17 = .ok (.iconst 1, 1) := by decide +kernel
theorem d_L_voice_18 : decode (mi_code n_L_voice) 18 = .ok (.ireturn, 1) := by decide +kernel
theorem d_L_voice_19 : decode (mi_code n_L_voice) 19 = .ok (.iconst 0, 1) := by decide +kernel
theorem d_L_voice_20 : decode (mi_code n_L_voice) 20 = .ok (.ireturn, 1) := by decide +kernel
theorem d_M_approve_0 : decode (mi_code n_M_approve) 0 = .ok (.aload_n 0, 1) := by decide +kernel
theorem d_M_approve_1 : decode (mi_code n_M_approve) 1 = .ok (.iload_n 1, 1) := by decide +kernel
theorem d_M_approve_2 : decode (mi_code n_M_approve) 2 = .ok (.invokevirtual 130, 3) := by decide +kernel
theorem d_M_approve_5 : decode (mi_code n_M_approve) 5 = .ok (.istore_n 3, 1) := by decide +kernel
theorem d_M_approve_6 : decode (mi_code n_M_approve) 6 = .ok (.aload_n 0, 1) := by decide +kernel
theorem d_M_approve_7 : decode (mi_code n_M_approve) 7 = .ok (.iload_n 3, 1) := by decide +kernel
theorem d_M_approve_8 : decode (mi_code n_M_approve) 8 = .ok (.iload_n 3, 1) := by decide +kernel
theorem d_M_approve_9 : decode (mi_code n_M_approve) 9 = .ok (.ifCond .eq 17, 3) := by decide +kernel
theorem d_M_approve_12 : decode (mi_code n_M_approve) 12 = .ok (.aload_n 0, 1) := by decide +kernel
theorem d_M_approve_13 : decode (mi_code n_M_approve) 13 = .ok (.getfield 22, 3) := by decide +kernel
theorem d_M_approve_16 : decode (mi_code n_M_approve) 16 = .ok (.iload_n 1, 1) := by decide +kernel
theorem d_M_approve_17 : decode (mi_code n_M_approve) 17 = .ok (.baload, 1) := by decide +kernel
theorem d_M_approve_18 : decode (mi_code n_M_approve) 18 = .ok (.iload_n 2, 1) := by decide +kernel
theorem d_M_approve_19 : decode (mi_code n_M_approve) 19 = .ok (.if_icmp .eq 7, 3) := by decide +kernel
theorem d_M_approve_22 : decode (mi_code n_M_approve) 22 = .ok (.iconst 1, 1) := by decide +kernel
theorem d_M_approve_23 : decode (mi_code n_M_approve) 23 = .ok (.goto 4, 3) := by decide +kernel
theorem d_M_approve_26 : decode (mi_code n_M_approve) 26 = .ok (.iconst 0, 1) := by decide +kernel
theorem d_M_approve_27 : decode (mi_code n_M_approve) 27 = .ok (.invokevirtual 166, 3) := by decide +kernel
theorem d_M_approve_30 : decode (mi_code n_M_approve) 30 = .ok (.ifCond .ne 5, 3) := by decide +kernel
theorem d_M_approve_33 : decode (mi_code n_M_approve) 33 = .ok (.iconst 0, 1) := by decide +kernel
theorem d_M_approve_34 : decode (mi_code n_M_approve) 34 = .ok (.ireturn, 1) := by decide +kernel
theorem d_M_approve_35 : decode (mi_code n_M_approve) 35 = .ok (.aload_n 0, 1) := by decide +kernel
theorem d_M_approve_36 : decode (mi_code n_M_approve) 36 = .ok (.getfield 22, 3) := by decide +kernel
theorem d_M_approve_39 : decode (mi_code n_M_approve) 39 = .ok (.iload_n 1, 1) := by decide +kernel
theorem d_M_approve_40 : decode (mi_code n_M_approve) 40 = .ok (.iload_n 2, 1) := by decide +kernel
theorem d_M_approve_41 : decode (mi_code n_M_approve) 41 = .ok (.bastore, 1) := by decide +kernel
theorem d_M_approve_42 : decode (mi_code n_M_approve) 42 = .ok (.iconst 0, 1) := by decide +kernel
theorem d_M_approve_43 : decode (mi_code n_M_approve) 43 = .ok (.istore 4, 2) := by decide +kernel
theorem d_M_approve_45 : decode (mi_code n_M_approve) 45 = .ok (.iconst 0, 1) := by decide +kernel
theorem d_M_approve_46 : decode (mi_code n_M_approve) 46 = .ok (.istore 5, 2) := by decide +kernel
theorem d_M_approve_48 : decode (mi_code n_M_approve) 48 = .ok (.iload 5, 2) := by decide +kernel
theorem d_M_approve_50 : decode (mi_code n_M_approve) 50 = .ok (.aload_n 0, 1) := by decide +kernel
theorem d_M_approve_51 : decode (mi_code n_M_approve) 51 = .ok (.getfield 193, 3) := by decide +kernel
theorem d_M_approve_54 : decode (mi_code n_M_approve) 54 = .ok (.if_icmp .ge 52, 3) := by decide +kernel
theorem d_M_approve_57 : decode (mi_code n_M_approve) 57 = .ok (.iconst 0, 1) := by decide +kernel
theorem d_M_approve_58 : decode (mi_code n_M_approve) 58 = .ok (.istore 6, 2) := by decide +kernel
theorem d_M_approve_60 : decode (mi_code n_M_approve) 60 = .ok (.iload 6, 2) := by decide +kernel
theorem d_M_approve_62 : decode (mi_code n_M_approve) 62 = .ok (.aload_n 0, 1) := by decide +kernel
theorem d_M_approve_63 : decode (mi_code n_M_approve) 63 = .ok (.getfield 65, 3) := by decide +kernel
theorem d_M_approve_66 : decode (mi_code n_M_approve) 66 = .ok (.iload 5, 2) := by decide +kernel
theorem d_M_approve_68 : decode (mi_code n_M_approve) 68 = .ok (.iaload, 1) := by decide +kernel
theorem d_M_approve_69 : decode (mi_code n_M_approve) 69 = .ok (.if_icmp .ge 31, 3) := by decide +kernel
theorem d_M_approve_72 : decode (mi_code n_M_approve) 72 = .ok (.iload 4, 2) := by decide +kernel
theorem d_M_approve_74 : decode (mi_code n_M_approve) 74 = .ok (.aload_n 0, 1) := by decide +kernel
theorem d_M_approve_75 : decode (mi_code n_M_approve) 75 = .ok (.iload 5, 2) := by decide +kernel
theorem d_M_approve_77 : decode (mi_code n_M_approve) 77 = .ok (.iload 6, 2) := by decide +kernel
theorem d_M_approve_79 : decode (mi_code n_M_approve) 79 = .ok (.iload_n 1, 1) := by decide +kernel
theorem d_M_approve_80 : decode (mi_code n_M_approve) 80 = .ok (.invokevirtual 238, 3) := by decide +kernel
theorem d_M_approve_83 : decode (mi_code n_M_approve) 83 = .ok (.ifCond .eq 7, 3) := by decide +kernel
theorem d_M_approve_86 : decode (mi_code n_M_approve) 86 = .ok (.iconst 1, 1) := by decide +kernel
theorem d_M_approve_87 : decode (mi_code n_M_approve) 87 = .ok (.goto 4, 3) := by decide +kernel
theorem d_M_approve_90 : decode (mi_code n_M_approve) 90 = .ok (.iconst 0, 1) := by decide +kernel
theorem d_M_approve_91 : decode (mi_code n_M_approve) 91 = .ok (.iadd, 1) := by decide +kernel
theorem d_M_approve_92 : decode (mi_code n_M_approve) 92 = .ok (.istore 4, 2) := by decide +kernel
theorem d_M_approve_94 : decode (mi_code n_M_approve) 94 = .ok (.iinc 6 1, 3) := by decide +kernel
theorem d_M_approve_97 : decode (mi_code n_M_approve) 97 = .ok (.goto (-37), 3) := by decide +kernel
theorem d_M_approve_100 : decode (mi_code n_M_approve) 100 = .ok (.iinc 5 1, 3) := by decide +kernel
theorem d_M_approve_103 : decode (mi_code n_M_approve) 103 = .ok (.goto (-55), 3) := by decide +kernel
theorem d_M_approve_106 : decode (mi_code n_M_approve) 106 = .ok (.iload 4, 2) := by decide +kernel
theorem d_M_approve_108 : decode (mi_code n_M_approve) 108 = .ok (.ireturn, 1) := by decide +kernel
theorem d_M_asked1_0 : decode (mi_code n_M_asked1) 0 = .ok (.aload_n 0, 1) := by decide +kernel
theorem d_M_asked1_1 : decode (mi_code n_M_asked1) 1 = .ok (.iload_n 1, 1) := by decide +kernel
theorem d_M_asked1_2 : decode (mi_code n_M_asked1) 2 = .ok (.ifCond .eq 7, 3) := by decide +kernel
theorem d_M_asked1_5 : decode (mi_code n_M_asked1) 5 = .ok (.iconst 0, 1) := by decide +kernel
theorem d_M_asked1_6 : decode (mi_code n_M_asked1) 6 = .ok (.goto 4, 3) := by decide +kernel
theorem d_M_asked1_9 : decode (mi_code n_M_asked1) 9 = .ok (.iconst 1, 1) := by decide +kernel
theorem d_M_asked1_10 : decode (mi_code n_M_asked1) 10 = .ok (.putfield 119, 3) := by decide +kernel
theorem d_M_asked1_13 : decode (mi_code n_M_asked1) 13 = .ok (.iload_n 1, 1) := by decide +kernel
theorem d_M_asked1_14 : decode (mi_code n_M_asked1) 14 = .ok (.ireturn, 1) := by decide +kernel
theorem d_M_asked2_0 : decode (mi_code n_M_asked2) 0 = .ok (.aload_n 0, 1) := by decide +kernel
theorem d_M_asked2_1 : decode (mi_code n_M_asked2) 1 = .ok (.iload_n 1, 1) := by decide +kernel
theorem d_M_asked2_2 : decode (mi_code n_M_asked2) 2 = .ok (.ifCond .ne 7, 3) := by decide +kernel
theorem d_M_asked2_5 : decode (mi_code n_M_asked2) 5 = .ok (.iconst 1, 1) := by decide +kernel
theorem d_M_asked2_6 : decode (mi_code n_M_asked2) 6 = .ok (.goto 12, 3) := by decide +kernel
theorem d_M_asked2_9 : decode (mi_code n_M_asked2) 9 = .ok (.iload_n 2, 1) := by decide +kernel
theorem d_M_asked2_10 : decode (mi_code n_M_asked2) 10 = .ok (.ifCond .eq 7, 3) := by decide +kernel
theorem d_M_asked2_13 : decode (mi_code n_M_asked2) 13 = .ok (.iconst 0, 1) := by decide +kernel
theorem d_M_asked2_14 : decode (mi_code n_M_asked2) 14 = .ok (.goto 4, 3) := by decide +kernel
theorem d_M_asked2_17 : decode (mi_code n_M_asked2) 17 = .ok (.iconst 2, 1) := by decide +kernel
theorem d_M_asked2_18 : decode (mi_code n_M_asked2) 18 = .ok (.putfield 119, 3) := by decide +kernel
theorem d_M_asked2_21 : decode (mi_code n_M_asked2) 21 = .ok (.aload_n 0, 1) := by decide +kernel
theorem d_M_asked2_22 : decode (mi_code n_M_asked2) 22 = .ok (.getfield 119, 3) := by decide +kernel
theorem d_M_asked2_25 : decode (mi_code n_M_asked2) 25 = .ok (.ifCond .ne 7, 3) := by decide +kernel
theorem d_M_asked2_28 : decode (mi_code n_M_asked2) 28 = .ok (.iconst 1, 1) := by decide +kernel
theorem d_M_asked2_29 : decode (mi_code n_M_asked2) 29 = .ok (.goto 4, 3) := by decide +kernel
theorem d_M_asked2_32 : decode (mi_code n_M_asked2) 32 = .ok (.iconst 0, 1) := by decide +kernel
theorem d_M_asked2_33 : decode (mi_code n_M_asked2) 33 = .ok (.ireturn, 1) := by decide +kernel
theorem d_M_asked3_0 : decode (mi_code n_M_asked3) 0 = .ok (.aload_n 0, 1) := by decide +kernel
theorem d_M_asked3_1 : decode (mi_code n_M_asked3) 1 = .ok (.iload_n 1, 1) := by decide +kernel
theorem d_M_asked3_2 : decode (mi_code n_M_asked3) 2 = .ok (.ifCond .ne 7, 3) := by decide +kernel
theorem d_M_asked3_5 : decode (mi_code n_M_asked3) 5 = .ok (.iconst 1, 1) := by decide +kernel
theorem d_M_asked3_6 : decode (mi_code n_M_asked3) 6 = .ok (.goto 20, 3) := by decide +kernel
theorem d_M_asked3_9 : decode (mi_code n_M_asked3) 9 = .ok (.iload_n 2, 1) := by decide +kernel
theorem d_M_asked3_10 : decode (mi_code n_M_asked3) 10 = .ok (.ifCond .ne 7, 3) := by decide +kernel
theorem d_M_asked3_13 : decode (mi_code n_M_asked3) 13 = .ok (.iconst 2, 1) := by decide +kernel
theorem d_M_asked3_14 : decode (mi_code n_M_asked3) 14 = .ok (.goto 12, 3) := by decide +kernel
theorem d_M_asked3_17 : decode (mi_code n_M_asked3) 17 = .ok (.iload_n 3, 1) := by decide +kernel
theorem d_M_asked3_18 : decode (mi_code n_M_asked3) 18 = .ok (.ifCond .eq 7, 3) := by decide +kernel
theorem d_M_asked3_21 : decode (mi_code n_M_asked3) 21 = .ok (.iconst 0, 1) := by decide +kernel
theorem d_M_asked3_22 : decode (mi_code n_M_asked3) 22 = .ok (.goto 4, 3) := by decide +kernel
theorem d_M_asked3_25 : decode (mi_code n_M_asked3) 25 = .ok (.iconst 3, 1) := by decide +kernel
theorem d_M_asked3_26 : decode (mi_code n_M_asked3) 26 = .ok (.putfield 119, 3) := by decide +kernel
theorem d_M_asked3_29 : decode (mi_code n_M_asked3) 29 = .ok (.aload_n 0, 1) := by decide +kernel
theorem d_M_asked3_30 : decode (mi_code n_M_asked3) 30 = .ok (.getfield 119, 3) := by decide +kernel
theorem d_M_asked3_33 : decode (mi_code n_M_asked3) 33 = .ok (.ifCond .ne 7, 3) := by decide +kernel
theorem d_M_asked3_36 : decode (mi_code n_M_asked3) 36 = .ok (.iconst 1, 1) := by decide +kernel
theorem d_M_asked3_37 : decode (mi_code n_M_asked3) 37 = .ok (.goto 4, 3) := by decide +kernel
theorem d_M_asked3_40 : decode (mi_code n_M_asked3) 40 = .ok (.iconst 0, 1) := by decide +kernel
theorem d_M_asked3_41 : decode (mi_code n_M_asked3) 41 = .ok (.ireturn, 1) := by decide +kernel
theorem d_M_between_0 : decode (mi_code n_M_between) 0 = .ok (.aload_n 0, 1) := by decide +kernel
theorem d_M_between_1 : decode (mi_code n_M_between) 1 = .ok (.aload_n 0, 1) := by decide +kernel
theorem d_M_between_2 : decode (mi_code n_M_between) 2 = .ok (.iload_n 1, 1) := by decide +kernel
theorem d_M_between_3 : decode (mi_code n_M_between) 3 = .ok (.invokevirtual 130, 3) := by decide +kernel
theorem d_M_between_6 : decode (mi_code n_M_between) 6 = .ok (.ifCond .eq 15, 3) := by decide +kernel
theorem d_M_between_9 : decode (mi_code n_M_between) 9 = .ok (.aload_n 0, 1) := by decide +kernel
theorem d_M_between_10 : decode (mi_code n_M_between) 10 = .ok (.iload_n 2, 1) := by decide +kernel
theorem d_M_between_11 : decode (mi_code n_M_between) 11 = .ok (.invokevirtual 130, 3) := by decide +kernel
theorem d_M_between_14 : decode (mi_code n_M_between) 14 = .ok (.ifCond .eq 7, 3) := by decide +kernel
theorem d_M_between_17 : decode (mi_code n_M_between) 17 = .ok (.iconst 1, 1) := by decide +kernel
theorem d_M_between_18 : decode (mi_code n_M_between) 18 = .ok (.goto 4, 3) := by decide +kernel
theorem d_M_between_21 : decode (mi_code n_M_between) 21 = .ok (.iconst 0, 1) := by decide +kernel
theorem d_M_between_22 : decode (mi_code n_M_between) 22 = .ok (.iload 4, 2) := by decide +kernel
theorem d_M_between_24 : decode (mi_code n_M_between) 24 = .ok (.iconst 1, 1) := by decide +kernel
theorem d_M_between_25 : decode (mi_code n_M_between) 25 = .ok (.bipush 24, 2) := by decide +kernel
theorem d_M_between_27 : decode (mi_code n_M_between) 27 = .ok (.invokestatic 126, 3) := by decide +kernel
theorem d_M_between_30 : decode (mi_code n_M_between) 30 = .ok (.ifCond .eq 17, 3) := by decide +kernel
theorem d_M_between_33 : decode (mi_code n_M_between) 33 = .ok (.iload_n 3, 1) := by decide +kernel
theorem d_M_between_34 : decode (mi_code n_M_between) 34 = .ok (.iconst 0, 1) := by decide +kernel
theorem d_M_between_35 : decode (mi_code n_M_between) 35 = .ok (.iload 4, 2) := by decide +kernel
theorem d_M_between_37 : decode (mi_code n_M_between) 37 = .ok (.invokestatic 126, 3) := by decide +kernel
theorem d_M_between_40 : decode (mi_code n_M_between) 40 = .ok (.ifCond .eq 7, 3) := by decide +kernel
theorem d_M_between_43 : decode (mi_code n_M_between) 43 = .ok (.iconst 1, 1) := by decide +kernel
theorem d_M_between_44 : decode (mi_code n_M_between) 44 = .ok (.goto 4, 3) := by decide +kernel
theorem d_M_between_47 : decode (mi_code n_M_between) 47 = .ok (.iconst 0, 1) := by decide +kernel
theorem d_M_between_48 : decode (mi_code n_M_between) 48 = .ok (.aload_n 0, 1) := by decide +kernel
theorem d_M_between_49 : decode (mi_code n_M_between) 49 = .ok (.getfield 123, 3) := by decide +kernel
theorem d_M_between_52 : decode (mi_code n_M_between) 52 = .ok (.bipush 16, 2) := by decide +kernel
theorem d_M_between_54 : decode (mi_code n_M_between) 54 = .ok (.if_icmp .ge 7, 3) := by decide +kernel
theorem d_M_between_57 : decode (mi_code n_M_between) 57 = .ok (.iconst 1, 1) := by decide +kernel
theorem d_M_between_58 : decode (mi_code n_M_between) 58 = .ok (.goto 4, 3) := by decide +kernel
theorem d_M_between_61 : decode (mi_code n_M_between) 61 = .ok (.iconst 0, 1) := by decide +kernel
theorem d_M_between_62 : decode (mi_code n_M_between) 62 = .ok (.invokevirtual 146, 3) := by decide +kernel
theorem d_M_between_65 : decode (mi_code n_M_between) 65 = .ok (.ifCond .ne 5, 3) := by decide +kernel
theorem d_M_between_68 : decode (mi_code n_M_between) 68 = .ok (.iconst 0, 1) := by decide +kernel
theorem d_M_between_69 : decode (mi_code n_M_between) 69 = .ok (.ireturn, 1) := by decide +kernel
theorem d_M_between_70 : decode (mi_code n_M_between) 70 = .ok (.aload_n 0, 1) := by decide +kernel
theorem d_M_between_71 : decode (mi_code n_M_between) 71 = .ok (.iload_n 1, 1) := by decide +kernel
theorem d_M_between_72 : decode (mi_code n_M_between) 72 = .ok (.iload_n 2, 1) := by decide +kernel
theorem d_M_between_73 : decode (mi_code n_M_between) 73 = .ok (.iload_n 3, 1) := by decide +kernel
theorem d_M_between_74 : decode (mi_code n_M_between) 74 = .ok (.iload 4, 2) := by decide +kernel
theorem d_M_between_76 : decode (mi_code n_M_between) 76 = .ok (.invokevirtual 142, 3) := by decide +kernel
theorem d_M_between_79 : decode (mi_code n_M_between) 79 = .ok (.ireturn, 1) := by decide +kernel
theorem d_M_colour_0 : decode (mi_code n_M_colour) 0 = .ok (.aload_n 0, 1) := by decide +kernel
theorem d_M_colour_1 : decode (mi_code n_M_colour) 1 = .ok (.iload_n 1, 1) := by decide +kernel
theorem d_M_colour_2 : decode (mi_code n_M_colour) 2 = .ok (.iconst 0, 1) := by decide +kernel
theorem d_M_colour_3 : decode (mi_code n_M_colour) 3 = .ok (.iconst 3, 1) := by decide +kernel
theorem d_M_colour_4 : decode (mi_code n_M_colour) 4 = .ok (.invokestatic 126, 3) := by decide +kernel
theorem d_M_colour_7 : decode (mi_code n_M_colour) 7 = .ok (.ifCond .eq 17, 3) := by decide +kernel
theorem d_M_colour_10 : decode (mi_code n_M_colour) 10 = .ok (.iload_n 2, 1) := by decide +kernel
theorem d_M_colour_11 : decode (mi_code n_M_colour) 11 = .ok (.iconst 0, 1) := by decide +kernel
theorem d_M_colour_12 : decode (mi_code n_M_colour) 12 = .ok (.bipush 7, 2) := by decide +kernel
theorem d_M_colour_14 : decode (mi_code n_M_colour) 14 = .ok (.invokestatic 126, 3) := by decide +kernel
theorem d_M_colour_17 : decode (mi_code n_M_colour) 17 = .ok (.ifCond .eq 7, 3) := by decide +kernel
theorem d_M_colour_20 : decode (mi_code n_M_colour) 20 = .ok (.iconst 1, 1) := by decide +kernel
theorem d_M_colour_21 : decode (mi_code n_M_colour) 21 = .ok (.goto 4, 3) := by decide +kernel
theorem d_M_colour_24 : decode (mi_code n_M_colour) 24 = .ok (.iconst 0, 1) := by decide +kernel
theorem d_M_colour_25 : decode (mi_code n_M_colour) 25 = .ok (.iload_n 3, 1) := by decide +kernel
theorem d_M_colour_26 : decode (mi_code n_M_colour) 26 = .ok (.iconst 1, 1) := by decide +kernel
theorem d_M_colour_27 : decode (mi_code n_M_colour) 27 = .ok (.bipush 99, 2) := by decide +kernel
theorem d_M_colour_29 : decode (mi_code n_M_colour) 29 = .ok (.invokestatic 126, 3) := by decide +kernel
theorem d_M_colour_32 : decode (mi_code n_M_colour) 32 = .ok (.invokevirtual 166, 3) := by decide +kernel
theorem d_M_colour_35 : decode (mi_code n_M_colour) 35 = .ok (.ifCond .ne 5, 3) := by decide +kernel
theorem d_M_colour_38 : decode (mi_code n_M_colour) 38 = .ok (.iconst 0, 1) := by decide +kernel
theorem d_M_colour_39 : decode (mi_code n_M_colour) 39 = .ok (.ireturn, 1) := by decide +kernel
theorem d_M_colour_40 : decode (mi_code n_M_colour) 40 = .ok (.aload_n 0, 1) := by decide +kernel
theorem d_M_colour_41 : decode (mi_code n_M_colour) 41 = .ok (.getfield 62, 3) := by decide +kernel
theorem d_M_colour_44 : decode (mi_code n_M_colour) 44 = .ok (.bipush 8, 2) := by decide +kernel
theorem d_M_colour_46 : decode (mi_code n_M_colour) 46 = .ok (.iload_n 1, 1) := by decide +kernel
theorem d_M_colour_47 : decode (mi_code n_M_colour) 47 = .ok (.imul, 1) := by decide +kernel
theorem d_M_colour_48 : decode (mi_code n_M_colour) 48 = .ok (.iload_n 2, 1) := by decide +kernel
theorem d_M_colour_49 : decode (mi_code n_M_colour) 49 = .ok (.iadd, 1) := by decide +kernel
theorem d_M_colour_50 : decode (mi_code n_M_colour) 50 = .ok (.iaload, 1) := by decide +kernel
theorem d_M_colour_51 : decode (mi_code n_M_colour) 51 = .ok (.istore 4, 2) := by decide +kernel
theorem d_M_colour_53 : decode (mi_code n_M_colour) 53 = .ok (.aload_n 0, 1) := by decide +kernel
theorem d_M_colour_54 : decode (mi_code n_M_colour) 54 = .ok (.getfield 62, 3) := by decide +kernel
theorem d_M_colour_57 : decode (mi_code n_M_colour) 57 = .ok (.bipush 8, 2) := by decide +kernel
theorem d_M_colour_59 : decode (mi_code n_M_colour) 59 = .ok (.iload_n 1, 1) := by decide +kernel
theorem d_M_colour_60 : decode (mi_code n_M_colour) 60 = .ok (.imul, 1) := by decide +kernel
theorem d_M_colour_61 : decode (mi_code n_M_colour) 61 = .ok (.iload_n 2, 1) := by decide +kernel
theorem d_M_colour_62 : decode (mi_code n_M_colour) 62 = .ok (.iadd, 1) := by decide +kernel
theorem d_M_colour_63 : decode (mi_code n_M_colour) 63 = .ok (.iload_n 3, 1) := by decide +kernel
theorem d_M_colour_64 : decode (mi_code n_M_colour) 64 = .ok (.iastore, 1) := by decide +kernel
theorem d_M_colour_65 : decode (mi_code n_M_colour) 65 = .ok (.iload 4, 2) := by decide +kernel
theorem d_M_colour_67 : decode (mi_code n_M_colour) 67 = .ok (.ireturn, 1) := by decide +kernel
theorem d_M_comes_0 : decode (mi_code n_M_comes) 0 = .ok (.aload_n 0, 1) := by decide +kernel
theorem d_M_comes_1 : decode (mi_code n_M_comes) 1 = .ok (.getfield 7, 3) := by decide +kernel
theorem d_M_comes_4 : decode (mi_code n_M_comes) 4 = .ok (.iload_n 1, 1) := by decide +kernel
theorem d_M_comes_5 : decode (mi_code n_M_comes) 5 = .ok (.iaload, 1) := by decide +kernel
theorem d_M_comes_6 : decode (mi_code n_M_comes) 6 = .ok (.istore_n 2, 1) := by decide +kernel
theorem d_M_comes_7 : decode (mi_code n_M_comes) 7 = .ok (.aload_n 0, 1) := by decide +kernel
theorem d_M_comes_8 : decode (mi_code n_M_comes) 8 = .ok (.getfield 26, 3) := by decide +kernel
theorem d_M_comes_11 : decode (mi_code n_M_comes) 11 = .ok (.iload_n 1, 1) := by decide +kernel
theorem d_M_comes_12 : decode (mi_code n_M_comes) 12 = .ok (.iconst 0, 1) := by decide +kernel
theorem d_M_comes_13 : decode (mi_code n_M_comes) 13 = .ok (.iastore, 1) := by decide +kernel
theorem d_M_comes_14 : decode (mi_code n_M_comes) 14 = .ok (.iconst 0, 1) := by decide +kernel
theorem d_M_comes_15 : decode (mi_code n_M_comes) 15 = .ok (.istore_n 3, 1) := by decide +kernel
theorem d_M_comes_16 : decode (mi_code n_M_comes) 16 = .ok (.iload_n 3, 1) := by decide +kernel
theorem d_M_comes_17 : decode (mi_code n_M_comes) 17 = .ok (.bipush 8, 2) := by decide +kernel
theorem d_M_comes_19 : decode (mi_code n_M_comes) 19 = .ok (.if_icmp .ge 170, 3) := by decide +kernel
theorem d_M_comes_22 : decode (mi_code n_M_comes) 22 = .ok (.aload_n 0, 1) := by decide +kernel
theorem d_M_comes_23 : decode (mi_code n_M_comes) 23 = .ok (.iload_n 2, 1) := by decide +kernel
theorem d_M_comes_24 : decode (mi_code n_M_comes) 24 = .ok (.iload_n 3, 1) := by decide +kernel
theorem d_M_comes_25 : decode (mi_code n_M_comes) 25 = .ok (.invokevirtual 156, 3) := by decide +kernel
theorem d_M_comes_28 : decode (mi_code n_M_comes) 28 = .ok (.istore 4, 2) := by decide +kernel
theorem d_M_comes_30 : decode (mi_code n_M_comes) 30 = .ok (.aload_n 0, 1) := by decide +kernel
theorem d_M_comes_31 : decode (mi_code n_M_comes) 31 = .ok (.aload_n 0, 1) := by decide +kernel
theorem d_M_comes_32 : decode (mi_code n_M_comes) 32 = .ok (.getfield 13, 3) := by decide +kernel
theorem d_M_comes_35 : decode (mi_code n_M_comes) 35 = .ok (.iload_n 1, 1) := by decide +kernel
theorem d_M_comes_36 : decode (mi_code n_M_comes) 36 = .ok (.iaload, 1) := by decide +kernel
theorem d_M_comes_37 : decode (mi_code n_M_comes) 37 = .ok (.iload_n 3, 1) := by decide +kernel
theorem d_M_comes_38 : decode (mi_code n_M_comes) 38 = .ok (.invokevirtual 156, 3) := by decide +kernel
theorem d_M_comes_41 : decode (mi_code n_M_comes) 41 = .ok (.istore 5, 2) := by decide +kernel
theorem d_M_comes_43 : decode (mi_code n_M_comes) 43 = .ok (.iload 4, 2) := by decide +kernel
theorem d_M_comes_45 : decode (mi_code n_M_comes) 45 = .ok (.iconst (-1), 1) := by decide +kernel
theorem d_M_comes_46 : decode (mi_code n_M_comes) 46 = .ok (.if_icmp .eq 137, 3) := by decide +kernel
theorem d_M_comes_49 : decode (mi_code n_M_comes) 49 = .ok (.iload 5, 2) := by decide +kernel
theorem d_M_comes_51 : decode (mi_code n_M_comes) 51 = .ok (.iconst (-1), 1) := by decide +kernel
theorem d_M_comes_52 : decode (mi_code n_M_comes) 52 = .ok (.if_icmp .eq 131, 3) := by decide +kernel
theorem d_M_comes_55 : decode (mi_code n_M_comes) 55 = .ok (.bipush 8, 2) := by decide +kernel
theorem d_M_comes_57 : decode (mi_code n_M_comes) 57 = .ok (.iload_n 1, 1) := by decide +kernel
theorem d_M_comes_58 : decode (mi_code n_M_comes) 58 = .ok (.imul, 1) := by decide +kernel
theorem d_M_comes_59 : decode (mi_code n_M_comes) 59 = .ok (.aload_n 0, 1) := by decide +kernel
theorem d_M_comes_60 : decode (mi_code n_M_comes) 60 = .ok (.getfield 26, 3) := by decide +kernel
theorem d_M_comes_63 : decode (mi_code n_M_comes) 63 = .ok (.iload_n 1, 1) := by decide +kernel
theorem d_M_comes_64 : decode (mi_code n_M_comes) 64 = .ok (.iaload, 1) := by decide +kernel
theorem d_M_comes_65 : decode (mi_code n_M_comes) 65 = .ok (.iadd, 1) := by decide +kernel
theorem d_M_comes_66 : decode (mi_code n_M_comes) 66 = .ok (.istore 6, 2) := by decide +kernel
theorem d_M_comes_68 : decode (mi_code n_M_comes) 68 = .ok (.aload_n 0, 1) := by decide +kernel
theorem d_M_comes_69 : decode (mi_code n_M_comes) 69 = .ok (.getfield 29, 3) := by decide +kernel
theorem d_M_comes_72 : decode (mi_code n_M_comes) 72 = .ok (.iload 6, 2) := by decide +kernel
theorem d_M_comes_74 : decode (mi_code n_M_comes) 74 = .ok (.iload_n 3, 1) := by decide +kernel
theorem d_M_comes_75 : decode (mi_code n_M_comes) 75 = .ok (.iastore, 1) := by decide +kernel
theorem d_M_comes_76 : decode (mi_code n_M_comes) 76 = .ok (.aload_n 0, 1) := by decide +kernel
theorem d_M_comes_77 : decode (mi_code n_M_comes) 77 = .ok (.getfield 32, 3) := by decide +kernel
theorem d_M_comes_80 : decode (mi_code n_M_comes) 80 = .ok (.iload 6, 2) := by decide +kernel
theorem d_M_comes_82 : decode (mi_code n_M_comes) 82 = .ok (.aload_n 0, 1) := by decide +kernel
theorem d_M_comes_83 : decode (mi_code n_M_comes) 83 = .ok (.getfield 32, 3) := by decide +kernel
theorem d_M_comes_86 : decode (mi_code n_M_comes) 86 = .ok (.iload 4, 2) := by decide +kernel
theorem d_M_comes_88 : decode (mi_code n_M_comes) 88 = .ok (.iaload, 1) := by decide +kernel
theorem d_M_comes_89 : decode (mi_code n_M_comes) 89 = .ok (.iastore, 1) := by decide +kernel
theorem d_M_comes_90 : decode (mi_code n_M_comes) 90 = .ok (.iconst 0, 1) := by decide +kernel
theorem d_M_comes_91 : decode (mi_code n_M_comes) 91 = .ok (.istore 7, 2) := by decide +kernel
theorem d_M_comes_93 : decode (mi_code n_M_comes) 93 = .ok (.iload 7, 2) := by decide +kernel
theorem d_M_comes_95 : decode (mi_code n_M_comes) 95 = .ok (.iconst 4, 1) := by decide +kernel
theorem d_M_comes_96 : decode (mi_code n_M_comes) 96 = .ok (.if_icmp .ge 77, 3) := by decide +kernel
theorem d_M_comes_99 : decode (mi_code n_M_comes) 99 = .ok (.aload_n 0, 1) := by decide +kernel
theorem d_M_comes_100 : decode (mi_code n_M_comes) 100 = .ok (.getfield 35, 3) := by decide +kernel
theorem d_M_comes_103 : decode (mi_code n_M_comes) 103 = .ok (.iconst 4, 1) := by decide +kernel
theorem d_M_comes_104 : decode (mi_code n_M_comes) 104 = .ok (.iload 5, 2) := by decide +kernel
theorem d_M_comes_106 : decode (mi_code n_M_comes) 106 = .ok (.imul, 1) := by decide +kernel
theorem d_M_comes_107 : decode (mi_code n_M_comes) 107 = .ok (.iload 7, 2) := by decide +kernel
theorem d_M_comes_109 : decode (mi_code n_M_comes) 109 = .ok (.iadd, 1) := by decide +kernel
theorem d_M_comes_110 : decode (mi_code n_M_comes) 110 = .ok (.iaload, 1) := by decide +kernel
theorem d_M_comes_111 : decode (mi_code n_M_comes) 111 = .ok (.aload_n 0, 1) := by decide +kernel
theorem d_M_comes_112 : decode (mi_code n_M_comes) 112 = .ok (.getfield 35, 3) := by decide +kernel
theorem d_M_comes_115 : decode (mi_code n_M_comes) 115 = .ok (.iconst 4, 1) := by decide +kernel
theorem d_M_comes_116 : decode (mi_code n_M_comes) 116 = .ok (.iload 4, 2) := by decide +kernel
theorem d_M_comes_118 : decode (mi_code n_M_comes) 118 = .ok (.imul, 1) := by decide +kernel
theorem d_M_comes_119 : decode (mi_code n_M_comes) 119 = .ok (.iload 7, 2) := by decide +kernel
theorem d_M_comes_121 : decode (mi_code n_M_comes) 121 = .ok (.iadd, 1) := by decide +kernel
theorem d_M_comes_122 : decode (mi_code n_M_comes) 122 = .ok (.iaload, 1) := by decide +kernel
theorem d_M_comes_123 : decode (mi_code n_M_comes) 123 = .ok (.isub, 1) := by decide +kernel
theorem d_M_comes_124 : decode (mi_code n_M_comes) 124 = .ok (.istore 8, 2) := by decide +kernel
theorem d_M_comes_126 : decode (mi_code n_M_comes) 126 = .ok (.aload_n 0, 1) := by decide +kernel
theorem d_M_comes_127 : decode (mi_code n_M_comes) 127 = .ok (.getfield 35, 3) := by decide +kernel
theorem d_M_comes_130 : decode (mi_code n_M_comes) 130 = .ok (.iconst 4, 1) := by decide +kernel
theorem d_M_comes_131 : decode (mi_code n_M_comes) 131 = .ok (.iload 6, 2) := by decide +kernel
theorem d_M_comes_133 : decode (mi_code n_M_comes) 133 = .ok (.imul, 1) := by decide +kernel
theorem d_M_comes_134 : decode (mi_code n_M_comes) 134 = .ok (.iload 7, 2) := by decide +kernel
theorem d_M_comes_136 : decode (mi_code n_M_comes) 136 = .ok (.iadd, 1) := by decide +kernel
theorem d_M_comes_137 : decode (mi_code n_M_comes) 137 = .ok (.aload_n 0, 1) := by decide +kernel
theorem d_M_comes_138 : decode (mi_code n_M_comes) 138 = .ok (.getfield 35, 3) := by decide +kernel
theorem d_M_comes_141 : decode (mi_code n_M_comes) 141 = .ok (.iconst 4, 1) := by decide +kernel
theorem d_M_comes_142 : decode (mi_code n_M_comes) 142 = .ok (.iload 4, 2) := by decide +kernel
theorem d_M_comes_144 : decode (mi_code n_M_comes) 144 = .ok (.imul, 1) := by decide +kernel
theorem d_M_comes_145 : decode (mi_code n_M_comes) 145 = .ok (.iload 7, 2) := by decide +kernel
theorem d_M_comes_147 : decode (mi_code n_M_comes) 147 = .ok (.iadd, 1) := by decide +kernel
theorem d_M_comes_148 : decode (mi_code n_M_comes) 148 = .ok (.iaload, 1) := by decide +kernel
theorem d_M_comes_149 : decode (mi_code n_M_comes) 149 = .ok (.aload_n 0, 1) := by decide +kernel
theorem d_M_comes_150 : decode (mi_code n_M_comes) 150 = .ok (.getfield 16, 3) := by decide +kernel
theorem d_M_comes_153 : decode (mi_code n_M_comes) 153 = .ok (.iload_n 1, 1) := by decide +kernel
theorem d_M_comes_154 : decode (mi_code n_M_comes) 154 = .ok (.iaload, 1) := by decide +kernel
theorem d_M_comes_155 : decode (mi_code n_M_comes) 155 = .ok (.iload 8, 2) := by decide +kernel
theorem d_M_comes_157 : decode (mi_code n_M_comes) 157 = .ok (.imul, 1) := by decide +kernel
theorem d_M_comes_158 : decode (mi_code n_M_comes) 158 = .ok (.aload_n 0, 1) := by decide +kernel
theorem d_M_comes_159 : decode (mi_code n_M_comes) 159 = .ok (.getfield 19, 3) := by decide +kernel
theorem d_M_comes_162 : decode (mi_code n_M_comes) 162 = .ok (.iload_n 1, 1) := by decide +kernel
theorem d_M_comes_163 : decode (mi_code n_M_comes) 163 = .ok (.iaload, 1) := by decide +kernel
theorem d_M_comes_164 : decode (mi_code n_M_comes) 164 = .ok (.idiv, 1) := by decide +kernel
theorem d_M_comes_165 : decode (mi_code n_M_comes) 165 = .ok (.iadd, 1) := by decide +kernel
theorem d_M_comes_166 : decode (mi_code n_M_comes) 166 = .ok (.iastore, 1) := by decide +kernel
theorem d_M_comes_167 : decode (mi_code n_M_comes) 167 = .ok (.iinc 7 1, 3) := by decide +kernel
theorem d_M_comes_170 : decode (mi_code n_M_comes) 170 = .ok (.goto (-77), 3) := by decide +kernel
theorem d_M_comes_173 : decode (mi_code n_M_comes) 173 = .ok (.aload_n 0, 1) := by decide +kernel
theorem d_M_comes_174 : decode (mi_code n_M_comes) 174 = .ok (.getfield 26, 3) := by decide +kernel
theorem d_M_comes_177 : decode (mi_code n_M_comes) 177 = .ok (.iload_n 1, 1) := by decide +kernel
theorem d_M_comes_178 : decode (mi_code n_M_comes) 178 = .ok (.dup2, 1) := by decide +kernel
theorem d_M_comes_179 : decode (mi_code n_M_comes) 179 = .ok (.iaload, 1) := by decide +kernel
theorem d_M_comes_180 : decode (mi_code n_M_comes) 180 = .ok (.iconst 1, 1) := by decide +kernel
theorem d_M_comes_181 : decode (mi_code n_M_comes) 181 = .ok (.iadd, 1) := by decide +kernel
theorem d_M_comes_182 : decode (mi_code n_M_comes) 182 = .ok (.iastore, 1) := by decide +kernel
theorem d_M_comes_183 : decode (mi_code n_M_comes) 183 = .ok (.iinc 3 1, 3) := by decide +kernel
theorem d_M_comes_186 : decode (mi_code n_M_comes) 186 = .ok (.goto (-170), 3) := by decide +kernel
theorem d_M_comes_189 : decode (mi_code n_M_comes) 189 = .ok (.aload_n 0, 1) := by decide +kernel
theorem d_M_comes_190 : decode (mi_code n_M_comes) 190 = .ok (.getfield 38, 3) := by decide +kernel
theorem d_M_comes_193 : decode (mi_code n_M_comes) 193 = .ok (.iload_n 1, 1) := by decide +kernel
theorem d_M_comes_194 : decode (mi_code n_M_comes) 194 = .ok (.aload_n 0, 1) := by decide +kernel
theorem d_M_comes_195 : decode (mi_code n_M_comes) 195 = .ok (.getfield 38, 3) := by decide +kernel
theorem d_M_comes_198 : decode (mi_code n_M_comes) 198 = .ok (.iload_n 2, 1) := by decide +kernel
theorem d_M_comes_199 : decode (mi_code n_M_comes) 199 = .ok (.iaload, 1) := by decide +kernel
theorem d_M_comes_200 : decode (mi_code n_M_comes) 200 = .ok (.iastore, 1) := by decide +kernel
theorem d_M_comes_201 : decode (mi_code n_M_comes) 201 = .ok (.aload_n 0, 1) := by decide +kernel
theorem d_M_comes_202 : decode (mi_code n_M_comes) 202 = .ok (.getfield 47, 3) := by decide +kernel
theorem d_M_comes_205 : decode (mi_code n_M_comes) 205 = .ok (.iload_n 1, 1) := by decide +kernel
theorem d_M_comes_206 : decode (mi_code n_M_comes) 206 = .ok (.aload_n 0, 1) := by decide +kernel
theorem d_M_comes_207 : decode (mi_code n_M_comes) 207 = .ok (.getfield 47, 3) := by decide +kernel
theorem d_M_comes_210 : decode (mi_code n_M_comes) 210 = .ok (.iload_n 2, 1) := by decide +kernel
theorem d_M_comes_211 : decode (mi_code n_M_comes) 211 = .ok (.baload, 1) := by decide +kernel
theorem d_M_comes_212 : decode (mi_code n_M_comes) 212 = .ok (.bastore, 1) := by decide +kernel
theorem d_M_comes_213 : decode (mi_code n_M_comes) 213 = .ok (.iconst 0, 1) := by decide +kernel
theorem d_M_comes_214 : decode (mi_code n_M_comes) 214 = .ok (.istore_n 3, 1) := by decide +kernel
theorem d_M_comes_215 : decode (mi_code n_M_comes) 215 = .ok (.iload_n 3, 1) := by decide +kernel
theorem d_M_comes_216 : decode (mi_code n_M_comes) 216 = .ok (.aload_n 0, 1) := by decide +kernel
theorem d_M_comes_217 : decode (mi_code n_M_comes) 217 = .ok (.getfield 38, 3) := by decide +kernel
theorem d_M_comes_220 : decode (mi_code n_M_comes) 220 = .ok (.iload_n 2, 1) := by decide +kernel
theorem d_M_comes_221 : decode (mi_code n_M_comes) 221 = .ok (.iaload, 1) := by decide +kernel
theorem d_M_comes_222 : decode (mi_code n_M_comes) 222 = .ok (.if_icmp .ge 53, 3) := by decide +kernel
theorem d_M_comes_225 : decode (mi_code n_M_comes) 225 = .ok (.aload_n 0, 1) := by decide +kernel
theorem d_M_comes_226 : decode (mi_code n_M_comes) 226 = .ok (.getfield 41, 3) := by decide +kernel
theorem d_M_comes_229 : decode (mi_code n_M_comes) 229 = .ok (.bipush 6, 2) := by decide +kernel
theorem d_M_comes_231 : decode (mi_code n_M_comes) 231 = .ok (.iload_n 1, 1) := by decide +kernel
theorem d_M_comes_232 : decode (mi_code n_M_comes) 232 = .ok (.imul, 1) := by decide +kernel
theorem d_M_comes_233 : decode (mi_code n_M_comes) 233 = .ok (.iload_n 3, 1) := by decide +kernel
theorem d_M_comes_234 : decode (mi_code n_M_comes) 234 = .ok (.iadd, 1) := by decide +kernel
theorem d_M_comes_235 : decode (mi_code n_M_comes) 235 = .ok (.aload_n 0, 1) := by decide +kernel
theorem d_M_comes_236 : decode (mi_code n_M_comes) 236 = .ok (.getfield 41, 3) := by decide +kernel
theorem d_M_comes_239 : decode (mi_code n_M_comes) 239 = .ok (.bipush 6, 2) := by decide +kernel
theorem d_M_comes_241 : decode (mi_code n_M_comes) 241 = .ok (.iload_n 2, 1) := by decide +kernel
theorem d_M_comes_242 : decode (mi_code n_M_comes) 242 = .ok (.imul, 1) := by decide +kernel
theorem d_M_comes_243 : decode (mi_code n_M_comes) 243 = .ok (.iload_n 3, 1) := by decide +kernel
theorem d_M_comes_244 : decode (mi_code n_M_comes) 244 = .ok (.iadd, 1) := by decide +kernel
theorem d_M_comes_245 : decode (mi_code n_M_comes) 245 = .ok (.iaload, 1) := by decide +kernel
theorem d_M_comes_246 : decode (mi_code n_M_comes) 246 = .ok (.iastore, 1) := by decide +kernel
theorem d_M_comes_247 : decode (mi_code n_M_comes) 247 = .ok (.aload_n 0, 1) := by decide +kernel
theorem d_M_comes_248 : decode (mi_code n_M_comes) 248 = .ok (.getfield 44, 3) := by decide +kernel
theorem d_M_comes_251 : decode (mi_code n_M_comes) 251 = .ok (.bipush 6, 2) := by decide +kernel
theorem d_M_comes_253 : decode (mi_code n_M_comes) 253 = .ok (.iload_n 1, 1) := by decide +kernel
theorem d_M_comes_254 : decode (mi_code n_M_comes) 254 = .ok (.imul, 1) := by decide +kernel
theorem d_M_comes_255 : decode (mi_code n_M_comes) 255 = .ok (.iload_n 3, 1) := by decide +kernel
theorem d_M_comes_256 : decode (mi_code n_M_comes) 256 = .ok (.iadd, 1) := by decide +kernel
theorem d_M_comes_257 : decode (mi_code n_M_comes) 257 = .ok (.aload_n 0, 1) := by decide +kernel
theorem d_M_comes_258 : decode (mi_code n_M_comes) 258 = .ok (.getfield 44, 3) := by decide +kernel
theorem d_M_comes_261 : decode (mi_code n_M_comes) 261 = .ok (.bipush 6, 2) := by decide +kernel
theorem d_M_comes_263 : decode (mi_code n_M_comes) 263 = .ok (.iload_n 2, 1) := by decide +kernel
theorem d_M_comes_264 : decode (mi_code n_M_comes) 264 = .ok (.imul, 1) := by decide +kernel
theorem d_M_comes_265 : decode (mi_code n_M_comes) 265 = .ok (.iload_n 3, 1) := by decide +kernel
theorem d_M_comes_266 : decode (mi_code n_M_comes) 266 = .ok (.iadd, 1) := by decide +kernel
theorem d_M_comes_267 : decode (mi_code n_M_comes) 267 = .ok (.iaload, 1) := by decide +kernel
theorem d_M_comes_268 : decode (mi_code n_M_comes) 268 = .ok (.iastore, 1) := by decide +kernel
theorem d_M_comes_269 : decode (mi_code n_M_comes) 269 = .ok (.iinc 3 1, 3) := by decide +kernel
theorem d_M_comes_272 : decode (mi_code n_M_comes) 272 = .ok (.goto (-57), 3) := by decide +kernel
theorem d_M_comes_275 : decode (mi_code n_M_comes) 275 = .ok (.return_, 1) := by decide +kernel
theorem d_M_cut_0 : decode (mi_code n_M_cut) 0 = .ok (.aload_n 0, 1) := by decide +kernel
theorem d_M_cut_1 : decode (mi_code n_M_cut) 1 = .ok (.iconst 0, 1) := by decide +kernel
theorem d_M_cut_2 : decode (mi_code n_M_cut) 2 = .ok (.putfield 119, 3) := by decide +kernel
theorem d_M_cut_5 : decode (mi_code n_M_cut) 5 = .ok (.aload_n 0, 1) := by decide +kernel
theorem d_M_cut_6 : decode (mi_code n_M_cut) 6 = .ok (.invokevirtual 247, 3) := by decide +kernel
theorem d_M_cut_9 : decode (mi_code n_M_cut) 9 = .ok (.istore_n 1, 1) := by decide +kernel
theorem d_M_cut_10 : decode (mi_code n_M_cut) 10 = .ok (.aload_n 0, 1) := by decide +kernel
theorem d_M_cut_11 : decode (mi_code n_M_cut) 11 = .ok (.iconst 0, 1) := by decide +kernel
theorem d_M_cut_12 : decode (mi_code n_M_cut) 12 = .ok (.putfield 244, 3) := by decide +kernel
theorem d_M_cut_15 : decode (mi_code n_M_cut) 15 = .ok (.iload_n 1, 1) := by decide +kernel
theorem d_M_cut_16 : decode (mi_code n_M_cut) 16 = .ok (.ireturn, 1) := by decide +kernel
theorem d_M_draws_0 : decode (mi_code n_M_draws) 0 = .ok (.sipush 192, 3) := by decide +kernel
theorem d_M_draws_3 : decode (mi_code n_M_draws) 3 = .ok (.iload_n 1, 1) := by decide +kernel
theorem d_M_draws_4 : decode (mi_code n_M_draws) 4 = .ok (.imul, 1) := by decide +kernel
theorem d_M_draws_5 : decode (mi_code n_M_draws) 5 = .ok (.istore_n 2, 1) := by decide +kernel
theorem d_M_draws_6 : decode (mi_code n_M_draws) 6 = .ok (.iload_n 2, 1) := by decide +kernel
theorem d_M_draws_7 : decode (mi_code n_M_draws) 7 = .ok (.sipush 192, 3) := by decide +kernel
theorem d_M_draws_10 : decode (mi_code n_M_draws) 10 = .ok (.iload_n 1, 1) := by decide +kernel
theorem d_M_draws_11 : decode (mi_code n_M_draws) 11 = .ok (.imul, 1) := by decide +kernel
theorem d_M_draws_12 : decode (mi_code n_M_draws) 12 = .ok (.sipush 192, 3) := by decide +kernel
theorem d_M_draws_15 : decode (mi_code n_M_draws) 15 = .ok (.iadd, 1) := by decide +kernel
theorem d_M_draws_16 : decode (mi_code n_M_draws) 16 = .ok (.if_icmp .ge 23, 3) := by decide +kernel
theorem d_M_draws_19 : decode (mi_code n_M_draws) 19 = .ok (.aload_n 0, 1) := by decide +kernel
theorem d_M_draws_20 : decode (mi_code n_M_draws) 20 = .ok (.getfield 50, 3) := by decide +kernel
theorem d_M_draws_23 : decode (mi_code n_M_draws) 23 = .ok (.iload_n 2, 1) := by decide +kernel
theorem d_M_draws_24 : decode (mi_code n_M_draws) 24 = .ok (.iconst (-1), 1) := by decide +kernel
theorem d_M_draws_25 : decode (mi_code n_M_draws) 25 = .ok (.iastore, 1) := by decide +kernel
theorem d_M_draws_26 : decode (mi_code n_M_draws) 26 = .ok (.aload_n 0, 1) := by decide +kernel
theorem d_M_draws_27 : decode (mi_code n_M_draws) 27 = .ok (.getfield 53, 3) := by decide +kernel
theorem d_M_draws_30 : decode (mi_code n_M_draws) 30 = .ok (.iload_n 2, 1) := by decide +kernel
theorem d_M_draws_31 : decode (mi_code n_M_draws) 31 = .ok (.iconst 0, 1) := by decide +kernel
theorem d_M_draws_32 : decode (mi_code n_M_draws) 32 = .ok (.iastore, 1) := by decide +kernel
theorem d_M_draws_33 : decode (mi_code n_M_draws) 33 = .ok (.iinc 2 1, 3) := by decide +kernel
theorem d_M_draws_36 : decode (mi_code n_M_draws) 36 = .ok (.goto (-30), 3) := by decide +kernel
theorem d_M_draws_39 : decode (mi_code n_M_draws) 39 = .ok (.bipush 8, 2) := by decide +kernel
theorem d_M_draws_41 : decode (mi_code n_M_draws) 41 = .ok (.iload_n 1, 1) := by decide +kernel
theorem d_M_draws_42 : decode (mi_code n_M_draws) 42 = .ok (.imul, 1) := by decide +kernel
theorem d_M_draws_43 : decode (mi_code n_M_draws) 43 = .ok (.istore_n 2, 1) := by decide +kernel
theorem d_M_draws_44 : decode (mi_code n_M_draws) 44 = .ok (.iload_n 2, 1) := by decide +kernel
theorem d_M_draws_45 : decode (mi_code n_M_draws) 45 = .ok (.bipush 8, 2) := by decide +kernel
theorem d_M_draws_47 : decode (mi_code n_M_draws) 47 = .ok (.iload_n 1, 1) := by decide +kernel
theorem d_M_draws_48 : decode (mi_code n_M_draws) 48 = .ok (.imul, 1) := by decide +kernel
theorem d_M_draws_49 : decode (mi_code n_M_draws) 49 = .ok (.aload_n 0, 1) := by decide +kernel
theorem d_M_draws_50 : decode (mi_code n_M_draws) 50 = .ok (.getfield 26, 3) := by decide +kernel
theorem d_M_draws_53 : decode (mi_code n_M_draws) 53 = .ok (.iload_n 1, 1) := by decide +kernel
theorem d_M_draws_54 : decode (mi_code n_M_draws) 54 = .ok (.iaload, 1) := by decide +kernel
theorem d_M_draws_55 : decode (mi_code n_M_draws) 55 = .ok (.iadd, 1) := by decide +kernel
theorem d_M_draws_56 : decode (mi_code n_M_draws) 56 = .ok (.if_icmp .ge 196, 3) := by decide +kernel
theorem d_M_draws_59 : decode (mi_code n_M_draws) 59 = .ok (.aload_n 0, 1) := by decide +kernel
theorem d_M_draws_60 : decode (mi_code n_M_draws) 60 = .ok (.getfield 35, 3) := by decide +kernel
theorem d_M_draws_63 : decode (mi_code n_M_draws) 63 = .ok (.iconst 4, 1) := by decide +kernel
theorem d_M_draws_64 : decode (mi_code n_M_draws) 64 = .ok (.iload_n 2, 1) := by decide +kernel
theorem d_M_draws_65 : decode (mi_code n_M_draws) 65 = .ok (.imul, 1) := by decide +kernel
theorem d_M_draws_66 : decode (mi_code n_M_draws) 66 = .ok (.iconst 2, 1) := by decide +kernel
theorem d_M_draws_67 : decode (mi_code n_M_draws) 67 = .ok (.iadd, 1) := by decide +kernel
theorem d_M_draws_68 : decode (mi_code n_M_draws) 68 = .ok (.iaload, 1) := by decide +kernel
theorem d_M_draws_69 : decode (mi_code n_M_draws) 69 = .ok (.aload_n 0, 1) := by decide +kernel
theorem d_M_draws_70 : decode (mi_code n_M_draws) 70 = .ok (.getfield 35, 3) := by decide +kernel
theorem d_M_draws_73 : decode (mi_code n_M_draws) 73 = .ok (.iconst 4, 1) := by decide +kernel
theorem d_M_draws_74 : decode (mi_code n_M_draws) 74 = .ok (.iload_n 2, 1) := by decide +kernel
theorem d_M_draws_75 : decode (mi_code n_M_draws) 75 = .ok (.imul, 1) := by decide +kernel
theorem d_M_draws_76 : decode (mi_code n_M_draws) 76 = .ok (.iaload, 1) := by decide +kernel
theorem d_M_draws_77 : decode (mi_code n_M_draws) 77 = .ok (.isub, 1) := by decide +kernel
theorem d_M_draws_78 : decode (mi_code n_M_draws) 78 = .ok (.istore_n 3, 1) := by decide +kernel
theorem d_M_draws_79 : decode (mi_code n_M_draws) 79 = .ok (.aload_n 0, 1) := by decide +kernel
theorem d_M_draws_80 : decode (mi_code n_M_draws) 80 = .ok (.getfield 35, 3) := by decide +kernel
theorem d_M_draws_83 : decode (mi_code n_M_draws) 83 = .ok (.iconst 4, 1) := by decide +kernel
theorem d_M_draws_84 : decode (mi_code n_M_draws) 84 = .ok (.iload_n 2, 1) := by decide +kernel
theorem d_M_draws_85 : decode (mi_code n_M_draws) 85 = .ok (.imul, 1) := by decide +kernel
theorem d_M_draws_86 : decode (mi_code n_M_draws) 86 = .ok (.iconst 3, 1) := by decide +kernel
theorem d_M_draws_87 : decode (mi_code n_M_draws) 87 = .ok (.iadd, 1) := by decide +kernel
theorem d_M_draws_88 : decode (mi_code n_M_draws) 88 = .ok (.iaload, 1) := by decide +kernel
theorem d_M_draws_89 : decode (mi_code n_M_draws) 89 = .ok (.aload_n 0, 1) := by decide +kernel
theorem d_M_draws_90 : decode (mi_code n_M_draws) 90 = .ok (.getfield 35, 3) := by decide +kernel
theorem d_M_draws_93 : decode (mi_code n_M_draws) 93 = .ok (.iconst 4, 1) := by decide +kernel
theorem d_M_draws_94 : decode (mi_code n_M_draws) 94 = .ok (.iload_n 2, 1) := by decide +kernel
theorem d_M_draws_95 : decode (mi_code n_M_draws) 95 = .ok (.imul, 1) := by decide +kernel
theorem d_M_draws_96 : decode (mi_code n_M_draws) 96 = .ok (.iconst 1, 1) := by decide +kernel
theorem d_M_draws_97 : decode (mi_code n_M_draws) 97 = .ok (.iadd, 1) := by decide +kernel
theorem d_M_draws_98 : decode (mi_code n_M_draws) 98 = .ok (.iaload, 1) := by decide +kernel
theorem d_M_draws_99 : decode (mi_code n_M_draws) 99 = .ok (.isub, 1) := by decide +kernel
theorem d_M_draws_100 : decode (mi_code n_M_draws) 100 = .ok (.istore 4, 2) := by decide +kernel
theorem d_M_draws_102 : decode (mi_code n_M_draws) 102 = .ok (.iload_n 3, 1) := by decide +kernel
theorem d_M_draws_103 : decode (mi_code n_M_draws) 103 = .ok (.invokestatic 169, 3) := by decide +kernel
theorem d_M_draws_106 : decode (mi_code n_M_draws) 106 = .ok (.iload 4, 2) := by decide +kernel
theorem d_M_draws_108 : decode (mi_code n_M_draws) 108 = .ok (.invokestatic 169, 3) := by decide +kernel
theorem d_M_draws_111 : decode (mi_code n_M_draws) 111 = .ok (.if_icmp .le 10, 3) := by decide +kernel
theorem d_M_draws_114 : decode (mi_code n_M_draws) 114 = .ok (.iload_n 3, 1) := by decide +kernel
theorem d_M_draws_115 : decode (mi_code n_M_draws) 115 = .ok (.invokestatic 169, 3) := by decide +kernel
theorem d_M_draws_118 : decode (mi_code n_M_draws) 118 = .ok (.goto 8, 3) := by decide +kernel
theorem d_M_draws_121 : decode (mi_code n_M_draws) 121 = .ok (.iload 4, 2) := by decide +kernel
theorem d_M_draws_123 : decode (mi_code n_M_draws) 123 = .ok (.invokestatic 169, 3) := by decide +kernel
theorem d_M_draws_126 : decode (mi_code n_M_draws) 126 = .ok (.istore 5, 2) := by decide +kernel
theorem d_M_draws_128 : decode (mi_code n_M_draws) 128 = .ok (.iconst 0, 1) := by decide +kernel
theorem d_M_draws_129 : decode (mi_code n_M_draws) 129 = .ok (.istore 6, 2) := by decide +kernel
theorem d_M_draws_131 : decode (mi_code n_M_draws) 131 = .ok (.iload 6, 2) := by decide +kernel
theorem d_M_draws_133 : decode (mi_code n_M_draws) 133 = .ok (.iload 5, 2) := by decide +kernel
theorem d_M_draws_135 : decode (mi_code n_M_draws) 135 = .ok (.if_icmp .gt 111, 3) := by decide +kernel
theorem d_M_draws_138 : decode (mi_code n_M_draws) 138 = .ok (.aload_n 0, 1) := by decide +kernel
theorem d_M_draws_139 : decode (mi_code n_M_draws) 139 = .ok (.getfield 35, 3) := by decide +kernel
theorem d_M_draws_142 : decode (mi_code n_M_draws) 142 = .ok (.iconst 4, 1) := by decide +kernel
theorem d_M_draws_143 : decode (mi_code n_M_draws) 143 = .ok (.iload_n 2, 1) := by decide +kernel
theorem d_M_draws_144 : decode (mi_code n_M_draws) 144 = .ok (.imul, 1) := by decide +kernel
theorem d_M_draws_145 : decode (mi_code n_M_draws) 145 = .ok (.iaload, 1) := by decide +kernel
theorem d_M_draws_146 : decode (mi_code n_M_draws) 146 = .ok (.iload 5, 2) := by decide +kernel
theorem d_M_draws_148 : decode (mi_code n_M_draws) 148 = .ok (.ifCond .ne 7, 3) := by decide +kernel
theorem d_M_draws_151 : decode (mi_code n_M_draws) 151 = .ok (.iconst 0, 1) := by decide +kernel
theorem d_M_draws_152 : decode (mi_code n_M_draws) 152 = .ok (.goto 10, 3) := by decide +kernel
theorem d_M_draws_155 : decode (mi_code n_M_draws) 155 = .ok (.iload 6, 2) := by decide +kernel
theorem d_M_draws_157 : decode (mi_code n_M_draws) 157 = .ok (.iload_n 3, 1) := by decide +kernel
theorem d_M_draws_158 : decode (mi_code n_M_draws) 158 = .ok (.imul, 1) := by decide +kernel
theorem d_M_draws_159 : decode (mi_code n_M_draws) 159 = .ok (.iload 5, 2) := by decide +kernel
theorem d_M_draws_161 : decode (mi_code n_M_draws) 161 = .ok (.idiv, 1) := by decide +kernel
theorem d_M_draws_162 : decode (mi_code n_M_draws) 162 = .ok (.iadd, 1) := by decide +kernel
theorem d_M_draws_163 : decode (mi_code n_M_draws) 163 = .ok (.istore 7, 2) := by decide +kernel
theorem d_M_draws_165 : decode (mi_code n_M_draws) 165 = .ok (.aload_n 0, 1) := by decide +kernel
theorem d_M_draws_166 : decode (mi_code n_M_draws) 166 = .ok (.getfield 35, 3) := by decide +kernel
theorem d_M_draws_169 : decode (mi_code n_M_draws) 169 = .ok (.iconst 4, 1) := by decide +kernel
theorem d_M_draws_170 : decode (mi_code n_M_draws) 170 = .ok (.iload_n 2, 1) := by decide +kernel
theorem d_M_draws_171 : decode (mi_code n_M_draws) 171 = .ok (.imul, 1) := by decide +kernel
theorem d_M_draws_172 : decode (mi_code n_M_draws) 172 = .ok (.iconst 1, 1) := by decide +kernel
theorem d_M_draws_173 : decode (mi_code n_M_draws) 173 = .ok (.iadd, 1) := by decide +kernel
theorem d_M_draws_174 : decode (mi_code n_M_draws) 174 = .ok (.iaload, 1) := by decide +kernel
theorem d_M_draws_175 : decode (mi_code n_M_draws) 175 = .ok (.iload 5, 2) := by decide +kernel
theorem d_M_draws_177 : decode (mi_code n_M_draws) 177 = .ok (.ifCond .ne 7, 3) := by decide +kernel
theorem d_M_draws_180 : decode (mi_code n_M_draws) 180 = .ok (.iconst 0, 1) := by decide +kernel
theorem d_M_draws_181 : decode (mi_code n_M_draws) 181 = .ok (.goto 11, 3) := by decide +kernel
theorem d_M_draws_184 : decode (mi_code n_M_draws) 184 = .ok (.iload 6, 2) := by decide +kernel
theorem d_M_draws_186 : decode (mi_code n_M_draws) 186 = .ok (.iload 4, 2) := by decide +kernel
theorem d_M_draws_188 : decode (mi_code n_M_draws) 188 = .ok (.imul, 1) := by decide +kernel
theorem d_M_draws_189 : decode (mi_code n_M_draws) 189 = .ok (.iload 5, 2) := by decide +kernel
theorem d_M_draws_191 : decode (mi_code n_M_draws) 191 = .ok (.idiv, 1) := by decide +kernel
theorem d_M_draws_192 : decode (mi_code n_M_draws) 192 = .ok (.iadd, 1) := by decide +kernel
theorem d_M_draws_193 : decode (mi_code n_M_draws) 193 = .ok (.istore 8, 2) := by decide +kernel
theorem d_M_draws_195 : decode (mi_code n_M_draws) 195 = .ok (.aload_n 0, 1) := by decide +kernel
theorem d_M_draws_196 : decode (mi_code n_M_draws) 196 = .ok (.getfield 50, 3) := by decide +kernel
theorem d_M_draws_199 : decode (mi_code n_M_draws) 199 = .ok (.sipush 192, 3) := by decide +kernel
theorem d_M_draws_202 : decode (mi_code n_M_draws) 202 = .ok (.iload_n 1, 1) := by decide +kernel
theorem d_M_draws_203 : decode (mi_code n_M_draws) 203 = .ok (.imul, 1) := by decide +kernel
theorem d_M_draws_204 : decode (mi_code n_M_draws) 204 = .ok (.bipush 16, 2) := by decide +kernel
theorem d_M_draws_206 : decode (mi_code n_M_draws) 206 = .ok (.iload 8, 2) := by decide +kernel
theorem d_M_draws_208 : decode (mi_code n_M_draws) 208 = .ok (.imul, 1) := by decide +kernel
theorem d_M_draws_209 : decode (mi_code n_M_draws) 209 = .ok (.iadd, 1) := by decide +kernel
theorem d_M_draws_210 : decode (mi_code n_M_draws) 210 = .ok (.iload 7, 2) := by decide +kernel
theorem d_M_draws_212 : decode (mi_code n_M_draws) 212 = .ok (.iadd, 1) := by decide +kernel
theorem d_M_draws_213 : decode (mi_code n_M_draws) 213 = .ok (.aload_n 0, 1) := by decide +kernel
theorem d_M_draws_214 : decode (mi_code n_M_draws) 214 = .ok (.getfield 32, 3) := by decide +kernel
theorem d_M_draws_217 : decode (mi_code n_M_draws) 217 = .ok (.iload_n 2, 1) := by decide +kernel
theorem d_M_draws_218 : decode (mi_code n_M_draws) 218 = .ok (.iaload, 1) := by decide +kernel
theorem d_M_draws_219 : decode (mi_code n_M_draws) 219 = .ok (.iastore, 1) := by decide +kernel
theorem d_M_draws_220 : decode (mi_code n_M_draws) 220 = .ok (.aload_n 0, 1) := by decide +kernel
theorem d_M_draws_221 : decode (mi_code n_M_draws) 221 = .ok (.getfield 53, 3) := by decide +kernel
theorem d_M_draws_224 : decode (mi_code n_M_draws) 224 = .ok (.sipush 192, 3) := by decide +kernel
theorem d_M_draws_227 : decode (mi_code n_M_draws) 227 = .ok (.iload_n 1, 1) := by decide +kernel
theorem d_M_draws_228 : decode (mi_code n_M_draws) 228 = .ok (.imul, 1) := by decide +kernel
theorem d_M_draws_229 : decode (mi_code n_M_draws) 229 = .ok (.bipush 16, 2) := by decide +kernel
theorem d_M_draws_231 : decode (mi_code n_M_draws) 231 = .ok (.iload 8, 2) := by decide +kernel
theorem d_M_draws_233 : decode (mi_code n_M_draws) 233 = .ok (.imul, 1) := by decide +kernel
theorem d_M_draws_234 : decode (mi_code n_M_draws) 234 = .ok (.iadd, 1) := by decide +kernel
theorem d_M_draws_235 : decode (mi_code n_M_draws) 235 = .ok (.iload 7, 2) := by decide +kernel
theorem d_M_draws_237 : decode (mi_code n_M_draws) 237 = .ok (.iadd, 1) := by decide +kernel
theorem d_M_draws_238 : decode (mi_code n_M_draws) 238 = .ok (.iconst 1, 1) := by decide +kernel
theorem d_M_draws_239 : decode (mi_code n_M_draws) 239 = .ok (.iastore, 1) := by decide +kernel
theorem d_M_draws_240 : decode (mi_code n_M_draws) 240 = .ok (.iinc 6 1, 3) := by decide +kernel
theorem d_M_draws_243 : decode (mi_code n_M_draws) 243 = .ok (.goto (-112), 3) := by decide +kernel
theorem d_M_draws_246 : decode (mi_code n_M_draws) 246 = .ok (.iinc 2 1, 3) := by decide +kernel
theorem d_M_draws_249 : decode (mi_code n_M_draws) 249 = .ok (.goto (-205), 3) := by decide +kernel
theorem d_M_draws_252 : decode (mi_code n_M_draws) 252 = .ok (.iconst 0, 1) := by decide +kernel
theorem d_M_draws_253 : decode (mi_code n_M_draws) 253 = .ok (.istore_n 2, 1) := by decide +kernel
theorem d_M_draws_254 : decode (mi_code n_M_draws) 254 = .ok (.iload_n 2, 1) := by decide +kernel
theorem d_M_draws_255 : decode (mi_code n_M_draws) 255 = .ok (.sipush 192, 3) := by decide +kernel
theorem d_M_draws_258 : decode (mi_code n_M_draws) 258 = .ok (.if_icmp .ge 136, 3) := by decide +kernel
theorem d_M_draws_261 : decode (mi_code n_M_draws) 261 = .ok (.aload_n 0, 1) := by decide +kernel
theorem d_M_draws_262 : decode (mi_code n_M_draws) 262 = .ok (.getfield 47, 3) := by decide +kernel
theorem d_M_draws_265 : decode (mi_code n_M_draws) 265 = .ok (.iload_n 1, 1) := by decide +kernel
theorem d_M_draws_266 : decode (mi_code n_M_draws) 266 = .ok (.baload, 1) := by decide +kernel
theorem d_M_draws_267 : decode (mi_code n_M_draws) 267 = .ok (.ifCond .eq 127, 3) := by decide +kernel
theorem d_M_draws_270 : decode (mi_code n_M_draws) 270 = .ok (.iload_n 2, 1) := by decide +kernel
theorem d_M_draws_271 : decode (mi_code n_M_draws) 271 = .ok (.bipush 16, 2) := by decide +kernel
theorem d_M_draws_273 : decode (mi_code n_M_draws) 273 = .ok (.irem, 1) := by decide +kernel
theorem d_M_draws_274 : decode (mi_code n_M_draws) 274 = .ok (.istore_n 3, 1) := by decide +kernel
theorem d_M_draws_275 : decode (mi_code n_M_draws) 275 = .ok (.iload_n 2, 1) := by decide +kernel
theorem d_M_draws_276 : decode (mi_code n_M_draws) 276 = .ok (.bipush 16, 2) := by decide +kernel
theorem d_M_draws_278 : decode (mi_code n_M_draws) 278 = .ok (.idiv, 1) := by decide +kernel
theorem d_M_draws_279 : decode (mi_code n_M_draws) 279 = .ok (.istore 4, 2) := by decide +kernel
theorem d_M_draws_281 : decode (mi_code n_M_draws) 281 = .ok (.aload_n 0, 1) := by decide +kernel
theorem d_M_draws_282 : decode (mi_code n_M_draws) 282 = .ok (.iload_n 1, 1) := by decide +kernel
theorem d_M_draws_283 : decode (mi_code n_M_draws) 283 = .ok (.iload_n 3, 1) := by decide +kernel
theorem d_M_draws_284 : decode (mi_code n_M_draws) 284 = .ok (.iconst 1, 1) := by decide +kernel
theorem d_M_draws_285 : decode (mi_code n_M_draws) 285 = .ok (.isub, 1) := by decide +kernel
theorem d_M_draws_286 : decode (mi_code n_M_draws) 286 = .ok (.iload 4, 2) := by decide +kernel
theorem d_M_draws_288 : decode (mi_code n_M_draws) 288 = .ok (.invokevirtual 173, 3) := by decide +kernel
theorem d_M_draws_291 : decode (mi_code n_M_draws) 291 = .ok (.ifCond .eq 16, 3) := by decide +kernel
theorem d_M_draws_294 : decode (mi_code n_M_draws) 294 = .ok (.aload_n 0, 1) := by decide +kernel
theorem d_M_draws_295 : decode (mi_code n_M_draws) 295 = .ok (.iload_n 1, 1) := by decide +kernel
theorem d_M_draws_296 : decode (mi_code n_M_draws) 296 = .ok (.iload_n 3, 1) := by decide +kernel
theorem d_M_draws_297 : decode (mi_code n_M_draws) 297 = .ok (.iconst 1, 1) := by decide +kernel
theorem d_M_draws_298 : decode (mi_code n_M_draws) 298 = .ok (.iadd, 1) := by decide +kernel
theorem d_M_draws_299 : decode (mi_code n_M_draws) 299 = .ok (.iload 4, 2) := by decide +kernel
theorem d_M_draws_301 : decode (mi_code n_M_draws) 301 = .ok (.invokevirtual 173, 3) := by decide +kernel
theorem d_M_draws_304 : decode (mi_code n_M_draws) 304 = .ok (.ifCond .ne 29, 3) := by decide +kernel
theorem d_M_draws_307 : decode (mi_code n_M_draws) 307 = .ok (.aload_n 0, 1) := by decide +kernel
theorem d_M_draws_308 : decode (mi_code n_M_draws) 308 = .ok (.iload_n 1, 1) := by decide +kernel
theorem d_M_draws_309 : decode (mi_code n_M_draws) 309 = .ok (.iload_n 3, 1) := by decide +kernel
theorem d_M_draws_310 : decode (mi_code n_M_draws) 310 = .ok (.iload 4, 2) := by decide +kernel
theorem d_M_draws_312 : decode (mi_code n_M_draws) 312 = .ok (.iconst 1, 1) := by decide +kernel
theorem d_M_draws_313 : decode (mi_code n_M_draws) 313 = .ok (.isub, 1) := by decide +kernel
theorem d_M_draws_314 : decode (mi_code n_M_draws) 314 = .ok (.invokevirtual 173, 3) := by decide +kernel
theorem d_M_draws_317 : decode (mi_code n_M_draws) 317 = .ok (.ifCond .eq 20, 3) := by decide +kernel
theorem d_M_draws_320 : decode (mi_code n_M_draws) 320 = .ok (.aload_n 0, 1) := by decide +kernel
theorem d_M_draws_321 : decode (mi_code n_M_draws) 321 = .ok (.iload_n 1, 1) := by decide +kernel
theorem d_M_draws_322 : decode (mi_code n_M_draws) 322 = .ok (.iload_n 3, 1) := by decide +kernel
theorem d_M_draws_323 : decode (mi_code n_M_draws) 323 = .ok (.iload 4, 2) := by decide +kernel
theorem d_M_draws_325 : decode (mi_code n_M_draws) 325 = .ok (.iconst 1, 1) := by decide +kernel
theorem d_M_draws_326 : decode (mi_code n_M_draws) 326 = .ok (.iadd, 1) := by decide +kernel
theorem d_M_draws_327 : decode (mi_code n_M_draws) 327 = .ok (.invokevirtual 173, 3) := by decide +kernel
theorem d_M_draws_330 : decode (mi_code n_M_draws) 330 = .ok (.ifCond .eq 7, 3) := by decide +kernel
theorem d_M_draws_333 : decode (mi_code n_M_draws) 333 = .ok (.iconst 1, 1) := by decide +kernel
theorem d_M_draws_334 : decode (mi_code n_M_draws) 334 = .ok (.goto 4, 3) := by decide +kernel
theorem d_M_draws_337 : decode (mi_code n_M_draws) 337 = .ok (.iconst 0, 1) := by decide +kernel
theorem d_M_draws_338 : decode (mi_code n_M_draws) 338 = .ok (.istore 5, 2) := by decide +kernel
theorem d_M_draws_340 : decode (mi_code n_M_draws) 340 = .ok (.aload_n 0, 1) := by decide +kernel
theorem d_M_draws_341 : decode (mi_code n_M_draws) 341 = .ok (.getfield 53, 3) := by decide +kernel
theorem d_M_draws_344 : decode (mi_code n_M_draws) 344 = .ok (.sipush 192, 3) := by decide +kernel
theorem d_M_draws_347 : decode (mi_code n_M_draws) 347 = .ok (.iload_n 1, 1) := by decide +kernel
theorem d_M_draws_348 : decode (mi_code n_M_draws) 348 = .ok (.imul, 1) := by decide +kernel
theorem d_M_draws_349 : decode (mi_code n_M_draws) 349 = .ok (.iload_n 2, 1) := by decide +kernel
theorem d_M_draws_350 : decode (mi_code n_M_draws) 350 = .ok (.iadd, 1) := by decide +kernel
theorem d_M_draws_351 : decode (mi_code n_M_draws) 351 = .ok (.iload 5, 2) := by decide +kernel
theorem d_M_draws_353 : decode (mi_code n_M_draws) 353 = .ok (.ifCond .eq 22, 3) := by decide +kernel
theorem d_M_draws_356 : decode (mi_code n_M_draws) 356 = .ok (.aload_n 0, 1) := by decide +kernel
theorem d_M_draws_357 : decode (mi_code n_M_draws) 357 = .ok (.getfield 53, 3) := by decide +kernel
theorem d_M_draws_360 : decode (mi_code n_M_draws) 360 = .ok (.sipush 192, 3) := by decide +kernel
theorem d_M_draws_363 : decode (mi_code n_M_draws) 363 = .ok (.iload_n 1, 1) := by decide +kernel
theorem d_M_draws_364 : decode (mi_code n_M_draws) 364 = .ok (.imul, 1) := by decide +kernel
theorem d_M_draws_365 : decode (mi_code n_M_draws) 365 = .ok (.iload_n 2, 1) := by decide +kernel
theorem d_M_draws_366 : decode (mi_code n_M_draws) 366 = .ok (.iadd, 1) := by decide +kernel
theorem d_M_draws_367 : decode (mi_code n_M_draws) 367 = .ok (.iaload, 1) := by decide +kernel
theorem d_M_draws_368 : decode (mi_code n_M_draws) 368 = .ok (.ifCond .ne 7, 3) := by decide +kernel
theorem d_M_draws_371 : decode (mi_code n_M_draws) 371 = .ok (.iconst 2, 1) := by decide +kernel
theorem d_M_draws_372 : decode (mi_code n_M_draws) 372 = .ok (.goto 15, 3) := by decide +kernel
theorem d_M_draws_375 : decode (mi_code n_M_draws) 375 = .ok (.aload_n 0, 1) := by decide +kernel
theorem d_M_draws_376 : decode (mi_code n_M_draws) 376 = .ok (.getfield 53, 3) := by decide +kernel
theorem d_M_draws_379 : decode (mi_code n_M_draws) 379 = .ok (.sipush 192, 3) := by decide +kernel
theorem d_M_draws_382 : decode (mi_code n_M_draws) 382 = .ok (.iload_n 1, 1) := by decide +kernel
theorem d_M_draws_383 : decode (mi_code n_M_draws) 383 = .ok (.imul, 1) := by decide +kernel
theorem d_M_draws_384 : decode (mi_code n_M_draws) 384 = .ok (.iload_n 2, 1) := by decide +kernel
theorem d_M_draws_385 : decode (mi_code n_M_draws) 385 = .ok (.iadd, 1) := by decide +kernel
theorem d_M_draws_386 : decode (mi_code n_M_draws) 386 = .ok (.iaload, 1) := by decide +kernel
theorem d_M_draws_387 : decode (mi_code n_M_draws) 387 = .ok (.iastore, 1) := by decide +kernel
theorem d_M_draws_388 : decode (mi_code n_M_draws) 388 = .ok (.iinc 2 1, 3) := by decide +kernel
theorem d_M_draws_391 : decode (mi_code n_M_draws) 391 = .ok (.goto (-137), 3) := by decide +kernel
theorem d_M_draws_394 : decode (mi_code n_M_draws) 394 = .ok (.bipush 6, 2) := by decide +kernel
theorem d_M_draws_396 : decode (mi_code n_M_draws) 396 = .ok (.iload_n 1, 1) := by decide +kernel
theorem d_M_draws_397 : decode (mi_code n_M_draws) 397 = .ok (.imul, 1) := by decide +kernel
theorem d_M_draws_398 : decode (mi_code n_M_draws) 398 = .ok (.istore_n 2, 1) := by decide +kernel
theorem d_M_draws_399 : decode (mi_code n_M_draws) 399 = .ok (.iload_n 2, 1) := by decide +kernel
theorem d_M_draws_400 : decode (mi_code n_M_draws) 400 = .ok (.bipush 6, 2) := by decide +kernel
theorem d_M_draws_402 : decode (mi_code n_M_draws) 402 = .ok (.iload_n 1, 1) := by decide +kernel
theorem d_M_draws_403 : decode (mi_code n_M_draws) 403 = .ok (.imul, 1) := by decide +kernel
theorem d_M_draws_404 : decode (mi_code n_M_draws) 404 = .ok (.aload_n 0, 1) := by decide +kernel
theorem d_M_draws_405 : decode (mi_code n_M_draws) 405 = .ok (.getfield 38, 3) := by decide +kernel
theorem d_M_draws_408 : decode (mi_code n_M_draws) 408 = .ok (.iload_n 1, 1) := by decide +kernel
theorem d_M_draws_409 : decode (mi_code n_M_draws) 409 = .ok (.iaload, 1) := by decide +kernel
theorem d_M_draws_410 : decode (mi_code n_M_draws) 410 = .ok (.iadd, 1) := by decide +kernel
theorem d_M_draws_411 : decode (mi_code n_M_draws) 411 = .ok (.if_icmp .ge 26, 3) := by decide +kernel
theorem d_M_draws_414 : decode (mi_code n_M_draws) 414 = .ok (.aload_n 0, 1) := by decide +kernel
theorem d_M_draws_415 : decode (mi_code n_M_draws) 415 = .ok (.iload_n 1, 1) := by decide +kernel
theorem d_M_draws_416 : decode (mi_code n_M_draws) 416 = .ok (.aload_n 0, 1) := by decide +kernel
theorem d_M_draws_417 : decode (mi_code n_M_draws) 417 = .ok (.getfield 41, 3) := by decide +kernel
theorem d_M_draws_420 : decode (mi_code n_M_draws) 420 = .ok (.iload_n 2, 1) := by decide +kernel
theorem d_M_draws_421 : decode (mi_code n_M_draws) 421 = .ok (.iaload, 1) := by decide +kernel
theorem d_M_draws_422 : decode (mi_code n_M_draws) 422 = .ok (.aload_n 0, 1) := by decide +kernel
theorem d_M_draws_423 : decode (mi_code n_M_draws) 423 = .ok (.getfield 44, 3) := by decide +kernel
theorem d_M_draws_426 : decode (mi_code n_M_draws) 426 = .ok (.iload_n 2, 1) := by decide +kernel
theorem d_M_draws_427 : decode (mi_code n_M_draws) 427 = .ok (.iaload, 1) := by decide +kernel
theorem d_M_draws_428 : decode (mi_code n_M_draws) 428 = .ok (.invokevirtual 176, 3) := by decide +kernel
theorem d_M_draws_431 : decode (mi_code n_M_draws) 431 = .ok (.iinc 2 1, 3) := by decide +kernel
theorem d_M_draws_434 : decode (mi_code n_M_draws) 434 = .ok (.goto (-35), 3) := by decide +kernel
theorem d_M_draws_437 : decode (mi_code n_M_draws) 437 = .ok (.return_, 1) := by decide +kernel
theorem d_M_erase_0 : decode (mi_code n_M_erase) 0 = .ok (.aload_n 0, 1) := by decide +kernel
theorem d_M_erase_1 : decode (mi_code n_M_erase) 1 = .ok (.aload_n 0, 1) := by decide +kernel
theorem d_M_erase_2 : decode (mi_code n_M_erase) 2 = .ok (.iload_n 1, 1) := by decide +kernel
theorem d_M_erase_3 : decode (mi_code n_M_erase) 3 = .ok (.invokevirtual 130, 3) := by decide +kernel
theorem d_M_erase_6 : decode (mi_code n_M_erase) 6 = .ok (.iload_n 2, 1) := by decide +kernel
theorem d_M_erase_7 : decode (mi_code n_M_erase) 7 = .ok (.iconst 0, 1) := by decide +kernel
theorem d_M_erase_8 : decode (mi_code n_M_erase) 8 = .ok (.bipush 7, 2) := by decide +kernel
theorem d_M_erase_10 : decode (mi_code n_M_erase) 10 = .ok (.invokestatic 126, 3) := by decide +kernel
theorem d_M_erase_13 : decode (mi_code n_M_erase) 13 = .ok (.aload_n 0, 1) := by decide +kernel
theorem d_M_erase_14 : decode (mi_code n_M_erase) 14 = .ok (.iload_n 1, 1) := by decide +kernel
theorem d_M_erase_15 : decode (mi_code n_M_erase) 15 = .ok (.invokevirtual 153, 3) := by decide +kernel
theorem d_M_erase_18 : decode (mi_code n_M_erase) 18 = .ok (.invokevirtual 146, 3) := by decide +kernel
theorem d_M_erase_21 : decode (mi_code n_M_erase) 21 = .ok (.ifCond .ne 5, 3) := by decide +kernel
theorem d_M_erase_24 : decode (mi_code n_M_erase) 24 = .ok (.iconst 0, 1) := by decide +kernel
theorem d_M_erase_25 : decode (mi_code n_M_erase) 25 = .ok (.ireturn, 1) := by decide +kernel
theorem d_M_erase_26 : decode (mi_code n_M_erase) 26 = .ok (.aload_n 0, 1) := by decide +kernel
theorem d_M_erase_27 : decode (mi_code n_M_erase) 27 = .ok (.iload_n 1, 1) := by decide +kernel
theorem d_M_erase_28 : decode (mi_code n_M_erase) 28 = .ok (.iload_n 2, 1) := by decide +kernel
theorem d_M_erase_29 : decode (mi_code n_M_erase) 29 = .ok (.invokevirtual 156, 3) := by decide +kernel
theorem d_M_erase_32 : decode (mi_code n_M_erase) 32 = .ok (.istore_n 3, 1) := by decide +kernel
theorem d_M_erase_33 : decode (mi_code n_M_erase) 33 = .ok (.iload_n 3, 1) := by decide +kernel
theorem d_M_erase_34 : decode (mi_code n_M_erase) 34 = .ok (.iconst (-1), 1) := by decide +kernel
theorem d_M_erase_35 : decode (mi_code n_M_erase) 35 = .ok (.if_icmp .ne 5, 3) := by decide +kernel
theorem d_M_erase_38 : decode (mi_code n_M_erase) 38 = .ok (.iconst 0, 1) := by decide +kernel
theorem d_M_erase_39 : decode (mi_code n_M_erase) 39 = .ok (.ireturn, 1) := by decide +kernel
theorem d_M_erase_40 : decode (mi_code n_M_erase) 40 = .ok (.aload_n 0, 1) := by decide +kernel
theorem d_M_erase_41 : decode (mi_code n_M_erase) 41 = .ok (.getfield 26, 3) := by decide +kernel
theorem d_M_erase_44 : decode (mi_code n_M_erase) 44 = .ok (.iload_n 1, 1) := by decide +kernel
theorem d_M_erase_45 : decode (mi_code n_M_erase) 45 = .ok (.dup2, 1) := by decide +kernel
theorem d_M_erase_46 : decode (mi_code n_M_erase) 46 = .ok (.iaload, 1) := by decide +kernel
theorem d_M_erase_47 : decode (mi_code n_M_erase) 47 = .ok (.iconst 1, 1) := by decide +kernel
theorem d_M_erase_48 : decode (mi_code n_M_erase) 48 = .ok (.isub, 1) := by decide +kernel
theorem d_M_erase_49 : decode (mi_code n_M_erase) 49 = .ok (.iastore, 1) := by decide +kernel
theorem d_M_erase_50 : decode (mi_code n_M_erase) 50 = .ok (.iload_n 3, 1) := by decide +kernel
theorem d_M_erase_51 : decode (mi_code n_M_erase) 51 = .ok (.istore 4, 2) := by decide +kernel
theorem d_M_erase_53 : decode (mi_code n_M_erase) 53 = .ok (.iload 4, 2) := by decide +kernel
theorem d_M_erase_55 : decode (mi_code n_M_erase) 55 = .ok (.bipush 8, 2) := by decide +kernel
theorem d_M_erase_57 : decode (mi_code n_M_erase) 57 = .ok (.iload_n 1, 1) := by decide +kernel
theorem d_M_erase_58 : decode (mi_code n_M_erase) 58 = .ok (.imul, 1) := by decide +kernel
theorem d_M_erase_59 : decode (mi_code n_M_erase) 59 = .ok (.aload_n 0, 1) := by decide +kernel
theorem d_M_erase_60 : decode (mi_code n_M_erase) 60 = .ok (.getfield 26, 3) := by decide +kernel
theorem d_M_erase_63 : decode (mi_code n_M_erase) 63 = .ok (.iload_n 1, 1) := by decide +kernel
theorem d_M_erase_64 : decode (mi_code n_M_erase) 64 = .ok (.iaload, 1) := by decide +kernel
theorem d_M_erase_65 : decode (mi_code n_M_erase) 65 = .ok (.iadd, 1) := by decide +kernel
theorem d_M_erase_66 : decode (mi_code n_M_erase) 66 = .ok (.if_icmp .ge 82, 3) := by decide +kernel
theorem d_M_erase_69 : decode (mi_code n_M_erase) 69 = .ok (.aload_n 0, 1) := by decide +kernel
theorem d_M_erase_70 : decode (mi_code n_M_erase) 70 = .ok (.getfield 29, 3) := by decide +kernel
theorem d_M_erase_73 : decode (mi_code n_M_erase) 73 = .ok (.iload 4, 2) := by decide +kernel
theorem d_M_erase_75 : decode (mi_code n_M_erase) 75 = .ok (.aload_n 0, 1) := by decide +kernel
theorem d_M_erase_76 : decode (mi_code n_M_erase) 76 = .ok (.getfield 29, 3) := by decide +kernel
theorem d_M_erase_79 : decode (mi_code n_M_erase) 79 = .ok (.iload 4, 2) := by decide +kernel
theorem d_M_erase_81 : decode (mi_code n_M_erase) 81 = .ok (.iconst 1, 1) := by decide +kernel
theorem d_M_erase_82 : decode (mi_code n_M_erase) 82 = .ok (.iadd, 1) := by decide +kernel
theorem d_M_erase_83 : decode (mi_code n_M_erase) 83 = .ok (.iaload, 1) := by decide +kernel
theorem d_M_erase_84 : decode (mi_code n_M_erase) 84 = .ok (.iastore, 1) := by decide +kernel
theorem d_M_erase_85 : decode (mi_code n_M_erase) 85 = .ok (.aload_n 0, 1) := by decide +kernel
theorem d_M_erase_86 : decode (mi_code n_M_erase) 86 = .ok (.getfield 32, 3) := by decide +kernel
theorem d_M_erase_89 : decode (mi_code n_M_erase) 89 = .ok (.iload 4, 2) := by decide +kernel
theorem d_M_erase_91 : decode (mi_code n_M_erase) 91 = .ok (.aload_n 0, 1) := by decide +kernel
theorem d_M_erase_92 : decode (mi_code n_M_erase) 92 = .ok (.getfield 32, 3) := by decide +kernel
theorem d_M_erase_95 : decode (mi_code n_M_erase) 95 = .ok (.iload 4, 2) := by decide +kernel
theorem d_M_erase_97 : decode (mi_code n_M_erase) 97 = .ok (.iconst 1, 1) := by decide +kernel
theorem d_M_erase_98 : decode (mi_code n_M_erase) 98 = .ok (.iadd, 1) := by decide +kernel
theorem d_M_erase_99 : decode (mi_code n_M_erase) 99 = .ok (.iaload, 1) := by decide +kernel
theorem d_M_erase_100 : decode (mi_code n_M_erase) 100 = .ok (.iastore, 1) := by decide +kernel
theorem d_M_erase_101 : decode (mi_code n_M_erase) 101 = .ok (.iconst 0, 1) := by decide +kernel
theorem d_M_erase_102 : decode (mi_code n_M_erase) 102 = .ok (.istore 5, 2) := by decide +kernel
theorem d_M_erase_104 : decode (mi_code n_M_erase) 104 = .ok (.iload 5, 2) := by decide +kernel
theorem d_M_erase_106 : decode (mi_code n_M_erase) 106 = .ok (.iconst 4, 1) := by decide +kernel
theorem d_M_erase_107 : decode (mi_code n_M_erase) 107 = .ok (.if_icmp .ge 35, 3) := by decide +kernel
theorem d_M_erase_110 : decode (mi_code n_M_erase) 110 = .ok (.aload_n 0, 1) := by decide +kernel
theorem d_M_erase_111 : decode (mi_code n_M_erase) 111 = .ok (.getfield 35, 3) := by decide +kernel
theorem d_M_erase_114 : decode (mi_code n_M_erase) 114 = .ok (.iconst 4, 1) := by decide +kernel
theorem d_M_erase_115 : decode (mi_code n_M_erase) 115 = .ok (.iload 4, 2) := by decide +kernel
theorem d_M_erase_117 : decode (mi_code n_M_erase) 117 = .ok (.imul, 1) := by decide +kernel
theorem d_M_erase_118 : decode (mi_code n_M_erase) 118 = .ok (.iload 5, 2) := by decide +kernel
theorem d_M_erase_120 : decode (mi_code n_M_erase) 120 = .ok (.iadd, 1) := by decide +kernel
theorem d_M_erase_121 : decode (mi_code n_M_erase) 121 = .ok (.aload_n 0, 1) := by decide +kernel
theorem d_M_erase_122 : decode (mi_code n_M_erase) 122 = .ok (.getfield 35, 3) := by decide +kernel
theorem d_M_erase_125 : decode (mi_code n_M_erase) 125 = .ok (.iconst 4, 1) := by decide +kernel
theorem d_M_erase_126 : decode (mi_code n_M_erase) 126 = .ok (.iload 4, 2) := by decide +kernel
theorem d_M_erase_128 : decode (mi_code n_M_erase) 128 = .ok (.imul, 1) := by decide +kernel
theorem d_M_erase_129 : decode (mi_code n_M_erase) 129 = .ok (.iconst 4, 1) := by decide +kernel
theorem d_M_erase_130 : decode (mi_code n_M_erase) 130 = .ok (.iadd, 1) := by decide +kernel
theorem d_M_erase_131 : decode (mi_code n_M_erase) 131 = .ok (.iload 5, 2) := by decide +kernel
theorem d_M_erase_133 : decode (mi_code n_M_erase) 133 = .ok (.iadd, 1) := by decide +kernel
theorem d_M_erase_134 : decode (mi_code n_M_erase) 134 = .ok (.iaload, 1) := by decide +kernel
theorem d_M_erase_135 : decode (mi_code n_M_erase) 135 = .ok (.iastore, 1) := by decide +kernel
theorem d_M_erase_136 : decode (mi_code n_M_erase) 136 = .ok (.iinc 5 1, 3) := by decide +kernel
theorem d_M_erase_139 : decode (mi_code n_M_erase) 139 = .ok (.goto (-35), 3) := by decide +kernel
theorem d_M_erase_142 : decode (mi_code n_M_erase) 142 = .ok (.iinc 4 1, 3) := by decide +kernel
theorem d_M_erase_145 : decode (mi_code n_M_erase) 145 = .ok (.goto (-92), 3) := by decide +kernel
theorem d_M_erase_148 : decode (mi_code n_M_erase) 148 = .ok (.aload_n 0, 1) := by decide +kernel
theorem d_M_erase_149 : decode (mi_code n_M_erase) 149 = .ok (.iconst 1, 1) := by decide +kernel
theorem d_M_erase_150 : decode (mi_code n_M_erase) 150 = .ok (.putfield 134, 3) := by decide +kernel
theorem d_M_erase_153 : decode (mi_code n_M_erase) 153 = .ok (.iconst 1, 1) := by decide +kernel
theorem d_M_erase_154 : decode (mi_code n_M_erase) 154 = .ok (.ireturn, 1) := by decide +kernel
theorem d_M_expose_0 : decode (mi_code n_M_expose) 0 = .ok (.aload_n 0, 1) := by decide +kernel
theorem d_M_expose_1 : decode (mi_code n_M_expose) 1 = .ok (.iload_n 1, 1) := by decide +kernel
theorem d_M_expose_2 : decode (mi_code n_M_expose) 2 = .ok (.iload_n 2, 1) := by decide +kernel
theorem d_M_expose_3 : decode (mi_code n_M_expose) 3 = .ok (.invokevirtual 199, 3) := by decide +kernel
theorem d_M_expose_6 : decode (mi_code n_M_expose) 6 = .ok (.ifCond .eq 36, 3) := by decide +kernel
theorem d_M_expose_9 : decode (mi_code n_M_expose) 9 = .ok (.aload_n 0, 1) := by decide +kernel
theorem d_M_expose_10 : decode (mi_code n_M_expose) 10 = .ok (.iload_n 1, 1) := by decide +kernel
theorem d_M_expose_11 : decode (mi_code n_M_expose) 11 = .ok (.iload_n 3, 1) := by decide +kernel
theorem d_M_expose_12 : decode (mi_code n_M_expose) 12 = .ok (.invokevirtual 202, 3) := by decide +kernel
theorem d_M_expose_15 : decode (mi_code n_M_expose) 15 = .ok (.ifCond .eq 27, 3) := by decide +kernel
theorem d_M_expose_18 : decode (mi_code n_M_expose) 18 = .ok (.iload 4, 2) := by decide +kernel
theorem d_M_expose_20 : decode (mi_code n_M_expose) 20 = .ok (.iconst 0, 1) := by decide +kernel
theorem d_M_expose_21 : decode (mi_code n_M_expose) 21 = .ok (.bipush 15, 2) := by decide +kernel
theorem d_M_expose_23 : decode (mi_code n_M_expose) 23 = .ok (.invokestatic 126, 3) := by decide +kernel
theorem d_M_expose_26 : decode (mi_code n_M_expose) 26 = .ok (.ifCond .eq 12, 3) := by decide +kernel
theorem d_M_expose_29 : decode (mi_code n_M_expose) 29 = .ok (.aload_n 0, 1) := by decide +kernel
theorem d_M_expose_30 : decode (mi_code n_M_expose) 30 = .ok (.iload 4, 2) := by decide +kernel
theorem d_M_expose_32 : decode (mi_code n_M_expose) 32 = .ok (.invokevirtual 130, 3) := by decide +kernel
theorem d_M_expose_35 : decode (mi_code n_M_expose) 35 = .ok (.ifCond .eq 7, 3) := by decide +kernel
theorem d_M_expose_38 : decode (mi_code n_M_expose) 38 = .ok (.iconst 1, 1) := by decide +kernel
theorem d_M_expose_39 : decode (mi_code n_M_expose) 39 = .ok (.goto 4, 3) := by decide +kernel
theorem d_M_expose_42 : decode (mi_code n_M_expose) 42 = .ok (.iconst 0, 1) := by decide +kernel
theorem d_M_expose_43 : decode (mi_code n_M_expose) 43 = .ok (.istore 5, 2) := by decide +kernel
theorem d_M_expose_45 : decode (mi_code n_M_expose) 45 = .ok (.aload_n 0, 1) := by decide +kernel
theorem d_M_expose_46 : decode (mi_code n_M_expose) 46 = .ok (.iload 5, 2) := by decide +kernel
theorem d_M_expose_48 : decode (mi_code n_M_expose) 48 = .ok (.iload 4, 2) := by decide +kernel
theorem d_M_expose_50 : decode (mi_code n_M_expose) 50 = .ok (.bipush (-2), 2) := by decide +kernel
theorem d_M_expose_52 : decode (mi_code n_M_expose) 52 = .ok (.bipush 15, 2) := by decide +kernel
theorem d_M_expose_54 : decode (mi_code n_M_expose) 54 = .ok (.invokestatic 126, 3) := by decide +kernel
theorem d_M_expose_57 : decode (mi_code n_M_expose) 57 = .ok (.ifCond .ne 15, 3) := by decide +kernel
theorem d_M_expose_60 : decode (mi_code n_M_expose) 60 = .ok (.iload 4, 2) := by decide +kernel
theorem d_M_expose_62 : decode (mi_code n_M_expose) 62 = .ok (.bipush 100, 2) := by decide +kernel
theorem d_M_expose_64 : decode (mi_code n_M_expose) 64 = .ok (.bipush 123, 2) := by decide +kernel
theorem d_M_expose_66 : decode (mi_code n_M_expose) 66 = .ok (.invokestatic 126, 3) := by decide +kernel
theorem d_M_expose_69 : decode (mi_code n_M_expose) 69 = .ok (.ifCond .eq 7, 3) := by decide +kernel
theorem d_M_expose_72 : decode (mi_code n_M_expose) 72 = .ok (.iconst 1, 1) := by decide +kernel
theorem d_M_expose_73 : decode (mi_code n_M_expose) 73 = .ok (.goto 4, 3) := by decide +kernel
theorem d_M_expose_76 : decode (mi_code n_M_expose) 76 = .ok (.iconst 0, 1) := by decide +kernel
theorem d_M_expose_77 : decode (mi_code n_M_expose) 77 = .ok (.invokevirtual 166, 3) := by decide +kernel
theorem d_M_expose_80 : decode (mi_code n_M_expose) 80 = .ok (.ifCond .ne 5, 3) := by decide +kernel
theorem d_M_expose_83 : decode (mi_code n_M_expose) 83 = .ok (.iconst 0, 1) := by decide +kernel
theorem d_M_expose_84 : decode (mi_code n_M_expose) 84 = .ok (.ireturn, 1) := by decide +kernel
theorem d_M_expose_85 : decode (mi_code n_M_expose) 85 = .ok (.bipush 24, 2) := by decide +kernel
theorem d_M_expose_87 : decode (mi_code n_M_expose) 87 = .ok (.iconst 4, 1) := by decide +kernel
theorem d_M_expose_88 : decode (mi_code n_M_expose) 88 = .ok (.iload_n 1, 1) := by decide +kernel
theorem d_M_expose_89 : decode (mi_code n_M_expose) 89 = .ok (.imul, 1) := by decide +kernel
theorem d_M_expose_90 : decode (mi_code n_M_expose) 90 = .ok (.iload_n 2, 1) := by decide +kernel
theorem d_M_expose_91 : decode (mi_code n_M_expose) 91 = .ok (.iadd, 1) := by decide +kernel
theorem d_M_expose_92 : decode (mi_code n_M_expose) 92 = .ok (.imul, 1) := by decide +kernel
theorem d_M_expose_93 : decode (mi_code n_M_expose) 93 = .ok (.iload_n 3, 1) := by decide +kernel
theorem d_M_expose_94 : decode (mi_code n_M_expose) 94 = .ok (.iadd, 1) := by decide +kernel
theorem d_M_expose_95 : decode (mi_code n_M_expose) 95 = .ok (.istore 6, 2) := by decide +kernel
theorem d_M_expose_97 : decode (mi_code n_M_expose) 97 = .ok (.aload_n 0, 1) := by decide +kernel
theorem d_M_expose_98 : decode (mi_code n_M_expose) 98 = .ok (.getfield 71, 3) := by decide +kernel
theorem d_M_expose_101 : decode (mi_code n_M_expose) 101 = .ok (.iload 6, 2) := by decide +kernel
theorem d_M_expose_103 : decode (mi_code n_M_expose) 103 = .ok (.iaload, 1) := by decide +kernel
theorem d_M_expose_104 : decode (mi_code n_M_expose) 104 = .ok (.istore 7, 2) := by decide +kernel
theorem d_M_expose_106 : decode (mi_code n_M_expose) 106 = .ok (.aload_n 0, 1) := by decide +kernel
theorem d_M_expose_107 : decode (mi_code n_M_expose) 107 = .ok (.getfield 71, 3) := by decide +kernel
theorem d_M_expose_110 : decode (mi_code n_M_expose) 110 = .ok (.iload 6, 2) := by decide +kernel
theorem d_M_expose_112 : decode (mi_code n_M_expose) 112 = .ok (.iload 4, 2) := by decide +kernel
theorem d_M_expose_114 : decode (mi_code n_M_expose) 114 = .ok (.iastore, 1) := by decide +kernel
theorem d_M_expose_115 : decode (mi_code n_M_expose) 115 = .ok (.iload 7, 2) := by decide +kernel
theorem d_M_expose_117 : decode (mi_code n_M_expose) 117 = .ok (.ireturn, 1) := by decide +kernel
theorem d_M_faults_0 : decode (mi_code n_M_faults) 0 = .ok (.aload_n 0, 1) := by decide +kernel
theorem d_M_faults_1 : decode (mi_code n_M_faults) 1 = .ok (.aload_n 0, 1) := by decide +kernel
theorem d_M_faults_2 : decode (mi_code n_M_faults) 2 = .ok (.iload_n 1, 1) := by decide +kernel
theorem d_M_faults_3 : decode (mi_code n_M_faults) 3 = .ok (.iload_n 2, 1) := by decide +kernel
theorem d_M_faults_4 : decode (mi_code n_M_faults) 4 = .ok (.invokevirtual 202, 3) := by decide +kernel
theorem d_M_faults_7 : decode (mi_code n_M_faults) 7 = .ok (.invokevirtual 138, 3) := by decide +kernel
theorem d_M_faults_10 : decode (mi_code n_M_faults) 10 = .ok (.ifCond .ne 5, 3) := by decide +kernel
theorem d_M_faults_13 : decode (mi_code n_M_faults) 13 = .ok (.iconst 0, 1) := by decide +kernel
theorem d_M_faults_14 : decode (mi_code n_M_faults) 14 = .ok (.ireturn, 1) := by decide +kernel
theorem d_M_faults_15 : decode (mi_code n_M_faults) 15 = .ok (.aload_n 0, 1) := by decide +kernel
theorem d_M_faults_16 : decode (mi_code n_M_faults) 16 = .ok (.invokevirtual 229, 3) := by decide +kernel
theorem d_M_faults_19 : decode (mi_code n_M_faults) 19 = .ok (.iconst 0, 1) := by decide +kernel
theorem d_M_faults_20 : decode (mi_code n_M_faults) 20 = .ok (.istore_n 3, 1) := by decide +kernel
theorem d_M_faults_21 : decode (mi_code n_M_faults) 21 = .ok (.iconst 0, 1) := by decide +kernel
theorem d_M_faults_22 : decode (mi_code n_M_faults) 22 = .ok (.istore 4, 2) := by decide +kernel
theorem d_M_faults_24 : decode (mi_code n_M_faults) 24 = .ok (.iconst 0, 1) := by decide +kernel
theorem d_M_faults_25 : decode (mi_code n_M_faults) 25 = .ok (.istore 5, 2) := by decide +kernel
theorem d_M_faults_27 : decode (mi_code n_M_faults) 27 = .ok (.iload 5, 2) := by decide +kernel
theorem d_M_faults_29 : decode (mi_code n_M_faults) 29 = .ok (.iconst 4, 1) := by decide +kernel
theorem d_M_faults_30 : decode (mi_code n_M_faults) 30 = .ok (.if_icmp .ge 109, 3) := by decide +kernel
theorem d_M_faults_33 : decode (mi_code n_M_faults) 33 = .ok (.aload_n 0, 1) := by decide +kernel
theorem d_M_faults_34 : decode (mi_code n_M_faults) 34 = .ok (.iload_n 1, 1) := by decide +kernel
theorem d_M_faults_35 : decode (mi_code n_M_faults) 35 = .ok (.iload 5, 2) := by decide +kernel
theorem d_M_faults_37 : decode (mi_code n_M_faults) 37 = .ok (.iload_n 2, 1) := by decide +kernel
theorem d_M_faults_38 : decode (mi_code n_M_faults) 38 = .ok (.invokevirtual 218, 3) := by decide +kernel
theorem d_M_faults_41 : decode (mi_code n_M_faults) 41 = .ok (.istore 6, 2) := by decide +kernel
theorem d_M_faults_43 : decode (mi_code n_M_faults) 43 = .ok (.iload_n 3, 1) := by decide +kernel
theorem d_M_faults_44 : decode (mi_code n_M_faults) 44 = .ok (.iload 6, 2) := by decide +kernel
theorem d_M_faults_46 : decode (mi_code n_M_faults) 46 = .ok (.iconst (-1), 1) := by decide +kernel
theorem d_M_faults_47 : decode (mi_code n_M_faults) 47 = .ok (.if_icmp .eq 17, 3) := by decide +kernel
theorem d_M_faults_50 : decode (mi_code n_M_faults) 50 = .ok (.aload_n 0, 1) := by decide +kernel
theorem d_M_faults_51 : decode (mi_code n_M_faults) 51 = .ok (.getfield 26, 3) := by decide +kernel
theorem d_M_faults_54 : decode (mi_code n_M_faults) 54 = .ok (.iload 6, 2) := by decide +kernel
theorem d_M_faults_56 : decode (mi_code n_M_faults) 56 = .ok (.iaload, 1) := by decide +kernel
theorem d_M_faults_57 : decode (mi_code n_M_faults) 57 = .ok (.ifCond .ne 7, 3) := by decide +kernel
theorem d_M_faults_60 : decode (mi_code n_M_faults) 60 = .ok (.iconst 1, 1) := by decide +kernel
theorem d_M_faults_61 : decode (mi_code n_M_faults) 61 = .ok (.goto 4, 3) := by decide +kernel
theorem d_M_faults_64 : decode (mi_code n_M_faults) 64 = .ok (.iconst 0, 1) := by decide +kernel
theorem d_M_faults_65 : decode (mi_code n_M_faults) 65 = .ok (.ior, 1) := by decide +kernel
theorem d_M_faults_66 : decode (mi_code n_M_faults) 66 = .ok (.istore_n 3, 1) := by decide +kernel
theorem d_M_faults_67 : decode (mi_code n_M_faults) 67 = .ok (.iload_n 2, 1) := by decide +kernel
theorem d_M_faults_68 : decode (mi_code n_M_faults) 68 = .ok (.ifCond .le 65, 3) := by decide +kernel
theorem d_M_faults_71 : decode (mi_code n_M_faults) 71 = .ok (.iload_n 2, 1) := by decide +kernel
theorem d_M_faults_72 : decode (mi_code n_M_faults) 72 = .ok (.iconst 1, 1) := by decide +kernel
theorem d_M_faults_73 : decode (mi_code n_M_faults) 73 = .ok (.iadd, 1) := by decide +kernel
theorem d_M_faults_74 : decode (mi_code n_M_faults) 74 = .ok (.aload_n 0, 1) := by decide +kernel
theorem d_M_faults_75 : decode (mi_code n_M_faults) 75 = .ok (.getfield 65, 3) := by decide +kernel
theorem d_M_faults_78 : decode (mi_code n_M_faults) 78 = .ok (.iload_n 1, 1) := by decide +kernel
theorem d_M_faults_79 : decode (mi_code n_M_faults) 79 = .ok (.iaload, 1) := by decide +kernel
theorem d_M_faults_80 : decode (mi_code n_M_faults) 80 = .ok (.if_icmp .ge 53, 3) := by decide +kernel
theorem d_M_faults_83 : decode (mi_code n_M_faults) 83 = .ok (.aload_n 0, 1) := by decide +kernel
theorem d_M_faults_84 : decode (mi_code n_M_faults) 84 = .ok (.iload_n 1, 1) := by decide +kernel
theorem d_M_faults_85 : decode (mi_code n_M_faults) 85 = .ok (.iload 5, 2) := by decide +kernel
theorem d_M_faults_87 : decode (mi_code n_M_faults) 87 = .ok (.iload_n 2, 1) := by decide +kernel
theorem d_M_faults_88 : decode (mi_code n_M_faults) 88 = .ok (.iconst 1, 1) := by decide +kernel
theorem d_M_faults_89 : decode (mi_code n_M_faults) 89 = .ok (.isub, 1) := by decide +kernel
theorem d_M_faults_90 : decode (mi_code n_M_faults) 90 = .ok (.invokevirtual 218, 3) := by decide +kernel
theorem d_M_faults_93 : decode (mi_code n_M_faults) 93 = .ok (.istore 7, 2) := by decide +kernel
theorem d_M_faults_95 : decode (mi_code n_M_faults) 95 = .ok (.iload 4, 2) := by decide +kernel
theorem d_M_faults_97 : decode (mi_code n_M_faults) 97 = .ok (.iload 7, 2) := by decide +kernel
theorem d_M_faults_99 : decode (mi_code n_M_faults) 99 = .ok (.iconst (-1), 1) := by decide +kernel
theorem d_M_faults_100 : decode (mi_code n_M_faults) 100 = .ok (.if_icmp .eq 29, 3) := by decide +kernel
theorem d_M_faults_103 : decode (mi_code n_M_faults) 103 = .ok (.iload 7, 2) := by decide +kernel
theorem d_M_faults_105 : decode (mi_code n_M_faults) 105 = .ok (.aload_n 0, 1) := by decide +kernel
theorem d_M_faults_106 : decode (mi_code n_M_faults) 106 = .ok (.iload_n 1, 1) := by decide +kernel
theorem d_M_faults_107 : decode (mi_code n_M_faults) 107 = .ok (.iload 5, 2) := by decide +kernel
theorem d_M_faults_109 : decode (mi_code n_M_faults) 109 = .ok (.iload_n 2, 1) := by decide +kernel
theorem d_M_faults_110 : decode (mi_code n_M_faults) 110 = .ok (.iconst 1, 1) := by decide +kernel
theorem d_M_faults_111 : decode (mi_code n_M_faults) 111 = .ok (.iadd, 1) := by decide +kernel
theorem d_M_faults_112 : decode (mi_code n_M_faults) 112 = .ok (.invokevirtual 218, 3) := by decide +kernel
theorem d_M_faults_115 : decode (mi_code n_M_faults) 115 = .ok (.if_icmp .ne 14, 3) := by decide +kernel
theorem d_M_faults_118 : decode (mi_code n_M_faults) 118 = .ok (.iload 6, 2) := by decide +kernel
theorem d_M_faults_120 : decode (mi_code n_M_faults) 120 = .ok (.iload 7, 2) := by decide +kernel
theorem d_M_faults_122 : decode (mi_code n_M_faults) 122 = .ok (.if_icmp .eq 7, 3) := by decide +kernel
theorem d_M_faults_125 : decode (mi_code n_M_faults) 125 = .ok (.iconst 1, 1) := by decide +kernel
theorem d_M_faults_126 : decode (mi_code n_M_faults) 126 = .ok (.goto 4, 3) := by decide +kernel
theorem d_M_faults_129 : decode (mi_code n_M_faults) 129 = .ok (.iconst 0, 1) := by decide +kernel
theorem d_M_faults_130 : decode (mi_code n_M_faults) 130 = .ok (.ior, 1) := by decide +kernel
theorem d_M_faults_131 : decode (mi_code n_M_faults) 131 = .ok (.istore 4, 2) := by decide +kernel
theorem d_M_faults_133 : decode (mi_code n_M_faults) 133 = .ok (.iinc 5 1, 3) := by decide +kernel
theorem d_M_faults_136 : decode (mi_code n_M_faults) 136 = .ok (.goto (-109), 3) := by decide +kernel
theorem d_M_faults_139 : decode (mi_code n_M_faults) 139 = .ok (.iconst 1, 1) := by decide +kernel
theorem d_M_faults_140 : decode (mi_code n_M_faults) 140 = .ok (.istore 5, 2) := by decide +kernel
theorem d_M_faults_142 : decode (mi_code n_M_faults) 142 = .ok (.iconst 0, 1) := by decide +kernel
theorem d_M_faults_143 : decode (mi_code n_M_faults) 143 = .ok (.istore 6, 2) := by decide +kernel
theorem d_M_faults_145 : decode (mi_code n_M_faults) 145 = .ok (.iload 6, 2) := by decide +kernel
theorem d_M_faults_147 : decode (mi_code n_M_faults) 147 = .ok (.sipush 192, 3) := by decide +kernel
theorem d_M_faults_150 : decode (mi_code n_M_faults) 150 = .ok (.if_icmp .ge 38, 3) := by decide +kernel
theorem d_M_faults_153 : decode (mi_code n_M_faults) 153 = .ok (.iload 5, 2) := by decide +kernel
theorem d_M_faults_155 : decode (mi_code n_M_faults) 155 = .ok (.aload_n 0, 1) := by decide +kernel
theorem d_M_faults_156 : decode (mi_code n_M_faults) 156 = .ok (.iload_n 1, 1) := by decide +kernel
theorem d_M_faults_157 : decode (mi_code n_M_faults) 157 = .ok (.iload_n 2, 1) := by decide +kernel
theorem d_M_faults_158 : decode (mi_code n_M_faults) 158 = .ok (.iload 6, 2) := by decide +kernel
theorem d_M_faults_160 : decode (mi_code n_M_faults) 160 = .ok (.bipush 16, 2) := by decide +kernel
theorem d_M_faults_162 : decode (mi_code n_M_faults) 162 = .ok (.irem, 1) := by decide +kernel
theorem d_M_faults_163 : decode (mi_code n_M_faults) 163 = .ok (.iload 6, 2) := by decide +kernel
theorem d_M_faults_165 : decode (mi_code n_M_faults) 165 = .ok (.bipush 16, 2) := by decide +kernel
theorem d_M_faults_167 : decode (mi_code n_M_faults) 167 = .ok (.idiv, 1) := by decide +kernel
theorem d_M_faults_168 : decode (mi_code n_M_faults) 168 = .ok (.invokevirtual 226, 3) := by decide +kernel
theorem d_M_faults_171 : decode (mi_code n_M_faults) 171 = .ok (.ifCond .ne 7, 3) := by decide +kernel
theorem d_M_faults_174 : decode (mi_code n_M_faults) 174 = .ok (.iconst 1, 1) := by decide +kernel
theorem d_M_faults_175 : decode (mi_code n_M_faults) 175 = .ok (.goto 4, 3) := by decide +kernel
theorem d_M_faults_178 : decode (mi_code n_M_faults) 178 = .ok (.iconst 0, 1) := by decide +kernel
theorem d_M_faults_179 : decode (mi_code n_M_faults) 179 = .ok (.iand, 1) := by decide +kernel
theorem d_M_faults_180 : decode (mi_code n_M_faults) 180 = .ok (.istore 5, 2) := by decide +kernel
theorem d_M_faults_182 : decode (mi_code n_M_faults) 182 = .ok (.iinc 6 1, 3) := by decide +kernel
theorem d_M_faults_185 : decode (mi_code n_M_faults) 185 = .ok (.goto (-40), 3) := by decide +kernel
theorem d_M_faults_188 : decode (mi_code n_M_faults) 188 = .ok (.iload_n 3, 1) := by decide +kernel
theorem d_M_faults_189 : decode (mi_code n_M_faults) 189 = .ok (.ifCond .eq 7, 3) := by decide +kernel
theorem d_M_faults_192 : decode (mi_code n_M_faults) 192 = .ok (.iconst 1, 1) := by decide +kernel
theorem d_M_faults_193 : decode (mi_code n_M_faults) 193 = .ok (.goto 4, 3) := by decide +kernel
theorem d_M_faults_196 : decode (mi_code n_M_faults) 196 = .ok (.iconst 0, 1) := by decide +kernel
theorem d_M_faults_197 : decode (mi_code n_M_faults) 197 = .ok (.iload 4, 2) := by decide +kernel
theorem d_M_faults_199 : decode (mi_code n_M_faults) 199 = .ok (.ifCond .eq 7, 3) := by decide +kernel
theorem d_M_faults_202 : decode (mi_code n_M_faults) 202 = .ok (.iconst 2, 1) := by decide +kernel
theorem d_M_faults_203 : decode (mi_code n_M_faults) 203 = .ok (.goto 4, 3) := by decide +kernel
theorem d_M_faults_206 : decode (mi_code n_M_faults) 206 = .ok (.iconst 0, 1) := by decide +kernel
theorem d_M_faults_207 : decode (mi_code n_M_faults) 207 = .ok (.iadd, 1) := by decide +kernel
theorem d_M_faults_208 : decode (mi_code n_M_faults) 208 = .ok (.iload 5, 2) := by decide +kernel
theorem d_M_faults_210 : decode (mi_code n_M_faults) 210 = .ok (.ifCond .eq 7, 3) := by decide +kernel
theorem d_M_faults_213 : decode (mi_code n_M_faults) 213 = .ok (.iconst 4, 1) := by decide +kernel
theorem d_M_faults_214 : decode (mi_code n_M_faults) 214 = .ok (.goto 4, 3) := by decide +kernel
theorem d_M_faults_217 : decode (mi_code n_M_faults) 217 = .ok (.iconst 0, 1) := by decide +kernel
theorem d_M_faults_218 : decode (mi_code n_M_faults) 218 = .ok (.iadd, 1) := by decide +kernel
theorem d_M_faults_219 : decode (mi_code n_M_faults) 219 = .ok (.ireturn, 1) := by decide +kernel
theorem d_M_fills_0 : decode (mi_code n_M_fills) 0 = .ok (.iconst 0, 1) := by decide +kernel
theorem d_M_fills_1 : decode (mi_code n_M_fills) 1 = .ok (.istore 4, 2) := by decide +kernel
theorem d_M_fills_3 : decode (mi_code n_M_fills) 3 = .ok (.iload 4, 2) := by decide +kernel
theorem d_M_fills_5 : decode (mi_code n_M_fills) 5 = .ok (.sipush 192, 3) := by decide +kernel
theorem d_M_fills_8 : decode (mi_code n_M_fills) 8 = .ok (.if_icmp .ge 17, 3) := by decide +kernel
theorem d_M_fills_11 : decode (mi_code n_M_fills) 11 = .ok (.aload_n 0, 1) := by decide +kernel
theorem d_M_fills_12 : decode (mi_code n_M_fills) 12 = .ok (.getfield 59, 3) := by decide +kernel
theorem d_M_fills_15 : decode (mi_code n_M_fills) 15 = .ok (.iload 4, 2) := by decide +kernel
theorem d_M_fills_17 : decode (mi_code n_M_fills) 17 = .ok (.iconst 0, 1) := by decide +kernel
theorem d_M_fills_18 : decode (mi_code n_M_fills) 18 = .ok (.bastore, 1) := by decide +kernel
theorem d_M_fills_19 : decode (mi_code n_M_fills) 19 = .ok (.iinc 4 1, 3) := by decide +kernel
theorem d_M_fills_22 : decode (mi_code n_M_fills) 22 = .ok (.goto (-19), 3) := by decide +kernel
theorem d_M_fills_25 : decode (mi_code n_M_fills) 25 = .ok (.aload_n 0, 1) := by decide +kernel
theorem d_M_fills_26 : decode (mi_code n_M_fills) 26 = .ok (.iconst 0, 1) := by decide +kernel
theorem d_M_fills_27 : decode (mi_code n_M_fills) 27 = .ok (.putfield 180, 3) := by decide +kernel
theorem d_M_fills_30 : decode (mi_code n_M_fills) 30 = .ok (.aload_n 0, 1) := by decide +kernel
theorem d_M_fills_31 : decode (mi_code n_M_fills) 31 = .ok (.iload_n 1, 1) := by decide +kernel
theorem d_M_fills_32 : decode (mi_code n_M_fills) 32 = .ok (.iload_n 2, 1) := by decide +kernel
theorem d_M_fills_33 : decode (mi_code n_M_fills) 33 = .ok (.bipush 16, 2) := by decide +kernel
theorem d_M_fills_35 : decode (mi_code n_M_fills) 35 = .ok (.irem, 1) := by decide +kernel
theorem d_M_fills_36 : decode (mi_code n_M_fills) 36 = .ok (.iload_n 2, 1) := by decide +kernel
theorem d_M_fills_37 : decode (mi_code n_M_fills) 37 = .ok (.bipush 16, 2) := by decide +kernel
theorem d_M_fills_39 : decode (mi_code n_M_fills) 39 = .ok (.idiv, 1) := by decide +kernel
theorem d_M_fills_40 : decode (mi_code n_M_fills) 40 = .ok (.invokevirtual 183, 3) := by decide +kernel
theorem d_M_fills_43 : decode (mi_code n_M_fills) 43 = .ok (.iconst 0, 1) := by decide +kernel
theorem d_M_fills_44 : decode (mi_code n_M_fills) 44 = .ok (.istore 4, 2) := by decide +kernel
theorem d_M_fills_46 : decode (mi_code n_M_fills) 46 = .ok (.iload 4, 2) := by decide +kernel
theorem d_M_fills_48 : decode (mi_code n_M_fills) 48 = .ok (.aload_n 0, 1) := by decide +kernel
theorem d_M_fills_49 : decode (mi_code n_M_fills) 49 = .ok (.getfield 180, 3) := by decide +kernel
theorem d_M_fills_52 : decode (mi_code n_M_fills) 52 = .ok (.if_icmp .ge 106, 3) := by decide +kernel
theorem d_M_fills_55 : decode (mi_code n_M_fills) 55 = .ok (.aload_n 0, 1) := by decide +kernel
theorem d_M_fills_56 : decode (mi_code n_M_fills) 56 = .ok (.getfield 56, 3) := by decide +kernel
theorem d_M_fills_59 : decode (mi_code n_M_fills) 59 = .ok (.iload 4, 2) := by decide +kernel
theorem d_M_fills_61 : decode (mi_code n_M_fills) 61 = .ok (.iaload, 1) := by decide +kernel
theorem d_M_fills_62 : decode (mi_code n_M_fills) 62 = .ok (.bipush 16, 2) := by decide +kernel
theorem d_M_fills_64 : decode (mi_code n_M_fills) 64 = .ok (.irem, 1) := by decide +kernel
theorem d_M_fills_65 : decode (mi_code n_M_fills) 65 = .ok (.istore 5, 2) := by decide +kernel
theorem d_M_fills_67 : decode (mi_code n_M_fills) 67 = .ok (.aload_n 0, 1) := by decide +kernel
theorem d_M_fills_68 : decode (mi_code n_M_fills) 68 = .ok (.getfield 56, 3) := by decide +kernel
theorem d_M_fills_71 : decode (mi_code n_M_fills) 71 = .ok (.iload 4, 2) := by decide +kernel
theorem d_M_fills_73 : decode (mi_code n_M_fills) 73 = .ok (.iaload, 1) := by decide +kernel
theorem d_M_fills_74 : decode (mi_code n_M_fills) 74 = .ok (.bipush 16, 2) := by decide +kernel
theorem d_M_fills_76 : decode (mi_code n_M_fills) 76 = .ok (.idiv, 1) := by decide +kernel
theorem d_M_fills_77 : decode (mi_code n_M_fills) 77 = .ok (.istore 6, 2) := by decide +kernel
theorem d_M_fills_79 : decode (mi_code n_M_fills) 79 = .ok (.aload_n 0, 1) := by decide +kernel
theorem d_M_fills_80 : decode (mi_code n_M_fills) 80 = .ok (.getfield 50, 3) := by decide +kernel
theorem d_M_fills_83 : decode (mi_code n_M_fills) 83 = .ok (.sipush 192, 3) := by decide +kernel
theorem d_M_fills_86 : decode (mi_code n_M_fills) 86 = .ok (.iload_n 1, 1) := by decide +kernel
theorem d_M_fills_87 : decode (mi_code n_M_fills) 87 = .ok (.imul, 1) := by decide +kernel
theorem d_M_fills_88 : decode (mi_code n_M_fills) 88 = .ok (.aload_n 0, 1) := by decide +kernel
theorem d_M_fills_89 : decode (mi_code n_M_fills) 89 = .ok (.getfield 56, 3) := by decide +kernel
theorem d_M_fills_92 : decode (mi_code n_M_fills) 92 = .ok (.iload 4, 2) := by decide +kernel
theorem d_M_fills_94 : decode (mi_code n_M_fills) 94 = .ok (.iaload, 1) := by decide +kernel
theorem d_M_fills_95 : decode (mi_code n_M_fills) 95 = .ok (.iadd, 1) := by decide +kernel
theorem d_M_fills_96 : decode (mi_code n_M_fills) 96 = .ok (.iload_n 3, 1) := by decide +kernel
theorem d_M_fills_97 : decode (mi_code n_M_fills) 97 = .ok (.iastore, 1) := by decide +kernel
theorem d_M_fills_98 : decode (mi_code n_M_fills) 98 = .ok (.iload 5, 2) := by decide +kernel
theorem d_M_fills_100 : decode (mi_code n_M_fills) 100 = .ok (.ifCond .le 14, 3) := by decide +kernel
theorem d_M_fills_103 : decode (mi_code n_M_fills) 103 = .ok (.aload_n 0, 1) := by decide +kernel
theorem d_M_fills_104 : decode (mi_code n_M_fills) 104 = .ok (.iload_n 1, 1) := by decide +kernel
theorem d_M_fills_105 : decode (mi_code n_M_fills) 105 = .ok (.iload 5, 2) := by decide +kernel
theorem d_M_fills_107 : decode (mi_code n_M_fills) 107 = .ok (.iconst 1, 1) := by decide +kernel
theorem d_M_fills_108 : decode (mi_code n_M_fills) 108 = .ok (.isub, 1) := by decide +kernel
theorem d_M_fills_109 : decode (mi_code n_M_fills) 109 = .ok (.iload 6, 2) := by decide +kernel
theorem d_M_fills_111 : decode (mi_code n_M_fills) 111 = .ok (.invokevirtual 183, 3) := by decide +kernel
theorem d_M_fills_114 : decode (mi_code n_M_fills) 114 = .ok (.iload 6, 2) := by decide +kernel
theorem d_M_fills_116 : decode (mi_code n_M_fills) 116 = .ok (.ifCond .le 14, 3) := by decide +kernel
theorem d_M_fills_119 : decode (mi_code n_M_fills) 119 = .ok (.aload_n 0, 1) := by decide +kernel
theorem d_M_fills_120 : decode (mi_code n_M_fills) 120 = .ok (.iload_n 1, 1) := by decide +kernel
theorem d_M_fills_121 : decode (mi_code n_M_fills) 121 = .ok (.iload 5, 2) := by decide +kernel
theorem d_M_fills_123 : decode (mi_code n_M_fills) 123 = .ok (.iload 6, 2) := by decide +kernel
theorem d_M_fills_125 : decode (mi_code n_M_fills) 125 = .ok (.iconst 1, 1) := by decide +kernel
theorem d_M_fills_126 : decode (mi_code n_M_fills) 126 = .ok (.isub, 1) := by decide +kernel
theorem d_M_fills_127 : decode (mi_code n_M_fills) 127 = .ok (.invokevirtual 183, 3) := by decide +kernel
theorem d_M_fills_130 : decode (mi_code n_M_fills) 130 = .ok (.aload_n 0, 1) := by decide +kernel
theorem d_M_fills_131 : decode (mi_code n_M_fills) 131 = .ok (.iload_n 1, 1) := by decide +kernel
theorem d_M_fills_132 : decode (mi_code n_M_fills) 132 = .ok (.iload 5, 2) := by decide +kernel
theorem d_M_fills_134 : decode (mi_code n_M_fills) 134 = .ok (.iconst 1, 1) := by decide +kernel
theorem d_M_fills_135 : decode (mi_code n_M_fills) 135 = .ok (.iadd, 1) := by decide +kernel
theorem d_M_fills_136 : decode (mi_code n_M_fills) 136 = .ok (.iload 6, 2) := by decide +kernel
theorem d_M_fills_138 : decode (mi_code n_M_fills) 138 = .ok (.invokevirtual 183, 3) := by decide +kernel
theorem d_M_fills_141 : decode (mi_code n_M_fills) 141 = .ok (.aload_n 0, 1) := by decide +kernel
theorem d_M_fills_142 : decode (mi_code n_M_fills) 142 = .ok (.iload_n 1, 1) := by decide +kernel
theorem d_M_fills_143 : decode (mi_code n_M_fills) 143 = .ok (.iload 5, 2) := by decide +kernel
theorem d_M_fills_145 : decode (mi_code n_M_fills) 145 = .ok (.iload 6, 2) := by decide +kernel
theorem d_M_fills_147 : decode (mi_code n_M_fills) 147 = .ok (.iconst 1, 1) := by decide +kernel
theorem d_M_fills_148 : decode (mi_code n_M_fills) 148 = .ok (.iadd, 1) := by decide +kernel
theorem d_M_fills_149 : decode (mi_code n_M_fills) 149 = .ok (.invokevirtual 183, 3) := by decide +kernel
theorem d_M_fills_152 : decode (mi_code n_M_fills) 152 = .ok (.iinc 4 1, 3) := by decide +kernel
theorem d_M_fills_155 : decode (mi_code n_M_fills) 155 = .ok (.goto (-109), 3) := by decide +kernel
theorem d_M_fills_158 : decode (mi_code n_M_fills) 158 = .ok (.return_, 1) := by decide +kernel
theorem d_M_film_0 : decode (mi_code n_M_film) 0 = .ok (.aload_n 0, 1) := by decide +kernel
theorem d_M_film_1 : decode (mi_code n_M_film) 1 = .ok (.iload_n 1, 1) := by decide +kernel
theorem d_M_film_2 : decode (mi_code n_M_film) 2 = .ok (.iconst 0, 1) := by decide +kernel
theorem d_M_film_3 : decode (mi_code n_M_film) 3 = .ok (.aload_n 0, 1) := by decide +kernel
theorem d_M_film_4 : decode (mi_code n_M_film) 4 = .ok (.invokevirtual 247, 3) := by decide +kernel
theorem d_M_film_7 : decode (mi_code n_M_film) 7 = .ok (.iconst 1, 1) := by decide +kernel
theorem d_M_film_8 : decode (mi_code n_M_film) 8 = .ok (.isub, 1) := by decide +kernel
theorem d_M_film_9 : decode (mi_code n_M_film) 9 = .ok (.invokestatic 126, 3) := by decide +kernel
theorem d_M_film_12 : decode (mi_code n_M_film) 12 = .ok (.invokevirtual 138, 3) := by decide +kernel
theorem d_M_film_15 : decode (mi_code n_M_film) 15 = .ok (.ifCond .ne 5, 3) := by decide +kernel
theorem d_M_film_18 : decode (mi_code n_M_film) 18 = .ok (.iconst 0, 1) := by decide +kernel
theorem d_M_film_19 : decode (mi_code n_M_film) 19 = .ok (.ireturn, 1) := by decide +kernel
theorem d_M_film_20 : decode (mi_code n_M_film) 20 = .ok (.iload_n 1, 1) := by decide +kernel
theorem d_M_film_21 : decode (mi_code n_M_film) 21 = .ok (.istore_n 2, 1) := by decide +kernel
theorem d_M_film_22 : decode (mi_code n_M_film) 22 = .ok (.iconst 0, 1) := by decide +kernel
theorem d_M_film_23 : decode (mi_code n_M_film) 23 = .ok (.istore_n 3, 1) := by decide +kernel
theorem d_M_film_24 : decode (mi_code n_M_film) 24 = .ok (.iload_n 2, 1) := by decide +kernel
theorem d_M_film_25 : decode (mi_code n_M_film) 25 = .ok (.aload_n 0, 1) := by decide +kernel
theorem d_M_film_26 : decode (mi_code n_M_film) 26 = .ok (.getfield 65, 3) := by decide +kernel
theorem d_M_film_29 : decode (mi_code n_M_film) 29 = .ok (.aload_n 0, 1) := by decide +kernel
theorem d_M_film_30 : decode (mi_code n_M_film) 30 = .ok (.getfield 116, 3) := by decide +kernel
theorem d_M_film_33 : decode (mi_code n_M_film) 33 = .ok (.iload_n 3, 1) := by decide +kernel
theorem d_M_film_34 : decode (mi_code n_M_film) 34 = .ok (.iaload, 1) := by decide +kernel
theorem d_M_film_35 : decode (mi_code n_M_film) 35 = .ok (.iaload, 1) := by decide +kernel
theorem d_M_film_36 : decode (mi_code n_M_film) 36 = .ok (.if_icmp .lt 23, 3) := by decide +kernel
theorem d_M_film_39 : decode (mi_code n_M_film) 39 = .ok (.iload_n 2, 1) := by decide +kernel
theorem d_M_film_40 : decode (mi_code n_M_film) 40 = .ok (.aload_n 0, 1) := by decide +kernel
theorem d_M_film_41 : decode (mi_code n_M_film) 41 = .ok (.getfield 65, 3) := by decide +kernel
theorem d_M_film_44 : decode (mi_code n_M_film) 44 = .ok (.aload_n 0, 1) := by decide +kernel
theorem d_M_film_45 : decode (mi_code n_M_film) 45 = .ok (.getfield 116, 3) := by decide +kernel
theorem d_M_film_48 : decode (mi_code n_M_film) 48 = .ok (.iload_n 3, 1) := by decide +kernel
theorem d_M_film_49 : decode (mi_code n_M_film) 49 = .ok (.iaload, 1) := by decide +kernel
theorem d_M_film_50 : decode (mi_code n_M_film) 50 = .ok (.iaload, 1) := by decide +kernel
theorem d_M_film_51 : decode (mi_code n_M_film) 51 = .ok (.isub, 1) := by decide +kernel
theorem d_M_film_52 : decode (mi_code n_M_film) 52 = .ok (.istore_n 2, 1) := by decide +kernel
theorem d_M_film_53 : decode (mi_code n_M_film) 53 = .ok (.iinc 3 1, 3) := by decide +kernel
theorem d_M_film_56 : decode (mi_code n_M_film) 56 = .ok (.goto (-32), 3) := by decide +kernel
theorem d_M_film_59 : decode (mi_code n_M_film) 59 = .ok (.bipush 100, 2) := by decide +kernel
theorem d_M_film_61 : decode (mi_code n_M_film) 61 = .ok (.aload_n 0, 1) := by decide +kernel
theorem d_M_film_62 : decode (mi_code n_M_film) 62 = .ok (.getfield 116, 3) := by decide +kernel
theorem d_M_film_65 : decode (mi_code n_M_film) 65 = .ok (.iload_n 3, 1) := by decide +kernel
theorem d_M_film_66 : decode (mi_code n_M_film) 66 = .ok (.iaload, 1) := by decide +kernel
theorem d_M_film_67 : decode (mi_code n_M_film) 67 = .ok (.imul, 1) := by decide +kernel
theorem d_M_film_68 : decode (mi_code n_M_film) 68 = .ok (.iload_n 2, 1) := by decide +kernel
theorem d_M_film_69 : decode (mi_code n_M_film) 69 = .ok (.iadd, 1) := by decide +kernel
theorem d_M_film_70 : decode (mi_code n_M_film) 70 = .ok (.ireturn, 1) := by decide +kernel
theorem d_M_filmed_0 : decode (mi_code n_M_filmed) 0 = .ok (.iconst 0, 1) := by decide +kernel
theorem d_M_filmed_1 : decode (mi_code n_M_filmed) 1 = .ok (.istore_n 1, 1) := by decide +kernel
theorem d_M_filmed_2 : decode (mi_code n_M_filmed) 2 = .ok (.iconst 0, 1) := by decide +kernel
theorem d_M_filmed_3 : decode (mi_code n_M_filmed) 3 = .ok (.istore_n 2, 1) := by decide +kernel
theorem d_M_filmed_4 : decode (mi_code n_M_filmed) 4 = .ok (.iload_n 2, 1) := by decide +kernel
theorem d_M_filmed_5 : decode (mi_code n_M_filmed) 5 = .ok (.aload_n 0, 1) := by decide +kernel
theorem d_M_filmed_6 : decode (mi_code n_M_filmed) 6 = .ok (.getfield 244, 3) := by decide +kernel
theorem d_M_filmed_9 : decode (mi_code n_M_filmed) 9 = .ok (.if_icmp .ge 23, 3) := by decide +kernel
theorem d_M_filmed_12 : decode (mi_code n_M_filmed) 12 = .ok (.iload_n 1, 1) := by decide +kernel
theorem d_M_filmed_13 : decode (mi_code n_M_filmed) 13 = .ok (.aload_n 0, 1) := by decide +kernel
theorem d_M_filmed_14 : decode (mi_code n_M_filmed) 14 = .ok (.getfield 65, 3) := by decide +kernel
theorem d_M_filmed_17 : decode (mi_code n_M_filmed) 17 = .ok (.aload_n 0, 1) := by decide +kernel
theorem d_M_filmed_18 : decode (mi_code n_M_filmed) 18 = .ok (.getfield 116, 3) := by decide +kernel
theorem d_M_filmed_21 : decode (mi_code n_M_filmed) 21 = .ok (.iload_n 2, 1) := by decide +kernel
theorem d_M_filmed_22 : decode (mi_code n_M_filmed) 22 = .ok (.iaload, 1) := by decide +kernel
theorem d_M_filmed_23 : decode (mi_code n_M_filmed) 23 = .ok (.iaload, 1) := by decide +kernel
theorem d_M_filmed_24 : decode (mi_code n_M_filmed) 24 = .ok (.iadd, 1) := by decide +kernel
theorem d_M_filmed_25 : decode (mi_code n_M_filmed) 25 = .ok (.istore_n 1, 1) := by decide +kernel
theorem d_M_filmed_26 : decode (mi_code n_M_filmed) 26 = .ok (.iinc 2 1, 3) := by decide +kernel
theorem d_M_filmed_29 : decode (mi_code n_M_filmed) 29 = .ok (.goto (-25), 3) := by decide +kernel
theorem d_M_filmed_32 : decode (mi_code n_M_filmed) 32 = .ok (.iload_n 1, 1) := by decide +kernel
theorem d_M_filmed_33 : decode (mi_code n_M_filmed) 33 = .ok (.ireturn, 1) := by decide +kernel
theorem d_M_gaps_0 : decode (mi_code n_M_gaps) 0 = .ok (.aload_n 0, 1) := by decide +kernel
theorem d_M_gaps_1 : decode (mi_code n_M_gaps) 1 = .ok (.aload_n 0, 1) := by decide +kernel
theorem d_M_gaps_2 : decode (mi_code n_M_gaps) 2 = .ok (.iload_n 1, 1) := by decide +kernel
theorem d_M_gaps_3 : decode (mi_code n_M_gaps) 3 = .ok (.invokevirtual 130, 3) := by decide +kernel
theorem d_M_gaps_6 : decode (mi_code n_M_gaps) 6 = .ok (.aload_n 0, 1) := by decide +kernel
theorem d_M_gaps_7 : decode (mi_code n_M_gaps) 7 = .ok (.iload_n 1, 1) := by decide +kernel
theorem d_M_gaps_8 : decode (mi_code n_M_gaps) 8 = .ok (.invokevirtual 153, 3) := by decide +kernel
theorem d_M_gaps_11 : decode (mi_code n_M_gaps) 11 = .ok (.invokevirtual 166, 3) := by decide +kernel
theorem d_M_gaps_14 : decode (mi_code n_M_gaps) 14 = .ok (.ifCond .ne 5, 3) := by decide +kernel
theorem d_M_gaps_17 : decode (mi_code n_M_gaps) 17 = .ok (.iconst 0, 1) := by decide +kernel
theorem d_M_gaps_18 : decode (mi_code n_M_gaps) 18 = .ok (.ireturn, 1) := by decide +kernel
theorem d_M_gaps_19 : decode (mi_code n_M_gaps) 19 = .ok (.aload_n 0, 1) := by decide +kernel
theorem d_M_gaps_20 : decode (mi_code n_M_gaps) 20 = .ok (.getfield 47, 3) := by decide +kernel
theorem d_M_gaps_23 : decode (mi_code n_M_gaps) 23 = .ok (.iload_n 1, 1) := by decide +kernel
theorem d_M_gaps_24 : decode (mi_code n_M_gaps) 24 = .ok (.aload_n 0, 1) := by decide +kernel
theorem d_M_gaps_25 : decode (mi_code n_M_gaps) 25 = .ok (.getfield 47, 3) := by decide +kernel
theorem d_M_gaps_28 : decode (mi_code n_M_gaps) 28 = .ok (.iload_n 1, 1) := by decide +kernel
theorem d_M_gaps_29 : decode (mi_code n_M_gaps) 29 = .ok (.baload, 1) := by decide +kernel
theorem d_M_gaps_30 : decode (mi_code n_M_gaps) 30 = .ok (.ifCond .ne 7, 3) := by decide +kernel
theorem d_M_gaps_33 : decode (mi_code n_M_gaps) 33 = .ok (.iconst 1, 1) := by decide +kernel
theorem d_M_gaps_34 : decode (mi_code n_M_gaps) 34 = .ok (.goto 4, 3) := by decide +kernel
theorem d_M_gaps_37 : decode (mi_code n_M_gaps) 37 = .ok (.iconst 0, 1) := by decide +kernel
theorem d_M_gaps_38 : decode (mi_code n_M_gaps) 38 = .ok (.bastore, 1) := by decide +kernel
theorem d_M_gaps_39 : decode (mi_code n_M_gaps) 39 = .ok (.aload_n 0, 1) := by decide +kernel
theorem d_M_gaps_40 : decode (mi_code n_M_gaps) 40 = .ok (.iconst 1, 1) := by decide +kernel
theorem d_M_gaps_41 : decode (mi_code n_M_gaps) 41 = .ok (.putfield 134, 3) := by decide +kernel
theorem d_M_gaps_44 : decode (mi_code n_M_gaps) 44 = .ok (.aload_n 0, 1) := by decide +kernel
theorem d_M_gaps_45 : decode (mi_code n_M_gaps) 45 = .ok (.getfield 47, 3) := by decide +kernel
theorem d_M_gaps_48 : decode (mi_code n_M_gaps) 48 = .ok (.iload_n 1, 1) := by decide +kernel
theorem d_M_gaps_49 : decode (mi_code n_M_gaps) 49 = .ok (.baload, 1) := by decide +kernel
theorem d_M_gaps_50 : decode (mi_code n_M_gaps) 50 = .ok (.ireturn, 1) := by decide +kernel
theorem d_M_hand_0 : decode (mi_code n_M_hand) 0 = .ok (.aload_n 0, 1) := by decide +kernel
theorem d_M_hand_1 : decode (mi_code n_M_hand) 1 = .ok (.iload_n 1, 1) := by decide +kernel
theorem d_M_hand_2 : decode (mi_code n_M_hand) 2 = .ok (.iconst 1, 1) := by decide +kernel
theorem d_M_hand_3 : decode (mi_code n_M_hand) 3 = .ok (.bipush 9, 2) := by decide +kernel
theorem d_M_hand_5 : decode (mi_code n_M_hand) 5 = .ok (.invokestatic 126, 3) := by decide +kernel
theorem d_M_hand_8 : decode (mi_code n_M_hand) 8 = .ok (.aload_n 0, 1) := by decide +kernel
theorem d_M_hand_9 : decode (mi_code n_M_hand) 9 = .ok (.getfield 241, 3) := by decide +kernel
theorem d_M_hand_12 : decode (mi_code n_M_hand) 12 = .ok (.iconst 4, 1) := by decide +kernel
theorem d_M_hand_13 : decode (mi_code n_M_hand) 13 = .ok (.if_icmp .ge 7, 3) := by decide +kernel
theorem d_M_hand_16 : decode (mi_code n_M_hand) 16 = .ok (.iconst 1, 1) := by decide +kernel
theorem d_M_hand_17 : decode (mi_code n_M_hand) 17 = .ok (.goto 4, 3) := by decide +kernel
theorem d_M_hand_20 : decode (mi_code n_M_hand) 20 = .ok (.iconst 0, 1) := by decide +kernel
theorem d_M_hand_21 : decode (mi_code n_M_hand) 21 = .ok (.invokevirtual 166, 3) := by decide +kernel
theorem d_M_hand_24 : decode (mi_code n_M_hand) 24 = .ok (.ifCond .ne 5, 3) := by decide +kernel
theorem d_M_hand_27 : decode (mi_code n_M_hand) 27 = .ok (.iconst 0, 1) := by decide +kernel
theorem d_M_hand_28 : decode (mi_code n_M_hand) 28 = .ok (.ireturn, 1) := by decide +kernel
theorem d_M_hand_29 : decode (mi_code n_M_hand) 29 = .ok (.aload_n 0, 1) := by decide +kernel
theorem d_M_hand_30 : decode (mi_code n_M_hand) 30 = .ok (.getfield 110, 3) := by decide +kernel
theorem d_M_hand_33 : decode (mi_code n_M_hand) 33 = .ok (.aload_n 0, 1) := by decide +kernel
theorem d_M_hand_34 : decode (mi_code n_M_hand) 34 = .ok (.getfield 241, 3) := by decide +kernel
theorem d_M_hand_37 : decode (mi_code n_M_hand) 37 = .ok (.iload_n 1, 1) := by decide +kernel
theorem d_M_hand_38 : decode (mi_code n_M_hand) 38 = .ok (.iastore, 1) := by decide +kernel
theorem d_M_hand_39 : decode (mi_code n_M_hand) 39 = .ok (.aload_n 0, 1) := by decide +kernel
theorem d_M_hand_40 : decode (mi_code n_M_hand) 40 = .ok (.dup, 1) := by decide +kernel
theorem d_M_hand_41 : decode (mi_code n_M_hand) 41 = .ok (.getfield 241, 3) := by decide +kernel
theorem d_M_hand_44 : decode (mi_code n_M_hand) 44 = .ok (.iconst 1, 1) := by decide +kernel
theorem d_M_hand_45 : decode (mi_code n_M_hand) 45 = .ok (.iadd, 1) := by decide +kernel
theorem d_M_hand_46 : decode (mi_code n_M_hand) 46 = .ok (.putfield 241, 3) := by decide +kernel
theorem d_M_hand_49 : decode (mi_code n_M_hand) 49 = .ok (.aload_n 0, 1) := by decide +kernel
theorem d_M_hand_50 : decode (mi_code n_M_hand) 50 = .ok (.getfield 241, 3) := by decide +kernel
theorem d_M_hand_53 : decode (mi_code n_M_hand) 53 = .ok (.iconst 1, 1) := by decide +kernel
theorem d_M_hand_54 : decode (mi_code n_M_hand) 54 = .ok (.isub, 1) := by decide +kernel
theorem d_M_hand_55 : decode (mi_code n_M_hand) 55 = .ok (.ireturn, 1) := by decide +kernel
theorem d_M_hang_0 : decode (mi_code n_M_hang) 0 = .ok (.aload_n 0, 1) := by decide +kernel
theorem d_M_hang_1 : decode (mi_code n_M_hang) 1 = .ok (.iload_n 1, 1) := by decide +kernel
theorem d_M_hang_2 : decode (mi_code n_M_hang) 2 = .ok (.invokevirtual 196, 3) := by decide +kernel
theorem d_M_hang_5 : decode (mi_code n_M_hang) 5 = .ok (.ifCond .eq 35, 3) := by decide +kernel
theorem d_M_hang_8 : decode (mi_code n_M_hang) 8 = .ok (.iload_n 2, 1) := by decide +kernel
theorem d_M_hang_9 : decode (mi_code n_M_hang) 9 = .ok (.iconst 0, 1) := by decide +kernel
theorem d_M_hang_10 : decode (mi_code n_M_hang) 10 = .ok (.iconst 4, 1) := by decide +kernel
theorem d_M_hang_11 : decode (mi_code n_M_hang) 11 = .ok (.invokestatic 126, 3) := by decide +kernel
theorem d_M_hang_14 : decode (mi_code n_M_hang) 14 = .ok (.ifCond .eq 26, 3) := by decide +kernel
theorem d_M_hang_17 : decode (mi_code n_M_hang) 17 = .ok (.iload_n 3, 1) := by decide +kernel
theorem d_M_hang_18 : decode (mi_code n_M_hang) 18 = .ok (.iconst (-1), 1) := by decide +kernel
theorem d_M_hang_19 : decode (mi_code n_M_hang) 19 = .ok (.if_icmp .eq 17, 3) := by decide +kernel
theorem d_M_hang_22 : decode (mi_code n_M_hang) 22 = .ok (.iload_n 3, 1) := by decide +kernel
theorem d_M_hang_23 : decode (mi_code n_M_hang) 23 = .ok (.iconst 0, 1) := by decide +kernel
theorem d_M_hang_24 : decode (mi_code n_M_hang) 24 = .ok (.aload_n 0, 1) := by decide +kernel
theorem d_M_hang_25 : decode (mi_code n_M_hang) 25 = .ok (.getfield 208, 3) := by decide +kernel
theorem d_M_hang_28 : decode (mi_code n_M_hang) 28 = .ok (.iconst 1, 1) := by decide +kernel
theorem d_M_hang_29 : decode (mi_code n_M_hang) 29 = .ok (.isub, 1) := by decide +kernel
theorem d_M_hang_30 : decode (mi_code n_M_hang) 30 = .ok (.invokestatic 126, 3) := by decide +kernel
theorem d_M_hang_33 : decode (mi_code n_M_hang) 33 = .ok (.ifCond .eq 7, 3) := by decide +kernel
theorem d_M_hang_36 : decode (mi_code n_M_hang) 36 = .ok (.iconst 1, 1) := by decide +kernel
theorem d_M_hang_37 : decode (mi_code n_M_hang) 37 = .ok (.goto 4, 3) := by decide +kernel
theorem d_M_hang_40 : decode (mi_code n_M_hang) 40 = .ok (.iconst 0, 1) := by decide +kernel
theorem d_M_hang_41 : decode (mi_code n_M_hang) 41 = .ok (.istore 5, 2) := by decide +kernel
theorem d_M_hang_43 : decode (mi_code n_M_hang) 43 = .ok (.aload_n 0, 1) := by decide +kernel
theorem d_M_hang_44 : decode (mi_code n_M_hang) 44 = .ok (.iload 5, 2) := by decide +kernel
theorem d_M_hang_46 : decode (mi_code n_M_hang) 46 = .ok (.iload_n 2, 1) := by decide +kernel
theorem d_M_hang_47 : decode (mi_code n_M_hang) 47 = .ok (.iconst 4, 1) := by decide +kernel
theorem d_M_hang_48 : decode (mi_code n_M_hang) 48 = .ok (.if_icmp .eq 13, 3) := by decide +kernel
theorem d_M_hang_51 : decode (mi_code n_M_hang) 51 = .ok (.iload 4, 2) := by decide +kernel
theorem d_M_hang_53 : decode (mi_code n_M_hang) 53 = .ok (.iconst 1, 1) := by decide +kernel
theorem d_M_hang_54 : decode (mi_code n_M_hang) 54 = .ok (.iconst 4, 1) := by decide +kernel
theorem d_M_hang_55 : decode (mi_code n_M_hang) 55 = .ok (.invokestatic 126, 3) := by decide +kernel
theorem d_M_hang_58 : decode (mi_code n_M_hang) 58 = .ok (.ifCond .eq 7, 3) := by decide +kernel
theorem d_M_hang_61 : decode (mi_code n_M_hang) 61 = .ok (.iconst 1, 1) := by decide +kernel
theorem d_M_hang_62 : decode (mi_code n_M_hang) 62 = .ok (.goto 4, 3) := by decide +kernel
theorem d_M_hang_65 : decode (mi_code n_M_hang) 65 = .ok (.iconst 0, 1) := by decide +kernel
theorem d_M_hang_66 : decode (mi_code n_M_hang) 66 = .ok (.invokevirtual 166, 3) := by decide +kernel
theorem d_M_hang_69 : decode (mi_code n_M_hang) 69 = .ok (.ifCond .eq 26, 3) := by decide +kernel
theorem d_M_hang_72 : decode (mi_code n_M_hang) 72 = .ok (.aload_n 0, 1) := by decide +kernel
theorem d_M_hang_73 : decode (mi_code n_M_hang) 73 = .ok (.getfield 80, 3) := by decide +kernel
theorem d_M_hang_76 : decode (mi_code n_M_hang) 76 = .ok (.iconst 5, 1) := by decide +kernel
theorem d_M_hang_77 : decode (mi_code n_M_hang) 77 = .ok (.iload_n 1, 1) := by decide +kernel
theorem d_M_hang_78 : decode (mi_code n_M_hang) 78 = .ok (.imul, 1) := by decide +kernel
theorem d_M_hang_79 : decode (mi_code n_M_hang) 79 = .ok (.iload_n 2, 1) := by decide +kernel
theorem d_M_hang_80 : decode (mi_code n_M_hang) 80 = .ok (.iadd, 1) := by decide +kernel
theorem d_M_hang_81 : decode (mi_code n_M_hang) 81 = .ok (.iload_n 3, 1) := by decide +kernel
theorem d_M_hang_82 : decode (mi_code n_M_hang) 82 = .ok (.iastore, 1) := by decide +kernel
theorem d_M_hang_83 : decode (mi_code n_M_hang) 83 = .ok (.aload_n 0, 1) := by decide +kernel
theorem d_M_hang_84 : decode (mi_code n_M_hang) 84 = .ok (.getfield 83, 3) := by decide +kernel
theorem d_M_hang_87 : decode (mi_code n_M_hang) 87 = .ok (.iconst 5, 1) := by decide +kernel
theorem d_M_hang_88 : decode (mi_code n_M_hang) 88 = .ok (.iload_n 1, 1) := by decide +kernel
theorem d_M_hang_89 : decode (mi_code n_M_hang) 89 = .ok (.imul, 1) := by decide +kernel
theorem d_M_hang_90 : decode (mi_code n_M_hang) 90 = .ok (.iload_n 2, 1) := by decide +kernel
theorem d_M_hang_91 : decode (mi_code n_M_hang) 91 = .ok (.iadd, 1) := by decide +kernel
theorem d_M_hang_92 : decode (mi_code n_M_hang) 92 = .ok (.iload 4, 2) := by decide +kernel
theorem d_M_hang_94 : decode (mi_code n_M_hang) 94 = .ok (.iastore, 1) := by decide +kernel
theorem d_M_hang_95 : decode (mi_code n_M_hang) 95 = .ok (.return_, 1) := by decide +kernel
theorem d_M_hangs_0 : decode (mi_code n_M_hangs) 0 = .ok (.aload_n 0, 1) := by decide +kernel
theorem d_M_hangs_1 : decode (mi_code n_M_hangs) 1 = .ok (.aload_n 0, 1) := by decide +kernel
theorem d_M_hangs_2 : decode (mi_code n_M_hangs) 2 = .ok (.iload_n 1, 1) := by decide +kernel
theorem d_M_hangs_3 : decode (mi_code n_M_hangs) 3 = .ok (.iload_n 2, 1) := by decide +kernel
theorem d_M_hangs_4 : decode (mi_code n_M_hangs) 4 = .ok (.invokevirtual 202, 3) := by decide +kernel
theorem d_M_hangs_7 : decode (mi_code n_M_hangs) 7 = .ok (.ifCond .eq 15, 3) := by decide +kernel
theorem d_M_hangs_10 : decode (mi_code n_M_hangs) 10 = .ok (.aload_n 0, 1) := by decide +kernel
theorem d_M_hangs_11 : decode (mi_code n_M_hangs) 11 = .ok (.iload_n 3, 1) := by decide +kernel
theorem d_M_hangs_12 : decode (mi_code n_M_hangs) 12 = .ok (.invokevirtual 130, 3) := by decide +kernel
theorem d_M_hangs_15 : decode (mi_code n_M_hangs) 15 = .ok (.ifCond .eq 7, 3) := by decide +kernel
theorem d_M_hangs_18 : decode (mi_code n_M_hangs) 18 = .ok (.iconst 1, 1) := by decide +kernel
theorem d_M_hangs_19 : decode (mi_code n_M_hangs) 19 = .ok (.goto 4, 3) := by decide +kernel
theorem d_M_hangs_22 : decode (mi_code n_M_hangs) 22 = .ok (.iconst 0, 1) := by decide +kernel
theorem d_M_hangs_23 : decode (mi_code n_M_hangs) 23 = .ok (.invokevirtual 138, 3) := by decide +kernel
theorem d_M_hangs_26 : decode (mi_code n_M_hangs) 26 = .ok (.ifCond .eq 17, 3) := by decide +kernel
theorem d_M_hangs_29 : decode (mi_code n_M_hangs) 29 = .ok (.aload_n 0, 1) := by decide +kernel
theorem d_M_hangs_30 : decode (mi_code n_M_hangs) 30 = .ok (.iload_n 1, 1) := by decide +kernel
theorem d_M_hangs_31 : decode (mi_code n_M_hangs) 31 = .ok (.iload_n 2, 1) := by decide +kernel
theorem d_M_hangs_32 : decode (mi_code n_M_hangs) 32 = .ok (.iload_n 3, 1) := by decide +kernel
theorem d_M_hangs_33 : decode (mi_code n_M_hangs) 33 = .ok (.invokevirtual 238, 3) := by decide +kernel
theorem d_M_hangs_36 : decode (mi_code n_M_hangs) 36 = .ok (.ifCond .eq 7, 3) := by decide +kernel
theorem d_M_hangs_39 : decode (mi_code n_M_hangs) 39 = .ok (.iconst 1, 1) := by decide +kernel
theorem d_M_hangs_40 : decode (mi_code n_M_hangs) 40 = .ok (.goto 4, 3) := by decide +kernel
theorem d_M_hangs_43 : decode (mi_code n_M_hangs) 43 = .ok (.iconst 0, 1) := by decide +kernel
theorem d_M_hangs_44 : decode (mi_code n_M_hangs) 44 = .ok (.ireturn, 1) := by decide +kernel
theorem d_M_hangsOn_0 : decode (mi_code n_M_hangsOn) 0 = .ok (.iconst 0, 1) := by decide +kernel
theorem d_M_hangsOn_1 : decode (mi_code n_M_hangsOn) 1 = .ok (.istore 4, 2) := by decide +kernel
theorem d_M_hangsOn_3 : decode (mi_code n_M_hangsOn) 3 = .ok (.iconst 0, 1) := by decide +kernel
theorem d_M_hangsOn_4 : decode (mi_code n_M_hangsOn) 4 = .ok (.istore 5, 2) := by decide +kernel
theorem d_M_hangsOn_6 : decode (mi_code n_M_hangsOn) 6 = .ok (.iload 5, 2) := by decide +kernel
theorem d_M_hangsOn_8 : decode (mi_code n_M_hangsOn) 8 = .ok (.iconst 4, 1) := by decide +kernel
theorem d_M_hangsOn_9 : decode (mi_code n_M_hangsOn) 9 = .ok (.if_icmp .ge 45, 3) := by decide +kernel
theorem d_M_hangsOn_12 : decode (mi_code n_M_hangsOn) 12 = .ok (.aload_n 0, 1) := by decide +kernel
theorem d_M_hangsOn_13 : decode (mi_code n_M_hangsOn) 13 = .ok (.iload_n 1, 1) := by decide +kernel
theorem d_M_hangsOn_14 : decode (mi_code n_M_hangsOn) 14 = .ok (.iload 5, 2) := by decide +kernel
theorem d_M_hangsOn_16 : decode (mi_code n_M_hangsOn) 16 = .ok (.iload_n 2, 1) := by decide +kernel
theorem d_M_hangsOn_17 : decode (mi_code n_M_hangsOn) 17 = .ok (.invokevirtual 218, 3) := by decide +kernel
theorem d_M_hangsOn_20 : decode (mi_code n_M_hangsOn) 20 = .ok (.istore 6, 2) := by decide +kernel
theorem d_M_hangsOn_22 : decode (mi_code n_M_hangsOn) 22 = .ok (.iload 4, 2) := by decide +kernel
theorem d_M_hangsOn_24 : decode (mi_code n_M_hangsOn) 24 = .ok (.iload 6, 2) := by decide +kernel
theorem d_M_hangsOn_26 : decode (mi_code n_M_hangsOn) 26 = .ok (.iconst (-1), 1) := by decide +kernel
theorem d_M_hangsOn_27 : decode (mi_code n_M_hangsOn) 27 = .ok (.if_icmp .eq 17, 3) := by decide +kernel
theorem d_M_hangsOn_30 : decode (mi_code n_M_hangsOn) 30 = .ok (.aload_n 0, 1) := by decide +kernel
theorem d_M_hangsOn_31 : decode (mi_code n_M_hangsOn) 31 = .ok (.iload 6, 2) := by decide +kernel
theorem d_M_hangsOn_33 : decode (mi_code n_M_hangsOn) 33 = .ok (.iload_n 3, 1) := by decide +kernel
theorem d_M_hangsOn_34 : decode (mi_code n_M_hangsOn) 34 = .ok (.invokevirtual 235, 3) := by decide +kernel
theorem d_M_hangsOn_37 : decode (mi_code n_M_hangsOn) 37 = .ok (.ifCond .eq 7, 3) := by decide +kernel
theorem d_M_hangsOn_40 : decode (mi_code n_M_hangsOn) 40 = .ok (.iconst 1, 1) := by decide +kernel
theorem d_M_hangsOn_41 : decode (mi_code n_M_hangsOn) 41 = .ok (.goto 4, 3) := by decide +kernel
theorem d_M_hangsOn_44 : decode (mi_code n_M_hangsOn) 44 = .ok (.iconst 0, 1) := by decide +kernel
theorem d_M_hangsOn_45 : decode (mi_code n_M_hangsOn) 45 = .ok (.ior, 1) := by decide +kernel
theorem d_M_hangsOn_46 : decode (mi_code n_M_hangsOn) 46 = .ok (.istore 4, 2) := by decide +kernel
theorem d_M_hangsOn_48 : decode (mi_code n_M_hangsOn) 48 = .ok (.iinc 5 1, 3) := by decide +kernel
theorem d_M_hangsOn_51 : decode (mi_code n_M_hangsOn) 51 = .ok (.goto (-45), 3) := by decide +kernel
theorem d_M_hangsOn_54 : decode (mi_code n_M_hangsOn) 54 = .ok (.iload 4, 2) := by decide +kernel
theorem d_M_hangsOn_56 : decode (mi_code n_M_hangsOn) 56 = .ok (.ireturn, 1) := by decide +kernel
theorem d_M_has_0 : decode (mi_code n_M_has) 0 = .ok (.aload_n 0, 1) := by decide +kernel
theorem d_M_has_1 : decode (mi_code n_M_has) 1 = .ok (.aload_n 0, 1) := by decide +kernel
theorem d_M_has_2 : decode (mi_code n_M_has) 2 = .ok (.iload_n 1, 1) := by decide +kernel
theorem d_M_has_3 : decode (mi_code n_M_has) 3 = .ok (.iload_n 2, 1) := by decide +kernel
theorem d_M_has_4 : decode (mi_code n_M_has) 4 = .ok (.invokevirtual 199, 3) := by decide +kernel
theorem d_M_has_7 : decode (mi_code n_M_has) 7 = .ok (.ifCond .eq 16, 3) := by decide +kernel
theorem d_M_has_10 : decode (mi_code n_M_has) 10 = .ok (.aload_n 0, 1) := by decide +kernel
theorem d_M_has_11 : decode (mi_code n_M_has) 11 = .ok (.iload_n 1, 1) := by decide +kernel
theorem d_M_has_12 : decode (mi_code n_M_has) 12 = .ok (.iload_n 3, 1) := by decide +kernel
theorem d_M_has_13 : decode (mi_code n_M_has) 13 = .ok (.invokevirtual 202, 3) := by decide +kernel
theorem d_M_has_16 : decode (mi_code n_M_has) 16 = .ok (.ifCond .eq 7, 3) := by decide +kernel
theorem d_M_has_19 : decode (mi_code n_M_has) 19 = .ok (.iconst 1, 1) := by decide +kernel
theorem d_M_has_20 : decode (mi_code n_M_has) 20 = .ok (.goto 4, 3) := by decide +kernel
theorem d_M_has_23 : decode (mi_code n_M_has) 23 = .ok (.iconst 0, 1) := by decide +kernel
theorem d_M_has_24 : decode (mi_code n_M_has) 24 = .ok (.invokevirtual 138, 3) := by decide +kernel
theorem d_M_has_27 : decode (mi_code n_M_has) 27 = .ok (.ifCond .eq 13, 3) := by decide +kernel
theorem d_M_has_30 : decode (mi_code n_M_has) 30 = .ok (.aload_n 0, 1) := by decide +kernel
theorem d_M_has_31 : decode (mi_code n_M_has) 31 = .ok (.iload_n 1, 1) := by decide +kernel
theorem d_M_has_32 : decode (mi_code n_M_has) 32 = .ok (.iload_n 2, 1) := by decide +kernel
theorem d_M_has_33 : decode (mi_code n_M_has) 33 = .ok (.iload_n 3, 1) := by decide +kernel
theorem d_M_has_34 : decode (mi_code n_M_has) 34 = .ok (.invokevirtual 218, 3) := by decide +kernel
theorem d_M_has_37 : decode (mi_code n_M_has) 37 = .ok (.goto 4, 3) := by decide +kernel
theorem d_M_has_40 : decode (mi_code n_M_has) 40 = .ok (.iconst 0, 1) := by decide +kernel
theorem d_M_has_41 : decode (mi_code n_M_has) 41 = .ok (.ireturn, 1) := by decide +kernel
theorem d_M_hasAt_0 : decode (mi_code n_M_hasAt) 0 = .ok (.aload_n 0, 1) := by decide +kernel
theorem d_M_hasAt_1 : decode (mi_code n_M_hasAt) 1 = .ok (.getfield 77, 3) := by decide +kernel
theorem d_M_hasAt_4 : decode (mi_code n_M_hasAt) 4 = .ok (.iconst 4, 1) := by decide +kernel
theorem d_M_hasAt_5 : decode (mi_code n_M_hasAt) 5 = .ok (.iload_n 1, 1) := by decide +kernel
theorem d_M_hasAt_6 : decode (mi_code n_M_hasAt) 6 = .ok (.imul, 1) := by decide +kernel
theorem d_M_hasAt_7 : decode (mi_code n_M_hasAt) 7 = .ok (.iload_n 2, 1) := by decide +kernel
theorem d_M_hasAt_8 : decode (mi_code n_M_hasAt) 8 = .ok (.iadd, 1) := by decide +kernel
theorem d_M_hasAt_9 : decode (mi_code n_M_hasAt) 9 = .ok (.baload, 1) := by decide +kernel
theorem d_M_hasAt_10 : decode (mi_code n_M_hasAt) 10 = .ok (.ifCond .eq 47, 3) := by decide +kernel
theorem d_M_hasAt_13 : decode (mi_code n_M_hasAt) 13 = .ok (.aload_n 0, 1) := by decide +kernel
theorem d_M_hasAt_14 : decode (mi_code n_M_hasAt) 14 = .ok (.iload_n 1, 1) := by decide +kernel
theorem d_M_hasAt_15 : decode (mi_code n_M_hasAt) 15 = .ok (.iload_n 3, 1) := by decide +kernel
theorem d_M_hasAt_16 : decode (mi_code n_M_hasAt) 16 = .ok (.iconst 1, 1) := by decide +kernel
theorem d_M_hasAt_17 : decode (mi_code n_M_hasAt) 17 = .ok (.iadd, 1) := by decide +kernel
theorem d_M_hasAt_18 : decode (mi_code n_M_hasAt) 18 = .ok (.aload_n 0, 1) := by decide +kernel
theorem d_M_hasAt_19 : decode (mi_code n_M_hasAt) 19 = .ok (.getfield 65, 3) := by decide +kernel
theorem d_M_hasAt_22 : decode (mi_code n_M_hasAt) 22 = .ok (.iload_n 1, 1) := by decide +kernel
theorem d_M_hasAt_23 : decode (mi_code n_M_hasAt) 23 = .ok (.iaload, 1) := by decide +kernel
theorem d_M_hasAt_24 : decode (mi_code n_M_hasAt) 24 = .ok (.if_icmp .ge 9, 3) := by decide +kernel
theorem d_M_hasAt_27 : decode (mi_code n_M_hasAt) 27 = .ok (.iload_n 3, 1) := by decide +kernel
theorem d_M_hasAt_28 : decode (mi_code n_M_hasAt) 28 = .ok (.iconst 1, 1) := by decide +kernel
theorem d_M_hasAt_29 : decode (mi_code n_M_hasAt) 29 = .ok (.iadd, 1) := by decide +kernel
theorem d_M_hasAt_30 : decode (mi_code n_M_hasAt) 30 = .ok (.goto 4, 3) := by decide +kernel
theorem d_M_hasAt_33 : decode (mi_code n_M_hasAt) 33 = .ok (.iload_n 3, 1) := by decide +kernel
theorem d_M_hasAt_34 : decode (mi_code n_M_hasAt) 34 = .ok (.invokevirtual 205, 3) := by decide +kernel
theorem d_M_hasAt_37 : decode (mi_code n_M_hasAt) 37 = .ok (.istore 4, 2) := by decide +kernel
theorem d_M_hasAt_39 : decode (mi_code n_M_hasAt) 39 = .ok (.iload 4, 2) := by decide +kernel
theorem d_M_hasAt_41 : decode (mi_code n_M_hasAt) 41 = .ok (.iconst (-1), 1) := by decide +kernel
theorem d_M_hasAt_42 : decode (mi_code n_M_hasAt) 42 = .ok (.if_icmp .ne 7, 3) := by decide +kernel
theorem d_M_hasAt_45 : decode (mi_code n_M_hasAt) 45 = .ok (.iconst (-1), 1) := by decide +kernel
theorem d_M_hasAt_46 : decode (mi_code n_M_hasAt) 46 = .ok (.goto 10, 3) := by decide +kernel
theorem d_M_hasAt_49 : decode (mi_code n_M_hasAt) 49 = .ok (.aload_n 0, 1) := by decide +kernel
theorem d_M_hasAt_50 : decode (mi_code n_M_hasAt) 50 = .ok (.getfield 86, 3) := by decide +kernel
theorem d_M_hasAt_53 : decode (mi_code n_M_hasAt) 53 = .ok (.iload 4, 2) := by decide +kernel
theorem d_M_hasAt_55 : decode (mi_code n_M_hasAt) 55 = .ok (.iaload, 1) := by decide +kernel
theorem d_M_hasAt_56 : decode (mi_code n_M_hasAt) 56 = .ok (.ireturn, 1) := by decide +kernel
theorem d_M_hasAt_57 : decode (mi_code n_M_hasAt) 57 = .ok (.iload_n 3, 1) := by decide +kernel
theorem d_M_hasAt_58 : decode (mi_code n_M_hasAt) 58 = .ok (.istore 4, 2) := by decide +kernel
theorem d_M_hasAt_60 : decode (mi_code n_M_hasAt) 60 = .ok (.iload 4, 2) := by decide +kernel
theorem d_M_hasAt_62 : decode (mi_code n_M_hasAt) 62 = .ok (.ifCond .lt 59, 3) := by decide +kernel
theorem d_M_hasAt_65 : decode (mi_code n_M_hasAt) 65 = .ok (.aload_n 0, 1) := by decide +kernel
theorem d_M_hasAt_66 : decode (mi_code n_M_hasAt) 66 = .ok (.getfield 71, 3) := by decide +kernel
theorem d_M_hasAt_69 : decode (mi_code n_M_hasAt) 69 = .ok (.bipush 24, 2) := by decide +kernel
theorem d_M_hasAt_71 : decode (mi_code n_M_hasAt) 71 = .ok (.iconst 4, 1) := by decide +kernel
theorem d_M_hasAt_72 : decode (mi_code n_M_hasAt) 72 = .ok (.iload_n 1, 1) := by decide +kernel
theorem d_M_hasAt_73 : decode (mi_code n_M_hasAt) 73 = .ok (.imul, 1) := by decide +kernel
theorem d_M_hasAt_74 : decode (mi_code n_M_hasAt) 74 = .ok (.iload_n 2, 1) := by decide +kernel
theorem d_M_hasAt_75 : decode (mi_code n_M_hasAt) 75 = .ok (.iadd, 1) := by decide +kernel
theorem d_M_hasAt_76 : decode (mi_code n_M_hasAt) 76 = .ok (.imul, 1) := by decide +kernel
theorem d_M_hasAt_77 : decode (mi_code n_M_hasAt) 77 = .ok (.iload 4, 2) := by decide +kernel
theorem d_M_hasAt_79 : decode (mi_code n_M_hasAt) 79 = .ok (.iadd, 1) := by decide +kernel
theorem d_M_hasAt_80 : decode (mi_code n_M_hasAt) 80 = .ok (.iaload, 1) := by decide +kernel
theorem d_M_hasAt_81 : decode (mi_code n_M_hasAt) 81 = .ok (.istore 5, 2) := by decide +kernel
theorem d_M_hasAt_83 : decode (mi_code n_M_hasAt) 83 = .ok (.iload 5, 2) := by decide +kernel
theorem d_M_hasAt_85 : decode (mi_code n_M_hasAt) 85 = .ok (.iconst (-1), 1) := by decide +kernel
theorem d_M_hasAt_86 : decode (mi_code n_M_hasAt) 86 = .ok (.bipush 15, 2) := by decide +kernel
theorem d_M_hasAt_88 : decode (mi_code n_M_hasAt) 88 = .ok (.invokestatic 126, 3) := by decide +kernel
theorem d_M_hasAt_91 : decode (mi_code n_M_hasAt) 91 = .ok (.ifCond .eq 6, 3) := by decide +kernel
theorem d_M_hasAt_94 : decode (mi_code n_M_hasAt) 94 = .ok (.iload 5, 2) := by decide +kernel
theorem d_M_hasAt_96 : decode (mi_code n_M_hasAt) 96 = .ok (.ireturn, 1) := by decide +kernel
theorem d_M_hasAt_97 : decode (mi_code n_M_hasAt) 97 = .ok (.iload 4, 2) := by decide +kernel
theorem d_M_hasAt_99 : decode (mi_code n_M_hasAt) 99 = .ok (.iload 5, 2) := by decide +kernel
theorem d_M_hasAt_101 : decode (mi_code n_M_hasAt) 101 = .ok (.bipush (-2), 2) := by decide +kernel
theorem d_M_hasAt_103 : decode (mi_code n_M_hasAt) 103 = .ok (.if_icmp .ne 7, 3) := by decide +kernel
theorem d_M_hasAt_106 : decode (mi_code n_M_hasAt) 106 = .ok (.iconst 1, 1) := by decide +kernel
theorem d_M_hasAt_107 : decode (mi_code n_M_hasAt) 107 = .ok (.goto 8, 3) := by decide +kernel
theorem d_M_hasAt_110 : decode (mi_code n_M_hasAt) 110 = .ok (.iload 5, 2) := by decide +kernel
theorem d_M_hasAt_112 : decode (mi_code n_M_hasAt) 112 = .ok (.bipush 99, 2) := by decide +kernel
theorem d_M_hasAt_114 : decode (mi_code n_M_hasAt) 114 = .ok (.isub, 1) := by decide +kernel
theorem d_M_hasAt_115 : decode (mi_code n_M_hasAt) 115 = .ok (.isub, 1) := by decide +kernel
theorem d_M_hasAt_116 : decode (mi_code n_M_hasAt) 116 = .ok (.istore 4, 2) := by decide +kernel
theorem d_M_hasAt_118 : decode (mi_code n_M_hasAt) 118 = .ok (.goto (-58), 3) := by decide +kernel
theorem d_M_hasAt_121 : decode (mi_code n_M_hasAt) 121 = .ok (.iconst (-1), 1) := by decide +kernel
theorem d_M_hasAt_122 : decode (mi_code n_M_hasAt) 122 = .ok (.ireturn, 1) := by decide +kernel
theorem d_M_hours_0 : decode (mi_code n_M_hours) 0 = .ok (.aload_n 0, 1) := by decide +kernel
theorem d_M_hours_1 : decode (mi_code n_M_hours) 1 = .ok (.iload_n 1, 1) := by decide +kernel
theorem d_M_hours_2 : decode (mi_code n_M_hours) 2 = .ok (.iconst 0, 1) := by decide +kernel
theorem d_M_hours_3 : decode (mi_code n_M_hours) 3 = .ok (.aload_n 0, 1) := by decide +kernel
theorem d_M_hours_4 : decode (mi_code n_M_hours) 4 = .ok (.getfield 241, 3) := by decide +kernel
theorem d_M_hours_7 : decode (mi_code n_M_hours) 7 = .ok (.iconst 1, 1) := by decide +kernel
theorem d_M_hours_8 : decode (mi_code n_M_hours) 8 = .ok (.isub, 1) := by decide +kernel
theorem d_M_hours_9 : decode (mi_code n_M_hours) 9 = .ok (.invokestatic 126, 3) := by decide +kernel
theorem d_M_hours_12 : decode (mi_code n_M_hours) 12 = .ok (.invokevirtual 138, 3) := by decide +kernel
theorem d_M_hours_15 : decode (mi_code n_M_hours) 15 = .ok (.ifCond .ne 5, 3) := by decide +kernel
theorem d_M_hours_18 : decode (mi_code n_M_hours) 18 = .ok (.iconst 0, 1) := by decide +kernel
theorem d_M_hours_19 : decode (mi_code n_M_hours) 19 = .ok (.ireturn, 1) := by decide +kernel
theorem d_M_hours_20 : decode (mi_code n_M_hours) 20 = .ok (.iconst 0, 1) := by decide +kernel
theorem d_M_hours_21 : decode (mi_code n_M_hours) 21 = .ok (.istore_n 2, 1) := by decide +kernel
theorem d_M_hours_22 : decode (mi_code n_M_hours) 22 = .ok (.iload_n 2, 1) := by decide +kernel
theorem d_M_hours_23 : decode (mi_code n_M_hours) 23 = .ok (.aload_n 0, 1) := by decide +kernel
theorem d_M_hours_24 : decode (mi_code n_M_hours) 24 = .ok (.getfield 241, 3) := by decide +kernel
theorem d_M_hours_27 : decode (mi_code n_M_hours) 27 = .ok (.if_icmp .ge 16, 3) := by decide +kernel
theorem d_M_hours_30 : decode (mi_code n_M_hours) 30 = .ok (.aload_n 0, 1) := by decide +kernel
theorem d_M_hours_31 : decode (mi_code n_M_hours) 31 = .ok (.getfield 113, 3) := by decide +kernel
theorem d_M_hours_34 : decode (mi_code n_M_hours) 34 = .ok (.iload_n 2, 1) := by decide +kernel
theorem d_M_hours_35 : decode (mi_code n_M_hours) 35 = .ok (.iconst 0, 1) := by decide +kernel
theorem d_M_hours_36 : decode (mi_code n_M_hours) 36 = .ok (.iastore, 1) := by decide +kernel
theorem d_M_hours_37 : decode (mi_code n_M_hours) 37 = .ok (.iinc 2 1, 3) := by decide +kernel
theorem d_M_hours_40 : decode (mi_code n_M_hours) 40 = .ok (.goto (-18), 3) := by decide +kernel
theorem d_M_hours_43 : decode (mi_code n_M_hours) 43 = .ok (.iconst 0, 1) := by decide +kernel
theorem d_M_hours_44 : decode (mi_code n_M_hours) 44 = .ok (.istore_n 2, 1) := by decide +kernel
theorem d_M_hours_45 : decode (mi_code n_M_hours) 45 = .ok (.iload_n 2, 1) := by decide +kernel
theorem d_M_hours_46 : decode (mi_code n_M_hours) 46 = .ok (.aload_n 0, 1) := by decide +kernel
theorem d_M_hours_47 : decode (mi_code n_M_hours) 47 = .ok (.getfield 123, 3) := by decide +kernel
theorem d_M_hours_50 : decode (mi_code n_M_hours) 50 = .ok (.if_icmp .ge 102, 3) := by decide +kernel
theorem d_M_hours_53 : decode (mi_code n_M_hours) 53 = .ok (.aload_n 0, 1) := by decide +kernel
theorem d_M_hours_54 : decode (mi_code n_M_hours) 54 = .ok (.getfield 7, 3) := by decide +kernel
theorem d_M_hours_57 : decode (mi_code n_M_hours) 57 = .ok (.iload_n 2, 1) := by decide +kernel
theorem d_M_hours_58 : decode (mi_code n_M_hours) 58 = .ok (.iaload, 1) := by decide +kernel
theorem d_M_hours_59 : decode (mi_code n_M_hours) 59 = .ok (.iconst (-1), 1) := by decide +kernel
theorem d_M_hours_60 : decode (mi_code n_M_hours) 60 = .ok (.if_icmp .ne 86, 3) := by decide +kernel
theorem d_M_hours_63 : decode (mi_code n_M_hours) 63 = .ok (.aload_n 0, 1) := by decide +kernel
theorem d_M_hours_64 : decode (mi_code n_M_hours) 64 = .ok (.getfield 26, 3) := by decide +kernel
theorem d_M_hours_67 : decode (mi_code n_M_hours) 67 = .ok (.iload_n 2, 1) := by decide +kernel
theorem d_M_hours_68 : decode (mi_code n_M_hours) 68 = .ok (.iaload, 1) := by decide +kernel
theorem d_M_hours_69 : decode (mi_code n_M_hours) 69 = .ok (.ifCond .le 77, 3) := by decide +kernel
theorem d_M_hours_72 : decode (mi_code n_M_hours) 72 = .ok (.iconst 0, 1) := by decide +kernel
theorem d_M_hours_73 : decode (mi_code n_M_hours) 73 = .ok (.istore_n 3, 1) := by decide +kernel
theorem d_M_hours_74 : decode (mi_code n_M_hours) 74 = .ok (.iconst 1, 1) := by decide +kernel
theorem d_M_hours_75 : decode (mi_code n_M_hours) 75 = .ok (.istore 4, 2) := by decide +kernel
theorem d_M_hours_77 : decode (mi_code n_M_hours) 77 = .ok (.iload 4, 2) := by decide +kernel
theorem d_M_hours_79 : decode (mi_code n_M_hours) 79 = .ok (.aload_n 0, 1) := by decide +kernel
theorem d_M_hours_80 : decode (mi_code n_M_hours) 80 = .ok (.getfield 241, 3) := by decide +kernel
theorem d_M_hours_83 : decode (mi_code n_M_hours) 83 = .ok (.if_icmp .ge 32, 3) := by decide +kernel
theorem d_M_hours_86 : decode (mi_code n_M_hours) 86 = .ok (.aload_n 0, 1) := by decide +kernel
theorem d_M_hours_87 : decode (mi_code n_M_hours) 87 = .ok (.getfield 113, 3) := by decide +kernel
theorem d_M_hours_90 : decode (mi_code n_M_hours) 90 = .ok (.iload 4, 2) := by decide +kernel
theorem d_M_hours_92 : decode (mi_code n_M_hours) 92 = .ok (.iaload, 1) := by decide +kernel
theorem d_M_hours_93 : decode (mi_code n_M_hours) 93 = .ok (.aload_n 0, 1) := by decide +kernel
theorem d_M_hours_94 : decode (mi_code n_M_hours) 94 = .ok (.getfield 113, 3) := by decide +kernel
theorem d_M_hours_97 : decode (mi_code n_M_hours) 97 = .ok (.iload_n 3, 1) := by decide +kernel
theorem d_M_hours_98 : decode (mi_code n_M_hours) 98 = .ok (.iaload, 1) := by decide +kernel
theorem d_M_hours_99 : decode (mi_code n_M_hours) 99 = .ok (.if_icmp .ge 8, 3) := by decide +kernel
theorem d_M_hours_102 : decode (mi_code n_M_hours) 102 = .ok (.iload 4, 2) := by decide +kernel
theorem d_M_hours_104 : decode (mi_code n_M_hours) 104 = .ok (.goto 4, 3) := by decide +kernel
theorem d_M_hours_107 : decode (mi_code n_M_hours) 107 = .ok (.iload_n 3, 1) := by decide +kernel
theorem d_M_hours_108 : decode (mi_code n_M_hours) 108 = .ok (.istore_n 3, 1) := by decide +kernel
theorem d_M_hours_109 : decode (mi_code n_M_hours) 109 = .ok (.iinc 4 1, 3) := by decide +kernel
theorem d_M_hours_112 : decode (mi_code n_M_hours) 112 = .ok (.goto (-35), 3) := by decide +kernel
theorem d_M_hours_115 : decode (mi_code n_M_hours) 115 = .ok (.aload_n 0, 1) := by decide +kernel
theorem d_M_hours_116 : decode (mi_code n_M_hours) 116 = .ok (.getfield 113, 3) := by decide +kernel
theorem d_M_hours_119 : decode (mi_code n_M_hours) 119 = .ok (.iload_n 3, 1) := by decide +kernel
theorem d_M_hours_120 : decode (mi_code n_M_hours) 120 = .ok (.dup2, 1) := by decide +kernel
theorem d_M_hours_121 : decode (mi_code n_M_hours) 121 = .ok (.iaload, 1) := by decide +kernel
theorem d_M_hours_122 : decode (mi_code n_M_hours) 122 = .ok (.aload_n 0, 1) := by decide +kernel
theorem d_M_hours_123 : decode (mi_code n_M_hours) 123 = .ok (.getfield 26, 3) := by decide +kernel
theorem d_M_hours_126 : decode (mi_code n_M_hours) 126 = .ok (.iload_n 2, 1) := by decide +kernel
theorem d_M_hours_127 : decode (mi_code n_M_hours) 127 = .ok (.iaload, 1) := by decide +kernel
theorem d_M_hours_128 : decode (mi_code n_M_hours) 128 = .ok (.aload_n 0, 1) := by decide +kernel
theorem d_M_hours_129 : decode (mi_code n_M_hours) 129 = .ok (.getfield 110, 3) := by decide +kernel
theorem d_M_hours_132 : decode (mi_code n_M_hours) 132 = .ok (.iload_n 3, 1) := by decide +kernel
theorem d_M_hours_133 : decode (mi_code n_M_hours) 133 = .ok (.iaload, 1) := by decide +kernel
theorem d_M_hours_134 : decode (mi_code n_M_hours) 134 = .ok (.iadd, 1) := by decide +kernel
theorem d_M_hours_135 : decode (mi_code n_M_hours) 135 = .ok (.iconst 1, 1) := by decide +kernel
theorem d_M_hours_136 : decode (mi_code n_M_hours) 136 = .ok (.isub, 1) := by decide +kernel
theorem d_M_hours_137 : decode (mi_code n_M_hours) 137 = .ok (.aload_n 0, 1) := by decide +kernel
theorem d_M_hours_138 : decode (mi_code n_M_hours) 138 = .ok (.getfield 110, 3) := by decide +kernel
theorem d_M_hours_141 : decode (mi_code n_M_hours) 141 = .ok (.iload_n 3, 1) := by decide +kernel
theorem d_M_hours_142 : decode (mi_code n_M_hours) 142 = .ok (.iaload, 1) := by decide +kernel
theorem d_M_hours_143 : decode (mi_code n_M_hours) 143 = .ok (.idiv, 1) := by decide +kernel
theorem d_M_hours_144 : decode (mi_code n_M_hours) 144 = .ok (.iadd, 1) := by decide +kernel
theorem d_M_hours_145 : decode (mi_code n_M_hours) 145 = .ok (.iastore, 1) := by decide +kernel
theorem d_M_hours_146 : decode (mi_code n_M_hours) 146 = .ok (.iinc 2 1, 3) := by decide +kernel
theorem d_M_hours_149 : decode (mi_code n_M_hours) 149 = .ok (.goto (-104), 3) := by decide +kernel
theorem d_M_hours_152 : decode (mi_code n_M_hours) 152 = .ok (.aload_n 0, 1) := by decide +kernel
theorem d_M_hours_153 : decode (mi_code n_M_hours) 153 = .ok (.getfield 113, 3) := by decide +kernel
theorem d_M_hours_156 : decode (mi_code n_M_hours) 156 = .ok (.iload_n 1, 1) := by decide +kernel
theorem d_M_hours_157 : decode (mi_code n_M_hours) 157 = .ok (.iaload, 1) := by decide +kernel
theorem d_M_hours_158 : decode (mi_code n_M_hours) 158 = .ok (.ireturn, 1) := by decide +kernel
theorem d_M_in_0 : decode (mi_code n_M_in) 0 = .ok (.iload_n 0, 1) := by decide +kernel
theorem d_M_in_1 : decode (mi_code n_M_in) 1 = .ok (.iload_n 1, 1) := by decide +kernel
theorem d_M_in_2 : decode (mi_code n_M_in) 2 = .ok (.if_icmp .lt 12, 3) := by decide +kernel
theorem d_M_in_5 : decode (mi_code n_M_in) 5 = .ok (.iload_n 0, 1) := by decide +kernel
theorem d_M_in_6 : decode (mi_code n_M_in) 6 = .ok (.iload_n 2, 1) := by decide +kernel
theorem d_M_in_7 : decode (mi_code n_M_in) 7 = .ok (.if_icmp .gt 7, 3) := by decide +kernel
theorem d_M_in_10 : decode (mi_code n_M_in) 10 = .ok (.iconst 1, 1) := by decide +kernel
theorem d_M_in_11 : decode (mi_code n_M_in) 11 = .ok (.goto 4, 3) := by decide +kernel
theorem d_M_in_14 : decode (mi_code n_M_in) 14 = .ok (.iconst 0, 1) := by decide +kernel
theorem d_M_in_15 : decode (mi_code n_M_in) 15 = .ok (.ireturn, 1) := by decide +kernel
theorem d_M_init_0 : decode (mi_code n_M_init) 0 = .ok (.aload_n 0, 1) := by decide +kernel
theorem d_M_init_1 : decode (mi_code n_M_init) 1 = .ok (.invokespecial 1, 3) := by decide +kernel
theorem d_M_init_4 : decode (mi_code n_M_init) 4 = .ok (.aload_n 0, 1) := by decide +kernel
theorem d_M_init_5 : decode (mi_code n_M_init) 5 = .ok (.bipush 16, 2) := by decide +kernel
theorem d_M_init_7 : decode (mi_code n_M_init) 7 = .ok (.newarray .int, 2) := by decide +kernel
theorem d_M_init_9 : decode (mi_code n_M_init) 9 = .ok (.putfield 7, 3) := by decide +kernel
theorem d_M_init_12 : decode (mi_code n_M_init) 12 = .ok (.aload_n 0, 1) := by decide +kernel
theorem d_M_init_13 : decode (mi_code n_M_init) 13 = .ok (.bipush 16, 2) := by decide +kernel
theorem d_M_init_15 : decode (mi_code n_M_init) 15 = .ok (.newarray .int, 2) := by decide +kernel
theorem d_M_init_17 : decode (mi_code n_M_init) 17 = .ok (.putfield 13, 3) := by decide +kernel
theorem d_M_init_20 : decode (mi_code n_M_init) 20 = .ok (.aload_n 0, 1) := by decide +kernel
theorem d_M_init_21 : decode (mi_code n_M_init) 21 = .ok (.bipush 16, 2) := by decide +kernel
theorem d_M_init_23 : decode (mi_code n_M_init) 23 = .ok (.newarray .int, 2) := by decide +kernel
theorem d_M_init_25 : decode (mi_code n_M_init) 25 = .ok (.putfield 16, 3) := by decide +kernel
theorem d_M_init_28 : decode (mi_code n_M_init) 28 = .ok (.aload_n 0, 1) := by decide +kernel
theorem d_M_init_29 : decode (mi_code n_M_init) 29 = .ok (.bipush 16, 2) := by decide +kernel
theorem d_M_init_31 : decode (mi_code n_M_init) 31 = .ok (.newarray .int, 2) := by decide +kernel
theorem d_M_init_33 : decode (mi_code n_M_init) 33 = .ok (.putfield 19, 3) := by decide +kernel
theorem d_M_init_36 : decode (mi_code n_M_init) 36 = .ok (.aload_n 0, 1) := by decide +kernel
theorem d_M_init_37 : decode (mi_code n_M_init) 37 = .ok (.bipush 16, 2) := by decide +kernel
theorem d_M_init_39 : decode (mi_code n_M_init) 39 = .ok (.newarray .boolean, 2) := by decide +kernel
theorem d_M_init_41 : decode (mi_code n_M_init) 41 = .ok (.putfield 22, 3) := by decide +kernel
theorem d_M_init_44 : decode (mi_code n_M_init) 44 = .ok (.aload_n 0, 1) := by decide +kernel
theorem d_M_init_45 : decode (mi_code n_M_init) 45 = .ok (.bipush 16, 2) := by decide +kernel
theorem d_M_init_47 : decode (mi_code n_M_init) 47 = .ok (.newarray .int, 2) := by decide +kernel
theorem d_M_init_49 : decode (mi_code n_M_init) 49 = .ok (.putfield 26, 3) := by decide +kernel
theorem d_M_init_52 : decode (mi_code n_M_init) 52 = .ok (.aload_n 0, 1) := by decide +kernel
theorem d_M_init_53 : decode (mi_code n_M_init) 53 = .ok (.sipush 128, 3) := by decide +kernel
theorem d_M_init_56 : decode (mi_code n_M_init) 56 = .ok (.newarray .int, 2) := by decide +kernel
theorem d_M_init_58 : decode (mi_code n_M_init) 58 = .ok (.putfield 29, 3) := by decide +kernel
theorem d_M_init_61 : decode (mi_code n_M_init) 61 = .ok (.aload_n 0, 1) := by decide +kernel
theorem d_M_init_62 : decode (mi_code n_M_init) 62 = .ok (.sipush 128, 3) := by decide +kernel
theorem d_M_init_65 : decode (mi_code n_M_init) 65 = .ok (.newarray .int, 2) := by decide +kernel
theorem d_M_init_67 : decode (mi_code n_M_init) 67 = .ok (.putfield 32, 3) := by decide +kernel
theorem d_M_init_70 : decode (mi_code n_M_init) 70 = .ok (.aload_n 0, 1) := by decide +kernel
theorem d_M_init_71 : decode (mi_code n_M_init) 71 = .ok (.sipush 512, 3) := by decide +kernel
theorem d_M_init_74 : decode (mi_code n_M_init) 74 = .ok (.newarray .int, 2) := by decide +kernel
theorem d_M_init_76 : decode (mi_code n_M_init) 76 = .ok (.putfield 35, 3) := by decide +kernel
theorem d_M_init_79 : decode (mi_code n_M_init) 79 = .ok (.aload_n 0, 1) := by decide +kernel
theorem d_M_init_80 : decode (mi_code n_M_init) 80 = .ok (.bipush 16, 2) := by decide +kernel
theorem d_M_init_82 : decode (mi_code n_M_init) 82 = .ok (.newarray .int, 2) := by decide +kernel
theorem d_M_init_84 : decode (mi_code n_M_init) 84 = .ok (.putfield 38, 3) := by decide +kernel
theorem d_M_init_87 : decode (mi_code n_M_init) 87 = .ok (.aload_n 0, 1) := by decide +kernel
theorem d_M_init_88 : decode (mi_code n_M_init) 88 = .ok (.bipush 96, 2) := by decide +kernel
theorem d_M_init_90 : decode (mi_code n_M_init) 90 = .ok (.newarray .int, 2) := by decide +kernel
theorem d_M_init_92 : decode (mi_code n_M_init) 92 = .ok (.putfield 41, 3) := by decide +kernel
theorem d_M_init_95 : decode (mi_code n_M_init) 95 = .ok (.aload_n 0, 1) := by decide +kernel
theorem d_M_init_96 : decode (mi_code n_M_init) 96 = .ok (.bipush 96, 2) := by decide +kernel
theorem d_M_init_98 : decode (mi_code n_M_init) 98 = .ok (.newarray .int, 2) := by decide +kernel
theorem d_M_init_100 : decode (mi_code n_M_init) 100 = .ok (.putfield 44, 3) := by decide +kernel
theorem d_M_init_103 : decode (mi_code n_M_init) 103 = .ok (.aload_n 0, 1) := by decide +kernel
theorem d_M_init_104 : decode (mi_code n_M_init) 104 = .ok (.bipush 16, 2) := by decide +kernel
theorem d_M_init_106 : decode (mi_code n_M_init) 106 = .ok (.newarray .boolean, 2) := by decide +kernel
