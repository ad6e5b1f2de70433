/-! decode rows of the law, by program: 5 -/
theorem dW_law_2188 : decode (zby mW_law) 2188 = .ok (.aload_n 1, 1) := by decide +kernel
theorem dW_law_2189 : decode (zby mW_law) 2189 = .ok (.aload_n 0, 1) := by decide +kernel
theorem dW_law_2190 : decode (zby mW_law) 2190 = .ok (.iload 5, 2) := by decide +kernel
theorem dW_law_2192 : decode (zby mW_law) 2192 = .ok (.iconst 1, 1) := by decide +kernel
theorem dW_law_2193 : decode (zby mW_law) 2193 = .ok (.iadd, 1) := by decide +kernel
theorem dW_law_2194 : decode (zby mW_law) 2194 = .ok (.iaload, 1) := by decide +kernel
theorem dW_law_2195 : decode (zby mW_law) 2195 = .ok (.aload_n 3, 1) := by decide +kernel
theorem dW_law_2196 : decode (zby mW_law) 2196 = .ok (.invokestatic 284, 3) := by decide +kernel
theorem dW_law_2199 : decode (zby mW_law) 2199 = .ok (.istore 6, 2) := by decide +kernel
theorem dW_law_2201 : decode (zby mW_law) 2201 = .ok (.aload_n 2, 1) := by decide +kernel
theorem dW_law_2202 : decode (zby mW_law) 2202 = .ok (.aload_n 0, 1) := by decide +kernel
theorem dW_law_2203 : decode (zby mW_law) 2203 = .ok (.iload 5, 2) := by decide +kernel
theorem dW_law_2205 : decode (zby mW_law) 2205 = .ok (.iconst 1, 1) := by decide +kernel
theorem dW_law_2206 : decode (zby mW_law) 2206 = .ok (.iadd, 1) := by decide +kernel
theorem dW_law_2207 : decode (zby mW_law) 2207 = .ok (.iaload, 1) := by decide +kernel
theorem dW_law_2208 : decode (zby mW_law) 2208 = .ok (.invokevirtual 286, 3) := by decide +kernel
theorem dW_law_2211 : decode (zby mW_law) 2211 = .ok (.istore 7, 2) := by decide +kernel
theorem dW_law_2213 : decode (zby mW_law) 2213 = .ok (.aload_n 2, 1) := by decide +kernel
theorem dW_law_2214 : decode (zby mW_law) 2214 = .ok (.invokevirtual 183, 3) := by decide +kernel
theorem dW_law_2217 : decode (zby mW_law) 2217 = .ok (.iload 6, 2) := by decide +kernel
theorem dW_law_2219 : decode (zby mW_law) 2219 = .ok (.if_icmp .eq 5, 3) := by decide +kernel
theorem dW_law_2224 : decode (zby mW_law) 2224 = .ok (.iload 6, 2) := by decide +kernel
theorem dW_law_2226 : decode (zby mW_law) 2226 = .ok (.ifCond .ne 15, 3) := by decide +kernel
theorem dW_law_2229 : decode (zby mW_law) 2229 = .ok (.aload_n 3, 1) := by decide +kernel
theorem dW_law_2230 : decode (zby mW_law) 2230 = .ok (.iconst 0, 1) := by decide +kernel
theorem dW_law_2231 : decode (zby mW_law) 2231 = .ok (.laload, 1) := by decide +kernel
theorem dW_law_2232 : decode (zby mW_law) 2232 = .ok (.iload 7, 2) := by decide +kernel
theorem dW_law_2234 : decode (zby mW_law) 2234 = .ok (.i2l, 1) := by decide +kernel
theorem dW_law_2235 : decode (zby mW_law) 2235 = .ok (.lcmp, 1) := by decide +kernel
theorem dW_law_2236 : decode (zby mW_law) 2236 = .ok (.ifCond .eq 5, 3) := by decide +kernel
theorem dW_law_2241 : decode (zby mW_law) 2241 = .ok (.goto 1019, 3) := by decide +kernel
theorem dW_law_2244 : decode (zby mW_law) 2244 = .ok (.aload_n 1, 1) := by decide +kernel
theorem dW_law_2245 : decode (zby mW_law) 2245 = .ok (.aload_n 3, 1) := by decide +kernel
theorem dW_law_2246 : decode (zby mW_law) 2246 = .ok (.invokestatic 287, 3) := by decide +kernel
theorem dW_law_2249 : decode (zby mW_law) 2249 = .ok (.istore 6, 2) := by decide +kernel
theorem dW_law_2251 : decode (zby mW_law) 2251 = .ok (.aload_n 2, 1) := by decide +kernel
theorem dW_law_2252 : decode (zby mW_law) 2252 = .ok (.invokevirtual 289, 3) := by decide +kernel
theorem dW_law_2255 : decode (zby mW_law) 2255 = .ok (.istore 7, 2) := by decide +kernel
theorem dW_law_2257 : decode (zby mW_law) 2257 = .ok (.aload_n 2, 1) := by decide +kernel
theorem dW_law_2258 : decode (zby mW_law) 2258 = .ok (.invokevirtual 183, 3) := by decide +kernel
theorem dW_law_2261 : decode (zby mW_law) 2261 = .ok (.iload 6, 2) := by decide +kernel
theorem dW_law_2263 : decode (zby mW_law) 2263 = .ok (.if_icmp .eq 5, 3) := by decide +kernel
theorem dW_law_2268 : decode (zby mW_law) 2268 = .ok (.iload 6, 2) := by decide +kernel
theorem dW_law_2270 : decode (zby mW_law) 2270 = .ok (.ifCond .ne 15, 3) := by decide +kernel
theorem dW_law_2273 : decode (zby mW_law) 2273 = .ok (.aload_n 3, 1) := by decide +kernel
theorem dW_law_2274 : decode (zby mW_law) 2274 = .ok (.iconst 0, 1) := by decide +kernel
theorem dW_law_2275 : decode (zby mW_law) 2275 = .ok (.laload, 1) := by decide +kernel
theorem dW_law_2276 : decode (zby mW_law) 2276 = .ok (.iload 7, 2) := by decide +kernel
theorem dW_law_2278 : decode (zby mW_law) 2278 = .ok (.i2l, 1) := by decide +kernel
theorem dW_law_2279 : decode (zby mW_law) 2279 = .ok (.lcmp, 1) := by decide +kernel
theorem dW_law_2280 : decode (zby mW_law) 2280 = .ok (.ifCond .eq 5, 3) := by decide +kernel
theorem dW_law_2285 : decode (zby mW_law) 2285 = .ok (.goto 975, 3) := by decide +kernel
theorem dW_law_2288 : decode (zby mW_law) 2288 = .ok (.aload_n 1, 1) := by decide +kernel
theorem dW_law_2289 : decode (zby mW_law) 2289 = .ok (.aload_n 0, 1) := by decide +kernel
theorem dW_law_2290 : decode (zby mW_law) 2290 = .ok (.iload 5, 2) := by decide +kernel
theorem dW_law_2292 : decode (zby mW_law) 2292 = .ok (.iconst 1, 1) := by decide +kernel
theorem dW_law_2293 : decode (zby mW_law) 2293 = .ok (.iadd, 1) := by decide +kernel
theorem dW_law_2294 : decode (zby mW_law) 2294 = .ok (.iaload, 1) := by decide +kernel
theorem dW_law_2295 : decode (zby mW_law) 2295 = .ok (.aload_n 0, 1) := by decide +kernel
theorem dW_law_2296 : decode (zby mW_law) 2296 = .ok (.iload 5, 2) := by decide +kernel
theorem dW_law_2298 : decode (zby mW_law) 2298 = .ok (.iconst 2, 1) := by decide +kernel
theorem dW_law_2299 : decode (zby mW_law) 2299 = .ok (.iadd, 1) := by decide +kernel
theorem dW_law_2300 : decode (zby mW_law) 2300 = .ok (.iaload, 1) := by decide +kernel
theorem dW_law_2301 : decode (zby mW_law) 2301 = .ok (.aload_n 3, 1) := by decide +kernel
theorem dW_law_2302 : decode (zby mW_law) 2302 = .ok (.invokestatic 290, 3) := by decide +kernel
theorem dW_law_2305 : decode (zby mW_law) 2305 = .ok (.istore 6, 2) := by decide +kernel
theorem dW_law_2307 : decode (zby mW_law) 2307 = .ok (.aload_n 2, 1) := by decide +kernel
theorem dW_law_2308 : decode (zby mW_law) 2308 = .ok (.aload_n 0, 1) := by decide +kernel
theorem dW_law_2309 : decode (zby mW_law) 2309 = .ok (.iload 5, 2) := by decide +kernel
theorem dW_law_2311 : decode (zby mW_law) 2311 = .ok (.iconst 1, 1) := by decide +kernel
theorem dW_law_2312 : decode (zby mW_law) 2312 = .ok (.iadd, 1) := by decide +kernel
theorem dW_law_2313 : decode (zby mW_law) 2313 = .ok (.iaload, 1) := by decide +kernel
theorem dW_law_2314 : decode (zby mW_law) 2314 = .ok (.aload_n 0, 1) := by decide +kernel
theorem dW_law_2315 : decode (zby mW_law) 2315 = .ok (.iload 5, 2) := by decide +kernel
theorem dW_law_2317 : decode (zby mW_law) 2317 = .ok (.iconst 2, 1) := by decide +kernel
theorem dW_law_2318 : decode (zby mW_law) 2318 = .ok (.iadd, 1) := by decide +kernel
theorem dW_law_2319 : decode (zby mW_law) 2319 = .ok (.iaload, 1) := by decide +kernel
theorem dW_law_2320 : decode (zby mW_law) 2320 = .ok (.invokevirtual 292, 3) := by decide +kernel
theorem dW_law_2323 : decode (zby mW_law) 2323 = .ok (.istore 7, 2) := by decide +kernel
theorem dW_law_2325 : decode (zby mW_law) 2325 = .ok (.aload_n 2, 1) := by decide +kernel
theorem dW_law_2326 : decode (zby mW_law) 2326 = .ok (.invokevirtual 183, 3) := by decide +kernel
theorem dW_law_2329 : decode (zby mW_law) 2329 = .ok (.iload 6, 2) := by decide +kernel
theorem dW_law_2331 : decode (zby mW_law) 2331 = .ok (.if_icmp .eq 5, 3) := by decide +kernel
theorem dW_law_2336 : decode (zby mW_law) 2336 = .ok (.iload 6, 2) := by decide +kernel
theorem dW_law_2338 : decode (zby mW_law) 2338 = .ok (.ifCond .ne 15, 3) := by decide +kernel
theorem dW_law_2341 : decode (zby mW_law) 2341 = .ok (.aload_n 3, 1) := by decide +kernel
theorem dW_law_2342 : decode (zby mW_law) 2342 = .ok (.iconst 0, 1) := by decide +kernel
theorem dW_law_2343 : decode (zby mW_law) 2343 = .ok (.laload, 1) := by decide +kernel
theorem dW_law_2344 : decode (zby mW_law) 2344 = .ok (.iload 7, 2) := by decide +kernel
theorem dW_law_2346 : decode (zby mW_law) 2346 = .ok (.i2l, 1) := by decide +kernel
theorem dW_law_2347 : decode (zby mW_law) 2347 = .ok (.lcmp, 1) := by decide +kernel
theorem dW_law_2348 : decode (zby mW_law) 2348 = .ok (.ifCond .eq 5, 3) := by decide +kernel
theorem dW_law_2353 : decode (zby mW_law) 2353 = .ok (.goto 907, 3) := by decide +kernel
theorem dW_law_2356 : decode (zby mW_law) 2356 = .ok (.aload_n 1, 1) := by decide +kernel
theorem dW_law_2357 : decode (zby mW_law) 2357 = .ok (.aload_n 0, 1) := by decide +kernel
theorem dW_law_2358 : decode (zby mW_law) 2358 = .ok (.iload 5, 2) := by decide +kernel
theorem dW_law_2360 : decode (zby mW_law) 2360 = .ok (.iconst 1, 1) := by decide +kernel
theorem dW_law_2361 : decode (zby mW_law) 2361 = .ok (.iadd, 1) := by decide +kernel
theorem dW_law_2362 : decode (zby mW_law) 2362 = .ok (.iaload, 1) := by decide +kernel
theorem dW_law_2363 : decode (zby mW_law) 2363 = .ok (.aload_n 3, 1) := by decide +kernel
theorem dW_law_2364 : decode (zby mW_law) 2364 = .ok (.invokestatic 293, 3) := by decide +kernel
theorem dW_law_2367 : decode (zby mW_law) 2367 = .ok (.istore 6, 2) := by decide +kernel
theorem dW_law_2369 : decode (zby mW_law) 2369 = .ok (.aload_n 2, 1) := by decide +kernel
theorem dW_law_2370 : decode (zby mW_law) 2370 = .ok (.aload_n 0, 1) := by decide +kernel
theorem dW_law_2371 : decode (zby mW_law) 2371 = .ok (.iload 5, 2) := by decide +kernel
theorem dW_law_2373 : decode (zby mW_law) 2373 = .ok (.iconst 1, 1) := by decide +kernel
theorem dW_law_2374 : decode (zby mW_law) 2374 = .ok (.iadd, 1) := by decide +kernel
theorem dW_law_2375 : decode (zby mW_law) 2375 = .ok (.iaload, 1) := by decide +kernel
theorem dW_law_2376 : decode (zby mW_law) 2376 = .ok (.invokevirtual 295, 3) := by decide +kernel
theorem dW_law_2379 : decode (zby mW_law) 2379 = .ok (.istore 7, 2) := by decide +kernel
theorem dW_law_2381 : decode (zby mW_law) 2381 = .ok (.aload_n 2, 1) := by decide +kernel
theorem dW_law_2382 : decode (zby mW_law) 2382 = .ok (.invokevirtual 183, 3) := by decide +kernel
theorem dW_law_2385 : decode (zby mW_law) 2385 = .ok (.iload 6, 2) := by decide +kernel
theorem dW_law_2387 : decode (zby mW_law) 2387 = .ok (.if_icmp .eq 5, 3) := by decide +kernel
theorem dW_law_2392 : decode (zby mW_law) 2392 = .ok (.iload 6, 2) := by decide +kernel
theorem dW_law_2394 : decode (zby mW_law) 2394 = .ok (.ifCond .ne 15, 3) := by decide +kernel
theorem dW_law_2397 : decode (zby mW_law) 2397 = .ok (.aload_n 3, 1) := by decide +kernel
theorem dW_law_2398 : decode (zby mW_law) 2398 = .ok (.iconst 0, 1) := by decide +kernel
theorem dW_law_2399 : decode (zby mW_law) 2399 = .ok (.laload, 1) := by decide +kernel
theorem dW_law_2400 : decode (zby mW_law) 2400 = .ok (.iload 7, 2) := by decide +kernel
theorem dW_law_2402 : decode (zby mW_law) 2402 = .ok (.i2l, 1) := by decide +kernel
theorem dW_law_2403 : decode (zby mW_law) 2403 = .ok (.lcmp, 1) := by decide +kernel
theorem dW_law_2404 : decode (zby mW_law) 2404 = .ok (.ifCond .eq 5, 3) := by decide +kernel
theorem dW_law_2409 : decode (zby mW_law) 2409 = .ok (.goto 851, 3) := by decide +kernel
theorem dW_law_2412 : decode (zby mW_law) 2412 = .ok (.aload_n 1, 1) := by decide +kernel
theorem dW_law_2413 : decode (zby mW_law) 2413 = .ok (.aload_n 0, 1) := by decide +kernel
theorem dW_law_2414 : decode (zby mW_law) 2414 = .ok (.iload 5, 2) := by decide +kernel
theorem dW_law_2416 : decode (zby mW_law) 2416 = .ok (.iconst 1, 1) := by decide +kernel
theorem dW_law_2417 : decode (zby mW_law) 2417 = .ok (.iadd, 1) := by decide +kernel
theorem dW_law_2418 : decode (zby mW_law) 2418 = .ok (.iaload, 1) := by decide +kernel
theorem dW_law_2419 : decode (zby mW_law) 2419 = .ok (.aload_n 3, 1) := by decide +kernel
theorem dW_law_2420 : decode (zby mW_law) 2420 = .ok (.invokestatic 296, 3) := by decide +kernel
theorem dW_law_2423 : decode (zby mW_law) 2423 = .ok (.istore 6, 2) := by decide +kernel
theorem dW_law_2425 : decode (zby mW_law) 2425 = .ok (.aload_n 2, 1) := by decide +kernel
theorem dW_law_2426 : decode (zby mW_law) 2426 = .ok (.aload_n 0, 1) := by decide +kernel
theorem dW_law_2427 : decode (zby mW_law) 2427 = .ok (.iload 5, 2) := by decide +kernel
theorem dW_law_2429 : decode (zby mW_law) 2429 = .ok (.iconst 1, 1) := by decide +kernel
theorem dW_law_2430 : decode (zby mW_law) 2430 = .ok (.iadd, 1) := by decide +kernel
theorem dW_law_2431 : decode (zby mW_law) 2431 = .ok (.iaload, 1) := by decide +kernel
theorem dW_law_2432 : decode (zby mW_law) 2432 = .ok (.invokevirtual 298, 3) := by decide +kernel
theorem dW_law_2435 : decode (zby mW_law) 2435 = .ok (.istore 7, 2) := by decide +kernel
theorem dW_law_2437 : decode (zby mW_law) 2437 = .ok (.aload_n 2, 1) := by decide +kernel
theorem dW_law_2438 : decode (zby mW_law) 2438 = .ok (.invokevirtual 183, 3) := by decide +kernel
theorem dW_law_2441 : decode (zby mW_law) 2441 = .ok (.iload 6, 2) := by decide +kernel
theorem dW_law_2443 : decode (zby mW_law) 2443 = .ok (.if_icmp .eq 5, 3) := by decide +kernel
theorem dW_law_2448 : decode (zby mW_law) 2448 = .ok (.iload 6, 2) := by decide +kernel
theorem dW_law_2450 : decode (zby mW_law) 2450 = .ok (.ifCond .ne 15, 3) := by decide +kernel
theorem dW_law_2453 : decode (zby mW_law) 2453 = .ok (.aload_n 3, 1) := by decide +kernel
theorem dW_law_2454 : decode (zby mW_law) 2454 = .ok (.iconst 0, 1) := by decide +kernel
theorem dW_law_2455 : decode (zby mW_law) 2455 = .ok (.laload, 1) := by decide +kernel
theorem dW_law_2456 : decode (zby mW_law) 2456 = .ok (.iload 7, 2) := by decide +kernel
theorem dW_law_2458 : decode (zby mW_law) 2458 = .ok (.i2l, 1) := by decide +kernel
theorem dW_law_2459 : decode (zby mW_law) 2459 = .ok (.lcmp, 1) := by decide +kernel
theorem dW_law_2460 : decode (zby mW_law) 2460 = .ok (.ifCond .eq 5, 3) := by decide +kernel
theorem dW_law_2465 : decode (zby mW_law) 2465 = .ok (.goto 795, 3) := by decide +kernel
theorem dW_law_2468 : decode (zby mW_law) 2468 = .ok (.aload_n 1, 1) := by decide +kernel
theorem dW_law_2469 : decode (zby mW_law) 2469 = .ok (.aload_n 0, 1) := by decide +kernel
theorem dW_law_2470 : decode (zby mW_law) 2470 = .ok (.iload 5, 2) := by decide +kernel
theorem dW_law_2472 : decode (zby mW_law) 2472 = .ok (.iconst 1, 1) := by decide +kernel
theorem dW_law_2473 : decode (zby mW_law) 2473 = .ok (.iadd, 1) := by decide +kernel
theorem dW_law_2474 : decode (zby mW_law) 2474 = .ok (.iaload, 1) := by decide +kernel
theorem dW_law_2475 : decode (zby mW_law) 2475 = .ok (.aload_n 3, 1) := by decide +kernel
theorem dW_law_2476 : decode (zby mW_law) 2476 = .ok (.invokestatic 299, 3) := by decide +kernel
theorem dW_law_2479 : decode (zby mW_law) 2479 = .ok (.istore 6, 2) := by decide +kernel
theorem dW_law_2481 : decode (zby mW_law) 2481 = .ok (.aload_n 2, 1) := by decide +kernel
theorem dW_law_2482 : decode (zby mW_law) 2482 = .ok (.aload_n 0, 1) := by decide +kernel
theorem dW_law_2483 : decode (zby mW_law) 2483 = .ok (.iload 5, 2) := by decide +kernel
theorem dW_law_2485 : decode (zby mW_law) 2485 = .ok (.iconst 1, 1) := by decide +kernel
theorem dW_law_2486 : decode (zby mW_law) 2486 = .ok (.iadd, 1) := by decide +kernel
theorem dW_law_2487 : decode (zby mW_law) 2487 = .ok (.iaload, 1) := by decide +kernel
theorem dW_law_2488 : decode (zby mW_law) 2488 = .ok (.invokevirtual 301, 3) := by decide +kernel
theorem dW_law_2491 : decode (zby mW_law) 2491 = .ok (.istore 7, 2) := by decide +kernel
theorem dW_law_2493 : decode (zby mW_law) 2493 = .ok (.aload_n 2, 1) := by decide +kernel
theorem dW_law_2494 : decode (zby mW_law) 2494 = .ok (.invokevirtual 183, 3) := by decide +kernel
theorem dW_law_2497 : decode (zby mW_law) 2497 = .ok (.iload 6, 2) := by decide +kernel
theorem dW_law_2499 : decode (zby mW_law) 2499 = .ok (.if_icmp .eq 5, 3) := by decide +kernel
theorem dW_law_2504 : decode (zby mW_law) 2504 = .ok (.iload 6, 2) := by decide +kernel
theorem dW_law_2506 : decode (zby mW_law) 2506 = .ok (.ifCond .ne 15, 3) := by decide +kernel
theorem dW_law_2509 : decode (zby mW_law) 2509 = .ok (.aload_n 3, 1) := by decide +kernel
theorem dW_law_2510 : decode (zby mW_law) 2510 = .ok (.iconst 0, 1) := by decide +kernel
theorem dW_law_2511 : decode (zby mW_law) 2511 = .ok (.laload, 1) := by decide +kernel
theorem dW_law_2512 : decode (zby mW_law) 2512 = .ok (.iload 7, 2) := by decide +kernel
theorem dW_law_2514 : decode (zby mW_law) 2514 = .ok (.i2l, 1) := by decide +kernel
theorem dW_law_2515 : decode (zby mW_law) 2515 = .ok (.lcmp, 1) := by decide +kernel
theorem dW_law_2516 : decode (zby mW_law) 2516 = .ok (.ifCond .eq 5, 3) := by decide +kernel
theorem dW_law_2521 : decode (zby mW_law) 2521 = .ok (.goto 739, 3) := by decide +kernel
theorem dW_law_2524 : decode (zby mW_law) 2524 = .ok (.aload_n 1, 1) := by decide +kernel
theorem dW_law_2525 : decode (zby mW_law) 2525 = .ok (.aload_n 0, 1) := by decide +kernel
theorem dW_law_2526 : decode (zby mW_law) 2526 = .ok (.iload 5, 2) := by decide +kernel
theorem dW_law_2528 : decode (zby mW_law) 2528 = .ok (.iconst 1, 1) := by decide +kernel
theorem dW_law_2529 : decode (zby mW_law) 2529 = .ok (.iadd, 1) := by decide +kernel
theorem dW_law_2530 : decode (zby mW_law) 2530 = .ok (.iaload, 1) := by decide +kernel
theorem dW_law_2531 : decode (zby mW_law) 2531 = .ok (.aload_n 3, 1) := by decide +kernel
theorem dW_law_2532 : decode (zby mW_law) 2532 = .ok (.invokestatic 302, 3) := by decide +kernel
theorem dW_law_2535 : decode (zby mW_law) 2535 = .ok (.istore 6, 2) := by decide +kernel
theorem dW_law_2537 : decode (zby mW_law) 2537 = .ok (.aload_n 2, 1) := by decide +kernel
theorem dW_law_2538 : decode (zby mW_law) 2538 = .ok (.aload_n 0, 1) := by decide +kernel
theorem dW_law_2539 : decode (zby mW_law) 2539 = .ok (.iload 5, 2) := by decide +kernel
theorem dW_law_2541 : decode (zby mW_law) 2541 = .ok (.iconst 1, 1) := by decide +kernel
theorem dW_law_2542 : decode (zby mW_law) 2542 = .ok (.iadd, 1) := by decide +kernel
theorem dW_law_2543 : decode (zby mW_law) 2543 = .ok (.iaload, 1) := by decide +kernel
theorem dW_law_2544 : decode (zby mW_law) 2544 = .ok (.invokevirtual 304, 3) := by decide +kernel
theorem dW_law_2547 : decode (zby mW_law) 2547 = .ok (.istore 7, 2) := by decide +kernel
theorem dW_law_2549 : decode (zby mW_law) 2549 = .ok (.aload_n 2, 1) := by decide +kernel
theorem dW_law_2550 : decode (zby mW_law) 2550 = .ok (.invokevirtual 183, 3) := by decide +kernel
theorem dW_law_2553 : decode (zby mW_law) 2553 = .ok (.iload 6, 2) := by decide +kernel
theorem dW_law_2555 : decode (zby mW_law) 2555 = .ok (.if_icmp .eq 5, 3) := by decide +kernel
theorem dW_law_2560 : decode (zby mW_law) 2560 = .ok (.iload 6, 2) := by decide +kernel
theorem dW_law_2562 : decode (zby mW_law) 2562 = .ok (.ifCond .ne 15, 3) := by decide +kernel
theorem dW_law_2565 : decode (zby mW_law) 2565 = .ok (.aload_n 3, 1) := by decide +kernel
theorem dW_law_2566 : decode (zby mW_law) 2566 = .ok (.iconst 0, 1) := by decide +kernel
theorem dW_law_2567 : decode (zby mW_law) 2567 = .ok (.laload, 1) := by decide +kernel
theorem dW_law_2568 : decode (zby mW_law) 2568 = .ok (.iload 7, 2) := by decide +kernel
theorem dW_law_2570 : decode (zby mW_law) 2570 = .ok (.i2l, 1) := by decide +kernel
theorem dW_law_2571 : decode (zby mW_law) 2571 = .ok (.lcmp, 1) := by decide +kernel
theorem dW_law_2572 : decode (zby mW_law) 2572 = .ok (.ifCond .eq 5, 3) := by decide +kernel
theorem dW_law_2577 : decode (zby mW_law) 2577 = .ok (.goto 683, 3) := by decide +kernel
theorem dW_law_2580 : decode (zby mW_law) 2580 = .ok (.aload_n 1, 1) := by decide +kernel
theorem dW_law_2581 : decode (zby mW_law) 2581 = .ok (.invokevirtual 305, 3) := by decide +kernel
theorem dW_law_2584 : decode (zby mW_law) 2584 = .ok (.aload_n 2, 1) := by decide +kernel
theorem dW_law_2585 : decode (zby mW_law) 2585 = .ok (.invokevirtual 308, 3) := by decide +kernel
theorem dW_law_2588 : decode (zby mW_law) 2588 = .ok (.if_icmp .eq 672, 3) := by decide +kernel
theorem dW_law_2593 : decode (zby mW_law) 2593 = .ok (.aload_n 1, 1) := by decide +kernel
theorem dW_law_2594 : decode (zby mW_law) 2594 = .ok (.invokevirtual 309, 3) := by decide +kernel
theorem dW_law_2597 : decode (zby mW_law) 2597 = .ok (.aload_n 2, 1) := by decide +kernel
theorem dW_law_2598 : decode (zby mW_law) 2598 = .ok (.invokevirtual 312, 3) := by decide +kernel
theorem dW_law_2601 : decode (zby mW_law) 2601 = .ok (.if_icmp .eq 659, 3) := by decide +kernel
theorem dW_law_2606 : decode (zby mW_law) 2606 = .ok (.aload_n 1, 1) := by decide +kernel
theorem dW_law_2607 : decode (zby mW_law) 2607 = .ok (.invokevirtual 313, 3) := by decide +kernel
theorem dW_law_2610 : decode (zby mW_law) 2610 = .ok (.aload_n 2, 1) := by decide +kernel
theorem dW_law_2611 : decode (zby mW_law) 2611 = .ok (.invokevirtual 316, 3) := by decide +kernel
theorem dW_law_2614 : decode (zby mW_law) 2614 = .ok (.if_icmp .eq 646, 3) := by decide +kernel
theorem dW_law_2619 : decode (zby mW_law) 2619 = .ok (.aload_n 1, 1) := by decide +kernel
theorem dW_law_2620 : decode (zby mW_law) 2620 = .ok (.invokevirtual 317, 3) := by decide +kernel
theorem dW_law_2623 : decode (zby mW_law) 2623 = .ok (.aload_n 2, 1) := by decide +kernel
theorem dW_law_2624 : decode (zby mW_law) 2624 = .ok (.invokevirtual 320, 3) := by decide +kernel
theorem dW_law_2627 : decode (zby mW_law) 2627 = .ok (.if_icmp .eq 633, 3) := by decide +kernel
theorem dW_law_2632 : decode (zby mW_law) 2632 = .ok (.aload_n 1, 1) := by decide +kernel
theorem dW_law_2633 : decode (zby mW_law) 2633 = .ok (.aload 4, 2) := by decide +kernel
theorem dW_law_2635 : decode (zby mW_law) 2635 = .ok (.invokestatic 321, 3) := by decide +kernel
theorem dW_law_2638 : decode (zby mW_law) 2638 = .ok (.istore 6, 2) := by decide +kernel
theorem dW_law_2640 : decode (zby mW_law) 2640 = .ok (.aload_n 2, 1) := by decide +kernel
theorem dW_law_2641 : decode (zby mW_law) 2641 = .ok (.invokevirtual 324, 3) := by decide +kernel
theorem dW_law_2644 : decode (zby mW_law) 2644 = .ok (.dstore 7, 2) := by decide +kernel
theorem dW_law_2646 : decode (zby mW_law) 2646 = .ok (.aload_n 2, 1) := by decide +kernel
theorem dW_law_2647 : decode (zby mW_law) 2647 = .ok (.invokevirtual 183, 3) := by decide +kernel
theorem dW_law_2650 : decode (zby mW_law) 2650 = .ok (.iload 6, 2) := by decide +kernel
theorem dW_law_2652 : decode (zby mW_law) 2652 = .ok (.if_icmp .eq 5, 3) := by decide +kernel
theorem dW_law_2657 : decode (zby mW_law) 2657 = .ok (.iload 6, 2) := by decide +kernel
theorem dW_law_2659 : decode (zby mW_law) 2659 = .ok (.ifCond .ne 35, 3) := by decide +kernel
theorem dW_law_2662 : decode (zby mW_law) 2662 = .ok (.aload 4, 2) := by decide +kernel
theorem dW_law_2664 : decode (zby mW_law) 2664 = .ok (.iconst 0, 1) := by decide +kernel
theorem dW_law_2665 : decode (zby mW_law) 2665 = .ok (.daload, 1) := by decide +kernel
theorem dW_law_2666 : decode (zby mW_law) 2666 = .ok (.dload 7, 2) := by decide +kernel
theorem dW_law_2668 : decode (zby mW_law) 2668 = .ok (.dcmp .l, 1) := by decide +kernel
theorem dW_law_2669 : decode (zby mW_law) 2669 = .ok (.ifCond .eq 25, 3) := by decide +kernel
theorem dW_law_2672 : decode (zby mW_law) 2672 = .ok (.aload 4, 2) := by decide +kernel
theorem dW_law_2674 : decode (zby mW_law) 2674 = .ok (.iconst 0, 1) := by decide +kernel
theorem dW_law_2675 : decode (zby mW_law) 2675 = .ok (.daload, 1) := by decide +kernel
theorem dW_law_2676 : decode (zby mW_law) 2676 = .ok (.aload 4, 2) := by decide +kernel
theorem dW_law_2678 : decode (zby mW_law) 2678 = .ok (.iconst 0, 1) := by decide +kernel
theorem dW_law_2679 : decode (zby mW_law) 2679 = .ok (.daload, 1) := by decide +kernel
theorem dW_law_2680 : decode (zby mW_law) 2680 = .ok (.dcmp .l, 1) := by decide +kernel
theorem dW_law_2681 : decode (zby mW_law) 2681 = .ok (.ifCond .eq 11, 3) := by decide +kernel
theorem dW_law_2684 : decode (zby mW_law) 2684 = .ok (.dload 7, 2) := by decide +kernel
theorem dW_law_2686 : decode (zby mW_law) 2686 = .ok (.dload 7, 2) := by decide +kernel
theorem dW_law_2688 : decode (zby mW_law) 2688 = .ok (.dcmp .l, 1) := by decide +kernel
theorem dW_law_2689 : decode (zby mW_law) 2689 = .ok (.ifCond .ne 5, 3) := by decide +kernel
theorem dW_law_2694 : decode (zby mW_law) 2694 = .ok (.goto 566, 3) := by decide +kernel
theorem dW_law_2697 : decode (zby mW_law) 2697 = .ok (.aload_n 1, 1) := by decide +kernel
theorem dW_law_2698 : decode (zby mW_law) 2698 = .ok (.aload 4, 2) := by decide +kernel
theorem dW_law_2700 : decode (zby mW_law) 2700 = .ok (.invokestatic 325, 3) := by decide +kernel
theorem dW_law_2703 : decode (zby mW_law) 2703 = .ok (.istore 6, 2) := by decide +kernel
theorem dW_law_2705 : decode (zby mW_law) 2705 = .ok (.aload_n 2, 1) := by decide +kernel
theorem dW_law_2706 : decode (zby mW_law) 2706 = .ok (.invokevirtual 327, 3) := by decide +kernel
theorem dW_law_2709 : decode (zby mW_law) 2709 = .ok (.fstore 7, 2) := by decide +kernel
theorem dW_law_2711 : decode (zby mW_law) 2711 = .ok (.aload_n 2, 1) := by decide +kernel
theorem dW_law_2712 : decode (zby mW_law) 2712 = .ok (.invokevirtual 183, 3) := by decide +kernel
theorem dW_law_2715 : decode (zby mW_law) 2715 = .ok (.iload 6, 2) := by decide +kernel
theorem dW_law_2717 : decode (zby mW_law) 2717 = .ok (.if_icmp .eq 5, 3) := by decide +kernel
theorem dW_law_2722 : decode (zby mW_law) 2722 = .ok (.iload 6, 2) := by decide +kernel
