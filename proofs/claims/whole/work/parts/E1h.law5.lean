theorem dL_law__2400 : decode cL_law_ 2400 = .ok (.iload 6, 2) := by decide +kernel
theorem eL_law__2400 : zD KL_law_ 2400 (.iload 6) 2 2402 := ⟨dL_law__2400, rfl⟩
theorem dL_law__2402 : decode cL_law_ 2402 = .ok (.i2l, 1) := by decide +kernel
theorem eL_law__2402 : zD KL_law_ 2402 (.i2l) 1 2403 := ⟨dL_law__2402, rfl⟩
theorem dL_law__2403 : decode cL_law_ 2403 = .ok (.lcmp, 1) := by decide +kernel
theorem eL_law__2403 : zD KL_law_ 2403 (.lcmp) 1 2404 := ⟨dL_law__2403, rfl⟩
theorem dL_law__2404 : decode cL_law_ 2404 = .ok (.ifCond .eq 5, 3) := by decide +kernel
theorem eL_law__2404 : zD KL_law_ 2404 (.ifCond .eq 5) 3 2407 := ⟨dL_law__2404, rfl⟩
theorem dL_law__2407 : decode cL_law_ 2407 = .ok (.iconst 0, 1) := by decide +kernel
theorem eL_law__2407 : zD KL_law_ 2407 (.iconst 0) 1 2408 := ⟨dL_law__2407, rfl⟩
theorem dL_law__2408 : decode cL_law_ 2408 = .ok (.ireturn, 1) := by decide +kernel
theorem eL_law__2408 : zD KL_law_ 2408 (.ireturn) 1 2409 := ⟨dL_law__2408, rfl⟩
theorem dL_law__2409 : decode cL_law_ 2409 = .ok (.goto 943, 3) := by decide +kernel
theorem eL_law__2409 : zD KL_law_ 2409 (.goto 943) 3 2412 := ⟨dL_law__2409, rfl⟩
theorem dL_law__2412 : decode cL_law_ 2412 = .ok (.aload_n 1, 1) := by decide +kernel
theorem eL_law__2412 : zD KL_law_ 2412 (.aload_n 1) 1 2413 := ⟨dL_law__2412, rfl⟩
theorem dL_law__2413 : decode cL_law_ 2413 = .ok (.aload_n 0, 1) := by decide +kernel
theorem eL_law__2413 : zD KL_law_ 2413 (.aload_n 0) 1 2414 := ⟨dL_law__2413, rfl⟩
theorem dL_law__2414 : decode cL_law_ 2414 = .ok (.iload 4, 2) := by decide +kernel
theorem eL_law__2414 : zD KL_law_ 2414 (.iload 4) 2 2416 := ⟨dL_law__2414, rfl⟩
theorem dL_law__2416 : decode cL_law_ 2416 = .ok (.iconst 1, 1) := by decide +kernel
theorem eL_law__2416 : zD KL_law_ 2416 (.iconst 1) 1 2417 := ⟨dL_law__2416, rfl⟩
theorem dL_law__2417 : decode cL_law_ 2417 = .ok (.iadd, 1) := by decide +kernel
theorem eL_law__2417 : zD KL_law_ 2417 (.iadd) 1 2418 := ⟨dL_law__2417, rfl⟩
theorem dL_law__2418 : decode cL_law_ 2418 = .ok (.iaload, 1) := by decide +kernel
theorem eL_law__2418 : zD KL_law_ 2418 (.iaload) 1 2419 := ⟨dL_law__2418, rfl⟩
theorem dL_law__2419 : decode cL_law_ 2419 = .ok (.aload_n 3, 1) := by decide +kernel
theorem eL_law__2419 : zD KL_law_ 2419 (.aload_n 3) 1 2420 := ⟨dL_law__2419, rfl⟩
theorem dL_law__2420 : decode cL_law_ 2420 = .ok (.invokestatic 285, 3) := by decide +kernel
theorem eL_law__2420 : zD KL_law_ 2420 (.invokestatic 285) 3 2423 := ⟨dL_law__2420, rfl⟩
theorem dL_law__2423 : decode cL_law_ 2423 = .ok (.istore 5, 2) := by decide +kernel
theorem eL_law__2423 : zD KL_law_ 2423 (.istore 5) 2 2425 := ⟨dL_law__2423, rfl⟩
theorem dL_law__2425 : decode cL_law_ 2425 = .ok (.aload_n 2, 1) := by decide +kernel
theorem eL_law__2425 : zD KL_law_ 2425 (.aload_n 2) 1 2426 := ⟨dL_law__2425, rfl⟩
theorem dL_law__2426 : decode cL_law_ 2426 = .ok (.aload_n 0, 1) := by decide +kernel
theorem eL_law__2426 : zD KL_law_ 2426 (.aload_n 0) 1 2427 := ⟨dL_law__2426, rfl⟩
theorem dL_law__2427 : decode cL_law_ 2427 = .ok (.iload 4, 2) := by decide +kernel
theorem eL_law__2427 : zD KL_law_ 2427 (.iload 4) 2 2429 := ⟨dL_law__2427, rfl⟩
theorem dL_law__2429 : decode cL_law_ 2429 = .ok (.iconst 1, 1) := by decide +kernel
theorem eL_law__2429 : zD KL_law_ 2429 (.iconst 1) 1 2430 := ⟨dL_law__2429, rfl⟩
theorem dL_law__2430 : decode cL_law_ 2430 = .ok (.iadd, 1) := by decide +kernel
theorem eL_law__2430 : zD KL_law_ 2430 (.iadd) 1 2431 := ⟨dL_law__2430, rfl⟩
theorem dL_law__2431 : decode cL_law_ 2431 = .ok (.iaload, 1) := by decide +kernel
theorem eL_law__2431 : zD KL_law_ 2431 (.iaload) 1 2432 := ⟨dL_law__2431, rfl⟩
theorem dL_law__2432 : decode cL_law_ 2432 = .ok (.invokevirtual 287, 3) := by decide +kernel
theorem eL_law__2432 : zD KL_law_ 2432 (.invokevirtual 287) 3 2435 := ⟨dL_law__2432, rfl⟩
theorem dL_law__2435 : decode cL_law_ 2435 = .ok (.istore 6, 2) := by decide +kernel
theorem eL_law__2435 : zD KL_law_ 2435 (.istore 6) 2 2437 := ⟨dL_law__2435, rfl⟩
theorem dL_law__2437 : decode cL_law_ 2437 = .ok (.aload_n 2, 1) := by decide +kernel
theorem eL_law__2437 : zD KL_law_ 2437 (.aload_n 2) 1 2438 := ⟨dL_law__2437, rfl⟩
theorem dL_law__2438 : decode cL_law_ 2438 = .ok (.invokevirtual 170, 3) := by decide +kernel
theorem eL_law__2438 : zD KL_law_ 2438 (.invokevirtual 170) 3 2441 := ⟨dL_law__2438, rfl⟩
theorem dL_law__2441 : decode cL_law_ 2441 = .ok (.iload 5, 2) := by decide +kernel
theorem eL_law__2441 : zD KL_law_ 2441 (.iload 5) 2 2443 := ⟨dL_law__2441, rfl⟩
theorem dL_law__2443 : decode cL_law_ 2443 = .ok (.if_icmp .eq 5, 3) := by decide +kernel
theorem eL_law__2443 : zD KL_law_ 2443 (.if_icmp .eq 5) 3 2446 := ⟨dL_law__2443, rfl⟩
theorem dL_law__2446 : decode cL_law_ 2446 = .ok (.iconst 0, 1) := by decide +kernel
theorem eL_law__2446 : zD KL_law_ 2446 (.iconst 0) 1 2447 := ⟨dL_law__2446, rfl⟩
theorem dL_law__2447 : decode cL_law_ 2447 = .ok (.ireturn, 1) := by decide +kernel
theorem eL_law__2447 : zD KL_law_ 2447 (.ireturn) 1 2448 := ⟨dL_law__2447, rfl⟩
theorem dL_law__2448 : decode cL_law_ 2448 = .ok (.iload 5, 2) := by decide +kernel
theorem eL_law__2448 : zD KL_law_ 2448 (.iload 5) 2 2450 := ⟨dL_law__2448, rfl⟩
theorem dL_law__2450 : decode cL_law_ 2450 = .ok (.ifCond .ne 15, 3) := by decide +kernel
theorem eL_law__2450 : zD KL_law_ 2450 (.ifCond .ne 15) 3 2453 := ⟨dL_law__2450, rfl⟩
theorem dL_law__2453 : decode cL_law_ 2453 = .ok (.aload_n 3, 1) := by decide +kernel
theorem eL_law__2453 : zD KL_law_ 2453 (.aload_n 3) 1 2454 := ⟨dL_law__2453, rfl⟩
theorem dL_law__2454 : decode cL_law_ 2454 = .ok (.iconst 0, 1) := by decide +kernel
theorem eL_law__2454 : zD KL_law_ 2454 (.iconst 0) 1 2455 := ⟨dL_law__2454, rfl⟩
theorem dL_law__2455 : decode cL_law_ 2455 = .ok (.laload, 1) := by decide +kernel
theorem eL_law__2455 : zD KL_law_ 2455 (.laload) 1 2456 := ⟨dL_law__2455, rfl⟩
theorem dL_law__2456 : decode cL_law_ 2456 = .ok (.iload 6, 2) := by decide +kernel
theorem eL_law__2456 : zD KL_law_ 2456 (.iload 6) 2 2458 := ⟨dL_law__2456, rfl⟩
theorem dL_law__2458 : decode cL_law_ 2458 = .ok (.i2l, 1) := by decide +kernel
theorem eL_law__2458 : zD KL_law_ 2458 (.i2l) 1 2459 := ⟨dL_law__2458, rfl⟩
theorem dL_law__2459 : decode cL_law_ 2459 = .ok (.lcmp, 1) := by decide +kernel
theorem eL_law__2459 : zD KL_law_ 2459 (.lcmp) 1 2460 := ⟨dL_law__2459, rfl⟩
theorem dL_law__2460 : decode cL_law_ 2460 = .ok (.ifCond .eq 5, 3) := by decide +kernel
theorem eL_law__2460 : zD KL_law_ 2460 (.ifCond .eq 5) 3 2463 := ⟨dL_law__2460, rfl⟩
theorem dL_law__2463 : decode cL_law_ 2463 = .ok (.iconst 0, 1) := by decide +kernel
theorem eL_law__2463 : zD KL_law_ 2463 (.iconst 0) 1 2464 := ⟨dL_law__2463, rfl⟩
theorem dL_law__2464 : decode cL_law_ 2464 = .ok (.ireturn, 1) := by decide +kernel
theorem eL_law__2464 : zD KL_law_ 2464 (.ireturn) 1 2465 := ⟨dL_law__2464, rfl⟩
theorem dL_law__2465 : decode cL_law_ 2465 = .ok (.goto 887, 3) := by decide +kernel
theorem eL_law__2465 : zD KL_law_ 2465 (.goto 887) 3 2468 := ⟨dL_law__2465, rfl⟩
theorem dL_law__2468 : decode cL_law_ 2468 = .ok (.aload_n 1, 1) := by decide +kernel
theorem eL_law__2468 : zD KL_law_ 2468 (.aload_n 1) 1 2469 := ⟨dL_law__2468, rfl⟩
theorem dL_law__2469 : decode cL_law_ 2469 = .ok (.invokevirtual 288, 3) := by decide +kernel
theorem eL_law__2469 : zD KL_law_ 2469 (.invokevirtual 288) 3 2472 := ⟨dL_law__2469, rfl⟩
theorem dL_law__2472 : decode cL_law_ 2472 = .ok (.aload_n 2, 1) := by decide +kernel
theorem eL_law__2472 : zD KL_law_ 2472 (.aload_n 2) 1 2473 := ⟨dL_law__2472, rfl⟩
theorem dL_law__2473 : decode cL_law_ 2473 = .ok (.invokevirtual 291, 3) := by decide +kernel
theorem eL_law__2473 : zD KL_law_ 2473 (.invokevirtual 291) 3 2476 := ⟨dL_law__2473, rfl⟩
theorem dL_law__2476 : decode cL_law_ 2476 = .ok (.if_icmp .eq 876, 3) := by decide +kernel
theorem eL_law__2476 : zD KL_law_ 2476 (.if_icmp .eq 876) 3 2479 := ⟨dL_law__2476, rfl⟩
theorem dL_law__2479 : decode cL_law_ 2479 = .ok (.iconst 0, 1) := by decide +kernel
theorem eL_law__2479 : zD KL_law_ 2479 (.iconst 0) 1 2480 := ⟨dL_law__2479, rfl⟩
theorem dL_law__2480 : decode cL_law_ 2480 = .ok (.ireturn, 1) := by decide +kernel
theorem eL_law__2480 : zD KL_law_ 2480 (.ireturn) 1 2481 := ⟨dL_law__2480, rfl⟩
theorem dL_law__2481 : decode cL_law_ 2481 = .ok (.aload_n 1, 1) := by decide +kernel
theorem eL_law__2481 : zD KL_law_ 2481 (.aload_n 1) 1 2482 := ⟨dL_law__2481, rfl⟩
theorem dL_law__2482 : decode cL_law_ 2482 = .ok (.invokevirtual 292, 3) := by decide +kernel
theorem eL_law__2482 : zD KL_law_ 2482 (.invokevirtual 292) 3 2485 := ⟨dL_law__2482, rfl⟩
theorem dL_law__2485 : decode cL_law_ 2485 = .ok (.aload_n 2, 1) := by decide +kernel
theorem eL_law__2485 : zD KL_law_ 2485 (.aload_n 2) 1 2486 := ⟨dL_law__2485, rfl⟩
theorem dL_law__2486 : decode cL_law_ 2486 = .ok (.invokevirtual 295, 3) := by decide +kernel
theorem eL_law__2486 : zD KL_law_ 2486 (.invokevirtual 295) 3 2489 := ⟨dL_law__2486, rfl⟩
theorem dL_law__2489 : decode cL_law_ 2489 = .ok (.if_icmp .eq 863, 3) := by decide +kernel
theorem eL_law__2489 : zD KL_law_ 2489 (.if_icmp .eq 863) 3 2492 := ⟨dL_law__2489, rfl⟩
theorem dL_law__2492 : decode cL_law_ 2492 = .ok (.iconst 0, 1) := by decide +kernel
theorem eL_law__2492 : zD KL_law_ 2492 (.iconst 0) 1 2493 := ⟨dL_law__2492, rfl⟩
theorem dL_law__2493 : decode cL_law_ 2493 = .ok (.ireturn, 1) := by decide +kernel
theorem eL_law__2493 : zD KL_law_ 2493 (.ireturn) 1 2494 := ⟨dL_law__2493, rfl⟩
theorem dL_law__2494 : decode cL_law_ 2494 = .ok (.aload_n 1, 1) := by decide +kernel
theorem eL_law__2494 : zD KL_law_ 2494 (.aload_n 1) 1 2495 := ⟨dL_law__2494, rfl⟩
theorem dL_law__2495 : decode cL_law_ 2495 = .ok (.aload_n 0, 1) := by decide +kernel
theorem eL_law__2495 : zD KL_law_ 2495 (.aload_n 0) 1 2496 := ⟨dL_law__2495, rfl⟩
theorem dL_law__2496 : decode cL_law_ 2496 = .ok (.iload 4, 2) := by decide +kernel
theorem eL_law__2496 : zD KL_law_ 2496 (.iload 4) 2 2498 := ⟨dL_law__2496, rfl⟩
theorem dL_law__2498 : decode cL_law_ 2498 = .ok (.iconst 1, 1) := by decide +kernel
theorem eL_law__2498 : zD KL_law_ 2498 (.iconst 1) 1 2499 := ⟨dL_law__2498, rfl⟩
theorem dL_law__2499 : decode cL_law_ 2499 = .ok (.iadd, 1) := by decide +kernel
theorem eL_law__2499 : zD KL_law_ 2499 (.iadd) 1 2500 := ⟨dL_law__2499, rfl⟩
theorem dL_law__2500 : decode cL_law_ 2500 = .ok (.iaload, 1) := by decide +kernel
theorem eL_law__2500 : zD KL_law_ 2500 (.iaload) 1 2501 := ⟨dL_law__2500, rfl⟩
theorem dL_law__2501 : decode cL_law_ 2501 = .ok (.aload_n 3, 1) := by decide +kernel
theorem eL_law__2501 : zD KL_law_ 2501 (.aload_n 3) 1 2502 := ⟨dL_law__2501, rfl⟩
theorem dL_law__2502 : decode cL_law_ 2502 = .ok (.invokestatic 296, 3) := by decide +kernel
theorem eL_law__2502 : zD KL_law_ 2502 (.invokestatic 296) 3 2505 := ⟨dL_law__2502, rfl⟩
theorem dL_law__2505 : decode cL_law_ 2505 = .ok (.istore 5, 2) := by decide +kernel
theorem eL_law__2505 : zD KL_law_ 2505 (.istore 5) 2 2507 := ⟨dL_law__2505, rfl⟩
theorem dL_law__2507 : decode cL_law_ 2507 = .ok (.aload_n 2, 1) := by decide +kernel
theorem eL_law__2507 : zD KL_law_ 2507 (.aload_n 2) 1 2508 := ⟨dL_law__2507, rfl⟩
theorem dL_law__2508 : decode cL_law_ 2508 = .ok (.aload_n 0, 1) := by decide +kernel
theorem eL_law__2508 : zD KL_law_ 2508 (.aload_n 0) 1 2509 := ⟨dL_law__2508, rfl⟩
theorem dL_law__2509 : decode cL_law_ 2509 = .ok (.iload 4, 2) := by decide +kernel
theorem eL_law__2509 : zD KL_law_ 2509 (.iload 4) 2 2511 := ⟨dL_law__2509, rfl⟩
theorem dL_law__2511 : decode cL_law_ 2511 = .ok (.iconst 1, 1) := by decide +kernel
theorem eL_law__2511 : zD KL_law_ 2511 (.iconst 1) 1 2512 := ⟨dL_law__2511, rfl⟩
theorem dL_law__2512 : decode cL_law_ 2512 = .ok (.iadd, 1) := by decide +kernel
theorem eL_law__2512 : zD KL_law_ 2512 (.iadd) 1 2513 := ⟨dL_law__2512, rfl⟩
theorem dL_law__2513 : decode cL_law_ 2513 = .ok (.iaload, 1) := by decide +kernel
theorem eL_law__2513 : zD KL_law_ 2513 (.iaload) 1 2514 := ⟨dL_law__2513, rfl⟩
theorem dL_law__2514 : decode cL_law_ 2514 = .ok (.invokevirtual 298, 3) := by decide +kernel
theorem eL_law__2514 : zD KL_law_ 2514 (.invokevirtual 298) 3 2517 := ⟨dL_law__2514, rfl⟩
theorem dL_law__2517 : decode cL_law_ 2517 = .ok (.istore 6, 2) := by decide +kernel
theorem eL_law__2517 : zD KL_law_ 2517 (.istore 6) 2 2519 := ⟨dL_law__2517, rfl⟩
theorem dL_law__2519 : decode cL_law_ 2519 = .ok (.aload_n 2, 1) := by decide +kernel
theorem eL_law__2519 : zD KL_law_ 2519 (.aload_n 2) 1 2520 := ⟨dL_law__2519, rfl⟩
theorem dL_law__2520 : decode cL_law_ 2520 = .ok (.invokevirtual 170, 3) := by decide +kernel
theorem eL_law__2520 : zD KL_law_ 2520 (.invokevirtual 170) 3 2523 := ⟨dL_law__2520, rfl⟩
theorem dL_law__2523 : decode cL_law_ 2523 = .ok (.iload 5, 2) := by decide +kernel
theorem eL_law__2523 : zD KL_law_ 2523 (.iload 5) 2 2525 := ⟨dL_law__2523, rfl⟩
theorem dL_law__2525 : decode cL_law_ 2525 = .ok (.if_icmp .eq 5, 3) := by decide +kernel
theorem eL_law__2525 : zD KL_law_ 2525 (.if_icmp .eq 5) 3 2528 := ⟨dL_law__2525, rfl⟩
theorem dL_law__2528 : decode cL_law_ 2528 = .ok (.iconst 0, 1) := by decide +kernel
theorem eL_law__2528 : zD KL_law_ 2528 (.iconst 0) 1 2529 := ⟨dL_law__2528, rfl⟩
theorem dL_law__2529 : decode cL_law_ 2529 = .ok (.ireturn, 1) := by decide +kernel
theorem eL_law__2529 : zD KL_law_ 2529 (.ireturn) 1 2530 := ⟨dL_law__2529, rfl⟩
theorem dL_law__2530 : decode cL_law_ 2530 = .ok (.iload 5, 2) := by decide +kernel
theorem eL_law__2530 : zD KL_law_ 2530 (.iload 5) 2 2532 := ⟨dL_law__2530, rfl⟩
theorem dL_law__2532 : decode cL_law_ 2532 = .ok (.ifCond .ne 15, 3) := by decide +kernel
theorem eL_law__2532 : zD KL_law_ 2532 (.ifCond .ne 15) 3 2535 := ⟨dL_law__2532, rfl⟩
theorem dL_law__2535 : decode cL_law_ 2535 = .ok (.aload_n 3, 1) := by decide +kernel
theorem eL_law__2535 : zD KL_law_ 2535 (.aload_n 3) 1 2536 := ⟨dL_law__2535, rfl⟩
theorem dL_law__2536 : decode cL_law_ 2536 = .ok (.iconst 0, 1) := by decide +kernel
theorem eL_law__2536 : zD KL_law_ 2536 (.iconst 0) 1 2537 := ⟨dL_law__2536, rfl⟩
theorem dL_law__2537 : decode cL_law_ 2537 = .ok (.laload, 1) := by decide +kernel
theorem eL_law__2537 : zD KL_law_ 2537 (.laload) 1 2538 := ⟨dL_law__2537, rfl⟩
theorem dL_law__2538 : decode cL_law_ 2538 = .ok (.iload 6, 2) := by decide +kernel
theorem eL_law__2538 : zD KL_law_ 2538 (.iload 6) 2 2540 := ⟨dL_law__2538, rfl⟩
theorem dL_law__2540 : decode cL_law_ 2540 = .ok (.i2l, 1) := by decide +kernel
theorem eL_law__2540 : zD KL_law_ 2540 (.i2l) 1 2541 := ⟨dL_law__2540, rfl⟩
theorem dL_law__2541 : decode cL_law_ 2541 = .ok (.lcmp, 1) := by decide +kernel
theorem eL_law__2541 : zD KL_law_ 2541 (.lcmp) 1 2542 := ⟨dL_law__2541, rfl⟩
theorem dL_law__2542 : decode cL_law_ 2542 = .ok (.ifCond .eq 5, 3) := by decide +kernel
theorem eL_law__2542 : zD KL_law_ 2542 (.ifCond .eq 5) 3 2545 := ⟨dL_law__2542, rfl⟩
theorem dL_law__2545 : decode cL_law_ 2545 = .ok (.iconst 0, 1) := by decide +kernel
theorem eL_law__2545 : zD KL_law_ 2545 (.iconst 0) 1 2546 := ⟨dL_law__2545, rfl⟩
theorem dL_law__2546 : decode cL_law_ 2546 = .ok (.ireturn, 1) := by decide +kernel
theorem eL_law__2546 : zD KL_law_ 2546 (.ireturn) 1 2547 := ⟨dL_law__2546, rfl⟩
theorem dL_law__2547 : decode cL_law_ 2547 = .ok (.goto 805, 3) := by decide +kernel
theorem eL_law__2547 : zD KL_law_ 2547 (.goto 805) 3 2550 := ⟨dL_law__2547, rfl⟩
theorem dL_law__2550 : decode cL_law_ 2550 = .ok (.aload_n 1, 1) := by decide +kernel
theorem eL_law__2550 : zD KL_law_ 2550 (.aload_n 1) 1 2551 := ⟨dL_law__2550, rfl⟩
theorem dL_law__2551 : decode cL_law_ 2551 = .ok (.aload_n 0, 1) := by decide +kernel
theorem eL_law__2551 : zD KL_law_ 2551 (.aload_n 0) 1 2552 := ⟨dL_law__2551, rfl⟩
theorem dL_law__2552 : decode cL_law_ 2552 = .ok (.iload 4, 2) := by decide +kernel
theorem eL_law__2552 : zD KL_law_ 2552 (.iload 4) 2 2554 := ⟨dL_law__2552, rfl⟩
theorem dL_law__2554 : decode cL_law_ 2554 = .ok (.iconst 1, 1) := by decide +kernel
theorem eL_law__2554 : zD KL_law_ 2554 (.iconst 1) 1 2555 := ⟨dL_law__2554, rfl⟩
theorem dL_law__2555 : decode cL_law_ 2555 = .ok (.iadd, 1) := by decide +kernel
theorem eL_law__2555 : zD KL_law_ 2555 (.iadd) 1 2556 := ⟨dL_law__2555, rfl⟩
theorem dL_law__2556 : decode cL_law_ 2556 = .ok (.iaload, 1) := by decide +kernel
theorem eL_law__2556 : zD KL_law_ 2556 (.iaload) 1 2557 := ⟨dL_law__2556, rfl⟩
theorem dL_law__2557 : decode cL_law_ 2557 = .ok (.aload_n 0, 1) := by decide +kernel
theorem eL_law__2557 : zD KL_law_ 2557 (.aload_n 0) 1 2558 := ⟨dL_law__2557, rfl⟩
theorem dL_law__2558 : decode cL_law_ 2558 = .ok (.iload 4, 2) := by decide +kernel
theorem eL_law__2558 : zD KL_law_ 2558 (.iload 4) 2 2560 := ⟨dL_law__2558, rfl⟩
theorem dL_law__2560 : decode cL_law_ 2560 = .ok (.iconst 2, 1) := by decide +kernel
theorem eL_law__2560 : zD KL_law_ 2560 (.iconst 2) 1 2561 := ⟨dL_law__2560, rfl⟩
theorem dL_law__2561 : decode cL_law_ 2561 = .ok (.iadd, 1) := by decide +kernel
theorem eL_law__2561 : zD KL_law_ 2561 (.iadd) 1 2562 := ⟨dL_law__2561, rfl⟩
theorem dL_law__2562 : decode cL_law_ 2562 = .ok (.iaload, 1) := by decide +kernel
theorem eL_law__2562 : zD KL_law_ 2562 (.iaload) 1 2563 := ⟨dL_law__2562, rfl⟩
theorem dL_law__2563 : decode cL_law_ 2563 = .ok (.aload_n 3, 1) := by decide +kernel
theorem eL_law__2563 : zD KL_law_ 2563 (.aload_n 3) 1 2564 := ⟨dL_law__2563, rfl⟩
theorem dL_law__2564 : decode cL_law_ 2564 = .ok (.invokestatic 299, 3) := by decide +kernel
theorem eL_law__2564 : zD KL_law_ 2564 (.invokestatic 299) 3 2567 := ⟨dL_law__2564, rfl⟩
theorem dL_law__2567 : decode cL_law_ 2567 = .ok (.istore 5, 2) := by decide +kernel
theorem eL_law__2567 : zD KL_law_ 2567 (.istore 5) 2 2569 := ⟨dL_law__2567, rfl⟩
theorem dL_law__2569 : decode cL_law_ 2569 = .ok (.aload_n 2, 1) := by decide +kernel
theorem eL_law__2569 : zD KL_law_ 2569 (.aload_n 2) 1 2570 := ⟨dL_law__2569, rfl⟩
theorem dL_law__2570 : decode cL_law_ 2570 = .ok (.aload_n 0, 1) := by decide +kernel
theorem eL_law__2570 : zD KL_law_ 2570 (.aload_n 0) 1 2571 := ⟨dL_law__2570, rfl⟩
theorem dL_law__2571 : decode cL_law_ 2571 = .ok (.iload 4, 2) := by decide +kernel
theorem eL_law__2571 : zD KL_law_ 2571 (.iload 4) 2 2573 := ⟨dL_law__2571, rfl⟩
theorem dL_law__2573 : decode cL_law_ 2573 = .ok (.iconst 1, 1) := by decide +kernel
theorem eL_law__2573 : zD KL_law_ 2573 (.iconst 1) 1 2574 := ⟨dL_law__2573, rfl⟩
theorem dL_law__2574 : decode cL_law_ 2574 = .ok (.iadd, 1) := by decide +kernel
theorem eL_law__2574 : zD KL_law_ 2574 (.iadd) 1 2575 := ⟨dL_law__2574, rfl⟩
theorem dL_law__2575 : decode cL_law_ 2575 = .ok (.iaload, 1) := by decide +kernel
theorem eL_law__2575 : zD KL_law_ 2575 (.iaload) 1 2576 := ⟨dL_law__2575, rfl⟩
theorem dL_law__2576 : decode cL_law_ 2576 = .ok (.aload_n 0, 1) := by decide +kernel
theorem eL_law__2576 : zD KL_law_ 2576 (.aload_n 0) 1 2577 := ⟨dL_law__2576, rfl⟩
theorem dL_law__2577 : decode cL_law_ 2577 = .ok (.iload 4, 2) := by decide +kernel
theorem eL_law__2577 : zD KL_law_ 2577 (.iload 4) 2 2579 := ⟨dL_law__2577, rfl⟩
theorem dL_law__2579 : decode cL_law_ 2579 = .ok (.iconst 2, 1) := by decide +kernel
theorem eL_law__2579 : zD KL_law_ 2579 (.iconst 2) 1 2580 := ⟨dL_law__2579, rfl⟩
theorem dL_law__2580 : decode cL_law_ 2580 = .ok (.iadd, 1) := by decide +kernel
theorem eL_law__2580 : zD KL_law_ 2580 (.iadd) 1 2581 := ⟨dL_law__2580, rfl⟩
theorem dL_law__2581 : decode cL_law_ 2581 = .ok (.iaload, 1) := by decide +kernel
theorem eL_law__2581 : zD KL_law_ 2581 (.iaload) 1 2582 := ⟨dL_law__2581, rfl⟩
theorem dL_law__2582 : decode cL_law_ 2582 = .ok (.invokevirtual 301, 3) := by decide +kernel
theorem eL_law__2582 : zD KL_law_ 2582 (.invokevirtual 301) 3 2585 := ⟨dL_law__2582, rfl⟩
theorem dL_law__2585 : decode cL_law_ 2585 = .ok (.istore 6, 2) := by decide +kernel
theorem eL_law__2585 : zD KL_law_ 2585 (.istore 6) 2 2587 := ⟨dL_law__2585, rfl⟩
theorem dL_law__2587 : decode cL_law_ 2587 = .ok (.aload_n 2, 1) := by decide +kernel
theorem eL_law__2587 : zD KL_law_ 2587 (.aload_n 2) 1 2588 := ⟨dL_law__2587, rfl⟩
theorem dL_law__2588 : decode cL_law_ 2588 = .ok (.invokevirtual 170, 3) := by decide +kernel
theorem eL_law__2588 : zD KL_law_ 2588 (.invokevirtual 170) 3 2591 := ⟨dL_law__2588, rfl⟩
theorem dL_law__2591 : decode cL_law_ 2591 = .ok (.iload 5, 2) := by decide +kernel
theorem eL_law__2591 : zD KL_law_ 2591 (.iload 5) 2 2593 := ⟨dL_law__2591, rfl⟩
theorem dL_law__2593 : decode cL_law_ 2593 = .ok (.if_icmp .eq 5, 3) := by decide +kernel
theorem eL_law__2593 : zD KL_law_ 2593 (.if_icmp .eq 5) 3 2596 := ⟨dL_law__2593, rfl⟩
theorem dL_law__2596 : decode cL_law_ 2596 = .ok (.iconst 0, 1) := by decide +kernel
theorem eL_law__2596 : zD KL_law_ 2596 (.iconst 0) 1 2597 := ⟨dL_law__2596, rfl⟩
theorem dL_law__2597 : decode cL_law_ 2597 = .ok (.ireturn, 1) := by decide +kernel
theorem eL_law__2597 : zD KL_law_ 2597 (.ireturn) 1 2598 := ⟨dL_law__2597, rfl⟩
theorem dL_law__2598 : decode cL_law_ 2598 = .ok (.iload 5, 2) := by decide +kernel
theorem eL_law__2598 : zD KL_law_ 2598 (.iload 5) 2 2600 := ⟨dL_law__2598, rfl⟩
theorem dL_law__2600 : decode cL_law_ 2600 = .ok (.ifCond .ne 15, 3) := by decide +kernel
theorem eL_law__2600 : zD KL_law_ 2600 (.ifCond .ne 15) 3 2603 := ⟨dL_law__2600, rfl⟩
theorem dL_law__2603 : decode cL_law_ 2603 = .ok (.aload_n 3, 1) := by decide +kernel
theorem eL_law__2603 : zD KL_law_ 2603 (.aload_n 3) 1 2604 := ⟨dL_law__2603, rfl⟩
theorem dL_law__2604 : decode cL_law_ 2604 = .ok (.iconst 0, 1) := by decide +kernel
theorem eL_law__2604 : zD KL_law_ 2604 (.iconst 0) 1 2605 := ⟨dL_law__2604, rfl⟩
theorem dL_law__2605 : decode cL_law_ 2605 = .ok (.laload, 1) := by decide +kernel
theorem eL_law__2605 : zD KL_law_ 2605 (.laload) 1 2606 := ⟨dL_law__2605, rfl⟩
theorem dL_law__2606 : decode cL_law_ 2606 = .ok (.iload 6, 2) := by decide +kernel
theorem eL_law__2606 : zD KL_law_ 2606 (.iload 6) 2 2608 := ⟨dL_law__2606, rfl⟩
theorem dL_law__2608 : decode cL_law_ 2608 = .ok (.i2l, 1) := by decide +kernel
theorem eL_law__2608 : zD KL_law_ 2608 (.i2l) 1 2609 := ⟨dL_law__2608, rfl⟩
theorem dL_law__2609 : decode cL_law_ 2609 = .ok (.lcmp, 1) := by decide +kernel
theorem eL_law__2609 : zD KL_law_ 2609 (.lcmp) 1 2610 := ⟨dL_law__2609, rfl⟩
theorem dL_law__2610 : decode cL_law_ 2610 = .ok (.ifCond .eq 5, 3) := by decide +kernel
theorem eL_law__2610 : zD KL_law_ 2610 (.ifCond .eq 5) 3 2613 := ⟨dL_law__2610, rfl⟩
theorem dL_law__2613 : decode cL_law_ 2613 = .ok (.iconst 0, 1) := by decide +kernel
theorem eL_law__2613 : zD KL_law_ 2613 (.iconst 0) 1 2614 := ⟨dL_law__2613, rfl⟩
theorem dL_law__2614 : decode cL_law_ 2614 = .ok (.ireturn, 1) := by decide +kernel
theorem eL_law__2614 : zD KL_law_ 2614 (.ireturn) 1 2615 := ⟨dL_law__2614, rfl⟩
theorem dL_law__2615 : decode cL_law_ 2615 = .ok (.goto 737, 3) := by decide +kernel
theorem eL_law__2615 : zD KL_law_ 2615 (.goto 737) 3 2618 := ⟨dL_law__2615, rfl⟩
theorem dL_law__2618 : decode cL_law_ 2618 = .ok (.aload_n 1, 1) := by decide +kernel
theorem eL_law__2618 : zD KL_law_ 2618 (.aload_n 1) 1 2619 := ⟨dL_law__2618, rfl⟩
theorem dL_law__2619 : decode cL_law_ 2619 = .ok (.aload_n 0, 1) := by decide +kernel
theorem eL_law__2619 : zD KL_law_ 2619 (.aload_n 0) 1 2620 := ⟨dL_law__2619, rfl⟩
theorem dL_law__2620 : decode cL_law_ 2620 = .ok (.iload 4, 2) := by decide +kernel
theorem eL_law__2620 : zD KL_law_ 2620 (.iload 4) 2 2622 := ⟨dL_law__2620, rfl⟩
theorem dL_law__2622 : decode cL_law_ 2622 = .ok (.iconst 1, 1) := by decide +kernel
theorem eL_law__2622 : zD KL_law_ 2622 (.iconst 1) 1 2623 := ⟨dL_law__2622, rfl⟩
theorem dL_law__2623 : decode cL_law_ 2623 = .ok (.iadd, 1) := by decide +kernel
theorem eL_law__2623 : zD KL_law_ 2623 (.iadd) 1 2624 := ⟨dL_law__2623, rfl⟩
theorem dL_law__2624 : decode cL_law_ 2624 = .ok (.iaload, 1) := by decide +kernel
theorem eL_law__2624 : zD KL_law_ 2624 (.iaload) 1 2625 := ⟨dL_law__2624, rfl⟩
theorem dL_law__2625 : decode cL_law_ 2625 = .ok (.aload_n 0, 1) := by decide +kernel
theorem eL_law__2625 : zD KL_law_ 2625 (.aload_n 0) 1 2626 := ⟨dL_law__2625, rfl⟩
theorem dL_law__2626 : decode cL_law_ 2626 = .ok (.iload 4, 2) := by decide +kernel
theorem eL_law__2626 : zD KL_law_ 2626 (.iload 4) 2 2628 := ⟨dL_law__2626, rfl⟩
theorem dL_law__2628 : decode cL_law_ 2628 = .ok (.iconst 2, 1) := by decide +kernel
theorem eL_law__2628 : zD KL_law_ 2628 (.iconst 2) 1 2629 := ⟨dL_law__2628, rfl⟩
theorem dL_law__2629 : decode cL_law_ 2629 = .ok (.iadd, 1) := by decide +kernel
theorem eL_law__2629 : zD KL_law_ 2629 (.iadd) 1 2630 := ⟨dL_law__2629, rfl⟩
theorem dL_law__2630 : decode cL_law_ 2630 = .ok (.iaload, 1) := by decide +kernel
theorem eL_law__2630 : zD KL_law_ 2630 (.iaload) 1 2631 := ⟨dL_law__2630, rfl⟩
theorem dL_law__2631 : decode cL_law_ 2631 = .ok (.aload_n 3, 1) := by decide +kernel
theorem eL_law__2631 : zD KL_law_ 2631 (.aload_n 3) 1 2632 := ⟨dL_law__2631, rfl⟩
theorem dL_law__2632 : decode cL_law_ 2632 = .ok (.invokestatic 302, 3) := by decide +kernel
theorem eL_law__2632 : zD KL_law_ 2632 (.invokestatic 302) 3 2635 := ⟨dL_law__2632, rfl⟩
theorem dL_law__2635 : decode cL_law_ 2635 = .ok (.istore 5, 2) := by decide +kernel
theorem eL_law__2635 : zD KL_law_ 2635 (.istore 5) 2 2637 := ⟨dL_law__2635, rfl⟩
theorem dL_law__2637 : decode cL_law_ 2637 = .ok (.aload_n 2, 1) := by decide +kernel
theorem eL_law__2637 : zD KL_law_ 2637 (.aload_n 2) 1 2638 := ⟨dL_law__2637, rfl⟩
theorem dL_law__2638 : decode cL_law_ 2638 = .ok (.aload_n 0, 1) := by decide +kernel
theorem eL_law__2638 : zD KL_law_ 2638 (.aload_n 0) 1 2639 := ⟨dL_law__2638, rfl⟩
theorem dL_law__2639 : decode cL_law_ 2639 = .ok (.iload 4, 2) := by decide +kernel
theorem eL_law__2639 : zD KL_law_ 2639 (.iload 4) 2 2641 := ⟨dL_law__2639, rfl⟩
theorem dL_law__2641 : decode cL_law_ 2641 = .ok (.iconst 1, 1) := by decide +kernel
theorem eL_law__2641 : zD KL_law_ 2641 (.iconst 1) 1 2642 := ⟨dL_law__2641, rfl⟩
theorem dL_law__2642 : decode cL_law_ 2642 = .ok (.iadd, 1) := by decide +kernel
theorem eL_law__2642 : zD KL_law_ 2642 (.iadd) 1 2643 := ⟨dL_law__2642, rfl⟩
theorem dL_law__2643 : decode cL_law_ 2643 = .ok (.iaload, 1) := by decide +kernel
theorem eL_law__2643 : zD KL_law_ 2643 (.iaload) 1 2644 := ⟨dL_law__2643, rfl⟩
theorem dL_law__2644 : decode cL_law_ 2644 = .ok (.aload_n 0, 1) := by decide +kernel
theorem eL_law__2644 : zD KL_law_ 2644 (.aload_n 0) 1 2645 := ⟨dL_law__2644, rfl⟩
theorem dL_law__2645 : decode cL_law_ 2645 = .ok (.iload 4, 2) := by decide +kernel
theorem eL_law__2645 : zD KL_law_ 2645 (.iload 4) 2 2647 := ⟨dL_law__2645, rfl⟩
theorem dL_law__2647 : decode cL_law_ 2647 = .ok (.iconst 2, 1) := by decide +kernel
theorem eL_law__2647 : zD KL_law_ 2647 (.iconst 2) 1 2648 := ⟨dL_law__2647, rfl⟩
theorem dL_law__2648 : decode cL_law_ 2648 = .ok (.iadd, 1) := by decide +kernel
theorem eL_law__2648 : zD KL_law_ 2648 (.iadd) 1 2649 := ⟨dL_law__2648, rfl⟩
theorem dL_law__2649 : decode cL_law_ 2649 = .ok (.iaload, 1) := by decide +kernel
theorem eL_law__2649 : zD KL_law_ 2649 (.iaload) 1 2650 := ⟨dL_law__2649, rfl⟩
theorem dL_law__2650 : decode cL_law_ 2650 = .ok (.invokevirtual 304, 3) := by decide +kernel
theorem eL_law__2650 : zD KL_law_ 2650 (.invokevirtual 304) 3 2653 := ⟨dL_law__2650, rfl⟩
theorem dL_law__2653 : decode cL_law_ 2653 = .ok (.istore 6, 2) := by decide +kernel
theorem eL_law__2653 : zD KL_law_ 2653 (.istore 6) 2 2655 := ⟨dL_law__2653, rfl⟩
theorem dL_law__2655 : decode cL_law_ 2655 = .ok (.aload_n 2, 1) := by decide +kernel
theorem eL_law__2655 : zD KL_law_ 2655 (.aload_n 2) 1 2656 := ⟨dL_law__2655, rfl⟩
theorem dL_law__2656 : decode cL_law_ 2656 = .ok (.invokevirtual 170, 3) := by decide +kernel
theorem eL_law__2656 : zD KL_law_ 2656 (.invokevirtual 170) 3 2659 := ⟨dL_law__2656, rfl⟩
theorem dL_law__2659 : decode cL_law_ 2659 = .ok (.iload 5, 2) := by decide +kernel
theorem eL_law__2659 : zD KL_law_ 2659 (.iload 5) 2 2661 := ⟨dL_law__2659, rfl⟩
theorem dL_law__2661 : decode cL_law_ 2661 = .ok (.if_icmp .eq 5, 3) := by decide +kernel
theorem eL_law__2661 : zD KL_law_ 2661 (.if_icmp .eq 5) 3 2664 := ⟨dL_law__2661, rfl⟩
theorem dL_law__2664 : decode cL_law_ 2664 = .ok (.iconst 0, 1) := by decide +kernel
theorem eL_law__2664 : zD KL_law_ 2664 (.iconst 0) 1 2665 := ⟨dL_law__2664, rfl⟩
theorem dL_law__2665 : decode cL_law_ 2665 = .ok (.ireturn, 1) := by decide +kernel
theorem eL_law__2665 : zD KL_law_ 2665 (.ireturn) 1 2666 := ⟨dL_law__2665, rfl⟩
theorem dL_law__2666 : decode cL_law_ 2666 = .ok (.iload 5, 2) := by decide +kernel
theorem eL_law__2666 : zD KL_law_ 2666 (.iload 5) 2 2668 := ⟨dL_law__2666, rfl⟩
theorem dL_law__2668 : decode cL_law_ 2668 = .ok (.ifCond .ne 15, 3) := by decide +kernel
theorem eL_law__2668 : zD KL_law_ 2668 (.ifCond .ne 15) 3 2671 := ⟨dL_law__2668, rfl⟩
theorem dL_law__2671 : decode cL_law_ 2671 = .ok (.aload_n 3, 1) := by decide +kernel
theorem eL_law__2671 : zD KL_law_ 2671 (.aload_n 3) 1 2672 := ⟨dL_law__2671, rfl⟩
theorem dL_law__2672 : decode cL_law_ 2672 = .ok (.iconst 0, 1) := by decide +kernel
theorem eL_law__2672 : zD KL_law_ 2672 (.iconst 0) 1 2673 := ⟨dL_law__2672, rfl⟩
theorem dL_law__2673 : decode cL_law_ 2673 = .ok (.laload, 1) := by decide +kernel
theorem eL_law__2673 : zD KL_law_ 2673 (.laload) 1 2674 := ⟨dL_law__2673, rfl⟩
theorem dL_law__2674 : decode cL_law_ 2674 = .ok (.iload 6, 2) := by decide +kernel
theorem eL_law__2674 : zD KL_law_ 2674 (.iload 6) 2 2676 := ⟨dL_law__2674, rfl⟩
theorem dL_law__2676 : decode cL_law_ 2676 = .ok (.i2l, 1) := by decide +kernel
theorem eL_law__2676 : zD KL_law_ 2676 (.i2l) 1 2677 := ⟨dL_law__2676, rfl⟩
theorem dL_law__2677 : decode cL_law_ 2677 = .ok (.lcmp, 1) := by decide +kernel
theorem eL_law__2677 : zD KL_law_ 2677 (.lcmp) 1 2678 := ⟨dL_law__2677, rfl⟩
theorem dL_law__2678 : decode cL_law_ 2678 = .ok (.ifCond .eq 5, 3) := by decide +kernel
theorem eL_law__2678 : zD KL_law_ 2678 (.ifCond .eq 5) 3 2681 := ⟨dL_law__2678, rfl⟩
theorem dL_law__2681 : decode cL_law_ 2681 = .ok (.iconst 0, 1) := by decide +kernel
theorem eL_law__2681 : zD KL_law_ 2681 (.iconst 0) 1 2682 := ⟨dL_law__2681, rfl⟩
theorem dL_law__2682 : decode cL_law_ 2682 = .ok (.ireturn, 1) := by decide +kernel
theorem eL_law__2682 : zD KL_law_ 2682 (.ireturn) 1 2683 := ⟨dL_law__2682, rfl⟩
theorem dL_law__2683 : decode cL_law_ 2683 = .ok (.goto 669, 3) := by decide +kernel
theorem eL_law__2683 : zD KL_law_ 2683 (.goto 669) 3 2686 := ⟨dL_law__2683, rfl⟩
theorem dL_law__2686 : decode cL_law_ 2686 = .ok (.aload_n 1, 1) := by decide +kernel
theorem eL_law__2686 : zD KL_law_ 2686 (.aload_n 1) 1 2687 := ⟨dL_law__2686, rfl⟩
theorem dL_law__2687 : decode cL_law_ 2687 = .ok (.invokevirtual 305, 3) := by decide +kernel
theorem eL_law__2687 : zD KL_law_ 2687 (.invokevirtual 305) 3 2690 := ⟨dL_law__2687, rfl⟩
theorem dL_law__2690 : decode cL_law_ 2690 = .ok (.aload_n 2, 1) := by decide +kernel
theorem eL_law__2690 : zD KL_law_ 2690 (.aload_n 2) 1 2691 := ⟨dL_law__2690, rfl⟩
theorem dL_law__2691 : decode cL_law_ 2691 = .ok (.invokevirtual 308, 3) := by decide +kernel
theorem eL_law__2691 : zD KL_law_ 2691 (.invokevirtual 308) 3 2694 := ⟨dL_law__2691, rfl⟩
theorem dL_law__2694 : decode cL_law_ 2694 = .ok (.if_icmp .eq 658, 3) := by decide +kernel
theorem eL_law__2694 : zD KL_law_ 2694 (.if_icmp .eq 658) 3 2697 := ⟨dL_law__2694, rfl⟩
theorem dL_law__2697 : decode cL_law_ 2697 = .ok (.iconst 0, 1) := by decide +kernel
theorem eL_law__2697 : zD KL_law_ 2697 (.iconst 0) 1 2698 := ⟨dL_law__2697, rfl⟩
theorem dL_law__2698 : decode cL_law_ 2698 = .ok (.ireturn, 1) := by decide +kernel
theorem eL_law__2698 : zD KL_law_ 2698 (.ireturn) 1 2699 := ⟨dL_law__2698, rfl⟩
theorem dL_law__2699 : decode cL_law_ 2699 = .ok (.aload_n 1, 1) := by decide +kernel
theorem eL_law__2699 : zD KL_law_ 2699 (.aload_n 1) 1 2700 := ⟨dL_law__2699, rfl⟩
theorem dL_law__2700 : decode cL_law_ 2700 = .ok (.aload_n 0, 1) := by decide +kernel
theorem eL_law__2700 : zD KL_law_ 2700 (.aload_n 0) 1 2701 := ⟨dL_law__2700, rfl⟩
theorem dL_law__2701 : decode cL_law_ 2701 = .ok (.iload 4, 2) := by decide +kernel
theorem eL_law__2701 : zD KL_law_ 2701 (.iload 4) 2 2703 := ⟨dL_law__2701, rfl⟩
theorem dL_law__2703 : decode cL_law_ 2703 = .ok (.iconst 1, 1) := by decide +kernel
theorem eL_law__2703 : zD KL_law_ 2703 (.iconst 1) 1 2704 := ⟨dL_law__2703, rfl⟩
theorem dL_law__2704 : decode cL_law_ 2704 = .ok (.iadd, 1) := by decide +kernel
theorem eL_law__2704 : zD KL_law_ 2704 (.iadd) 1 2705 := ⟨dL_law__2704, rfl⟩
theorem dL_law__2705 : decode cL_law_ 2705 = .ok (.iaload, 1) := by decide +kernel
theorem eL_law__2705 : zD KL_law_ 2705 (.iaload) 1 2706 := ⟨dL_law__2705, rfl⟩
theorem dL_law__2706 : decode cL_law_ 2706 = .ok (.aload_n 3, 1) := by decide +kernel
theorem eL_law__2706 : zD KL_law_ 2706 (.aload_n 3) 1 2707 := ⟨dL_law__2706, rfl⟩
theorem dL_law__2707 : decode cL_law_ 2707 = .ok (.invokestatic 309, 3) := by decide +kernel
theorem eL_law__2707 : zD KL_law_ 2707 (.invokestatic 309) 3 2710 := ⟨dL_law__2707, rfl⟩
theorem dL_law__2710 : decode cL_law_ 2710 = .ok (.istore 5, 2) := by decide +kernel
theorem eL_law__2710 : zD KL_law_ 2710 (.istore 5) 2 2712 := ⟨dL_law__2710, rfl⟩
theorem dL_law__2712 : decode cL_law_ 2712 = .ok (.aload_n 2, 1) := by decide +kernel
theorem eL_law__2712 : zD KL_law_ 2712 (.aload_n 2) 1 2713 := ⟨dL_law__2712, rfl⟩
theorem dL_law__2713 : decode cL_law_ 2713 = .ok (.aload_n 0, 1) := by decide +kernel
theorem eL_law__2713 : zD KL_law_ 2713 (.aload_n 0) 1 2714 := ⟨dL_law__2713, rfl⟩
theorem dL_law__2714 : decode cL_law_ 2714 = .ok (.iload 4, 2) := by decide +kernel
theorem eL_law__2714 : zD KL_law_ 2714 (.iload 4) 2 2716 := ⟨dL_law__2714, rfl⟩
theorem dL_law__2716 : decode cL_law_ 2716 = .ok (.iconst 1, 1) := by decide +kernel
theorem eL_law__2716 : zD KL_law_ 2716 (.iconst 1) 1 2717 := ⟨dL_law__2716, rfl⟩
theorem dL_law__2717 : decode cL_law_ 2717 = .ok (.iadd, 1) := by decide +kernel
theorem eL_law__2717 : zD KL_law_ 2717 (.iadd) 1 2718 := ⟨dL_law__2717, rfl⟩
theorem dL_law__2718 : decode cL_law_ 2718 = .ok (.iaload, 1) := by decide +kernel
theorem eL_law__2718 : zD KL_law_ 2718 (.iaload) 1 2719 := ⟨dL_law__2718, rfl⟩
theorem dL_law__2719 : decode cL_law_ 2719 = .ok (.invokevirtual 311, 3) := by decide +kernel
theorem eL_law__2719 : zD KL_law_ 2719 (.invokevirtual 311) 3 2722 := ⟨dL_law__2719, rfl⟩
theorem dL_law__2722 : decode cL_law_ 2722 = .ok (.istore 6, 2) := by decide +kernel
theorem eL_law__2722 : zD KL_law_ 2722 (.istore 6) 2 2724 := ⟨dL_law__2722, rfl⟩
theorem dL_law__2724 : decode cL_law_ 2724 = .ok (.aload_n 2, 1) := by decide +kernel
theorem eL_law__2724 : zD KL_law_ 2724 (.aload_n 2) 1 2725 := ⟨dL_law__2724, rfl⟩
theorem dL_law__2725 : decode cL_law_ 2725 = .ok (.invokevirtual 170, 3) := by decide +kernel
theorem eL_law__2725 : zD KL_law_ 2725 (.invokevirtual 170) 3 2728 := ⟨dL_law__2725, rfl⟩
theorem dL_law__2728 : decode cL_law_ 2728 = .ok (.iload 5, 2) := by decide +kernel
theorem eL_law__2728 : zD KL_law_ 2728 (.iload 5) 2 2730 := ⟨dL_law__2728, rfl⟩
theorem dL_law__2730 : decode cL_law_ 2730 = .ok (.if_icmp .eq 5, 3) := by decide +kernel
theorem eL_law__2730 : zD KL_law_ 2730 (.if_icmp .eq 5) 3 2733 := ⟨dL_law__2730, rfl⟩
theorem dL_law__2733 : decode cL_law_ 2733 = .ok (.iconst 0, 1) := by decide +kernel
theorem eL_law__2733 : zD KL_law_ 2733 (.iconst 0) 1 2734 := ⟨dL_law__2733, rfl⟩
theorem dL_law__2734 : decode cL_law_ 2734 = .ok (.ireturn, 1) := by decide +kernel
theorem eL_law__2734 : zD KL_law_ 2734 (.ireturn) 1 2735 := ⟨dL_law__2734, rfl⟩
theorem dL_law__2735 : decode cL_law_ 2735 = .ok (.iload 5, 2) := by decide +kernel
theorem eL_law__2735 : zD KL_law_ 2735 (.iload 5) 2 2737 := ⟨dL_law__2735, rfl⟩
theorem dL_law__2737 : decode cL_law_ 2737 = .ok (.ifCond .ne 15, 3) := by decide +kernel
theorem eL_law__2737 : zD KL_law_ 2737 (.ifCond .ne 15) 3 2740 := ⟨dL_law__2737, rfl⟩
theorem dL_law__2740 : decode cL_law_ 2740 = .ok (.aload_n 3, 1) := by decide +kernel
theorem eL_law__2740 : zD KL_law_ 2740 (.aload_n 3) 1 2741 := ⟨dL_law__2740, rfl⟩
theorem dL_law__2741 : decode cL_law_ 2741 = .ok (.iconst 0, 1) := by decide +kernel
theorem eL_law__2741 : zD KL_law_ 2741 (.iconst 0) 1 2742 := ⟨dL_law__2741, rfl⟩
theorem dL_law__2742 : decode cL_law_ 2742 = .ok (.laload, 1) := by decide +kernel
theorem eL_law__2742 : zD KL_law_ 2742 (.laload) 1 2743 := ⟨dL_law__2742, rfl⟩
theorem dL_law__2743 : decode cL_law_ 2743 = .ok (.iload 6, 2) := by decide +kernel
theorem eL_law__2743 : zD KL_law_ 2743 (.iload 6) 2 2745 := ⟨dL_law__2743, rfl⟩
theorem dL_law__2745 : decode cL_law_ 2745 = .ok (.i2l, 1) := by decide +kernel
theorem eL_law__2745 : zD KL_law_ 2745 (.i2l) 1 2746 := ⟨dL_law__2745, rfl⟩
theorem dL_law__2746 : decode cL_law_ 2746 = .ok (.lcmp, 1) := by decide +kernel
theorem eL_law__2746 : zD KL_law_ 2746 (.lcmp) 1 2747 := ⟨dL_law__2746, rfl⟩
theorem dL_law__2747 : decode cL_law_ 2747 = .ok (.ifCond .eq 5, 3) := by decide +kernel
theorem eL_law__2747 : zD KL_law_ 2747 (.ifCond .eq 5) 3 2750 := ⟨dL_law__2747, rfl⟩
theorem dL_law__2750 : decode cL_law_ 2750 = .ok (.iconst 0, 1) := by decide +kernel
theorem eL_law__2750 : zD KL_law_ 2750 (.iconst 0) 1 2751 := ⟨dL_law__2750, rfl⟩
theorem dL_law__2751 : decode cL_law_ 2751 = .ok (.ireturn, 1) := by decide +kernel
theorem eL_law__2751 : zD KL_law_ 2751 (.ireturn) 1 2752 := ⟨dL_law__2751, rfl⟩
theorem dL_law__2752 : decode cL_law_ 2752 = .ok (.goto 600, 3) := by decide +kernel
theorem eL_law__2752 : zD KL_law_ 2752 (.goto 600) 3 2755 := ⟨dL_law__2752, rfl⟩
theorem dL_law__2755 : decode cL_law_ 2755 = .ok (.aload_n 1, 1) := by decide +kernel
theorem eL_law__2755 : zD KL_law_ 2755 (.aload_n 1) 1 2756 := ⟨dL_law__2755, rfl⟩
theorem dL_law__2756 : decode cL_law_ 2756 = .ok (.aload_n 0, 1) := by decide +kernel
theorem eL_law__2756 : zD KL_law_ 2756 (.aload_n 0) 1 2757 := ⟨dL_law__2756, rfl⟩
theorem dL_law__2757 : decode cL_law_ 2757 = .ok (.iload 4, 2) := by decide +kernel
theorem eL_law__2757 : zD KL_law_ 2757 (.iload 4) 2 2759 := ⟨dL_law__2757, rfl⟩
theorem dL_law__2759 : decode cL_law_ 2759 = .ok (.iconst 1, 1) := by decide +kernel
theorem eL_law__2759 : zD KL_law_ 2759 (.iconst 1) 1 2760 := ⟨dL_law__2759, rfl⟩
theorem dL_law__2760 : decode cL_law_ 2760 = .ok (.iadd, 1) := by decide +kernel
theorem eL_law__2760 : zD KL_law_ 2760 (.iadd) 1 2761 := ⟨dL_law__2760, rfl⟩
theorem dL_law__2761 : decode cL_law_ 2761 = .ok (.iaload, 1) := by decide +kernel
theorem eL_law__2761 : zD KL_law_ 2761 (.iaload) 1 2762 := ⟨dL_law__2761, rfl⟩
theorem dL_law__2762 : decode cL_law_ 2762 = .ok (.aload_n 3, 1) := by decide +kernel
theorem eL_law__2762 : zD KL_law_ 2762 (.aload_n 3) 1 2763 := ⟨dL_law__2762, rfl⟩
theorem dL_law__2763 : decode cL_law_ 2763 = .ok (.invokestatic 312, 3) := by decide +kernel
theorem eL_law__2763 : zD KL_law_ 2763 (.invokestatic 312) 3 2766 := ⟨dL_law__2763, rfl⟩
theorem dL_law__2766 : decode cL_law_ 2766 = .ok (.istore 5, 2) := by decide +kernel
theorem eL_law__2766 : zD KL_law_ 2766 (.istore 5) 2 2768 := ⟨dL_law__2766, rfl⟩
theorem dL_law__2768 : decode cL_law_ 2768 = .ok (.aload_n 2, 1) := by decide +kernel
theorem eL_law__2768 : zD KL_law_ 2768 (.aload_n 2) 1 2769 := ⟨dL_law__2768, rfl⟩
theorem dL_law__2769 : decode cL_law_ 2769 = .ok (.aload_n 0, 1) := by decide +kernel
theorem eL_law__2769 : zD KL_law_ 2769 (.aload_n 0) 1 2770 := ⟨dL_law__2769, rfl⟩
theorem dL_law__2770 : decode cL_law_ 2770 = .ok (.iload 4, 2) := by decide +kernel
theorem eL_law__2770 : zD KL_law_ 2770 (.iload 4) 2 2772 := ⟨dL_law__2770, rfl⟩
theorem dL_law__2772 : decode cL_law_ 2772 = .ok (.iconst 1, 1) := by decide +kernel
theorem eL_law__2772 : zD KL_law_ 2772 (.iconst 1) 1 2773 := ⟨dL_law__2772, rfl⟩
theorem dL_law__2773 : decode cL_law_ 2773 = .ok (.iadd, 1) := by decide +kernel
theorem eL_law__2773 : zD KL_law_ 2773 (.iadd) 1 2774 := ⟨dL_law__2773, rfl⟩
theorem dL_law__2774 : decode cL_law_ 2774 = .ok (.iaload, 1) := by decide +kernel
theorem eL_law__2774 : zD KL_law_ 2774 (.iaload) 1 2775 := ⟨dL_law__2774, rfl⟩
theorem dL_law__2775 : decode cL_law_ 2775 = .ok (.invokevirtual 314, 3) := by decide +kernel
theorem eL_law__2775 : zD KL_law_ 2775 (.invokevirtual 314) 3 2778 := ⟨dL_law__2775, rfl⟩
theorem dL_law__2778 : decode cL_law_ 2778 = .ok (.istore 6, 2) := by decide +kernel
theorem eL_law__2778 : zD KL_law_ 2778 (.istore 6) 2 2780 := ⟨dL_law__2778, rfl⟩
theorem dL_law__2780 : decode cL_law_ 2780 = .ok (.aload_n 2, 1) := by decide +kernel
theorem eL_law__2780 : zD KL_law_ 2780 (.aload_n 2) 1 2781 := ⟨dL_law__2780, rfl⟩
theorem dL_law__2781 : decode cL_law_ 2781 = .ok (.invokevirtual 170, 3) := by decide +kernel
theorem eL_law__2781 : zD KL_law_ 2781 (.invokevirtual 170) 3 2784 := ⟨dL_law__2781, rfl⟩
theorem dL_law__2784 : decode cL_law_ 2784 = .ok (.iload 5, 2) := by decide +kernel
theorem eL_law__2784 : zD KL_law_ 2784 (.iload 5) 2 2786 := ⟨dL_law__2784, rfl⟩
theorem dL_law__2786 : decode cL_law_ 2786 = .ok (.if_icmp .eq 5, 3) := by decide +kernel
theorem eL_law__2786 : zD KL_law_ 2786 (.if_icmp .eq 5) 3 2789 := ⟨dL_law__2786, rfl⟩
theorem dL_law__2789 : decode cL_law_ 2789 = .ok (.iconst 0, 1) := by decide +kernel
theorem eL_law__2789 : zD KL_law_ 2789 (.iconst 0) 1 2790 := ⟨dL_law__2789, rfl⟩
theorem dL_law__2790 : decode cL_law_ 2790 = .ok (.ireturn, 1) := by decide +kernel
theorem eL_law__2790 : zD KL_law_ 2790 (.ireturn) 1 2791 := ⟨dL_law__2790, rfl⟩
theorem dL_law__2791 : decode cL_law_ 2791 = .ok (.iload 5, 2) := by decide +kernel
theorem eL_law__2791 : zD KL_law_ 2791 (.iload 5) 2 2793 := ⟨dL_law__2791, rfl⟩
theorem dL_law__2793 : decode cL_law_ 2793 = .ok (.ifCond .ne 15, 3) := by decide +kernel
theorem eL_law__2793 : zD KL_law_ 2793 (.ifCond .ne 15) 3 2796 := ⟨dL_law__2793, rfl⟩
theorem dL_law__2796 : decode cL_law_ 2796 = .ok (.aload_n 3, 1) := by decide +kernel
theorem eL_law__2796 : zD KL_law_ 2796 (.aload_n 3) 1 2797 := ⟨dL_law__2796, rfl⟩
theorem dL_law__2797 : decode cL_law_ 2797 = .ok (.iconst 0, 1) := by decide +kernel
theorem eL_law__2797 : zD KL_law_ 2797 (.iconst 0) 1 2798 := ⟨dL_law__2797, rfl⟩
theorem dL_law__2798 : decode cL_law_ 2798 = .ok (.laload, 1) := by decide +kernel
theorem eL_law__2798 : zD KL_law_ 2798 (.laload) 1 2799 := ⟨dL_law__2798, rfl⟩
theorem dL_law__2799 : decode cL_law_ 2799 = .ok (.iload 6, 2) := by decide +kernel
theorem eL_law__2799 : zD KL_law_ 2799 (.iload 6) 2 2801 := ⟨dL_law__2799, rfl⟩
theorem dL_law__2801 : decode cL_law_ 2801 = .ok (.i2l, 1) := by decide +kernel
theorem eL_law__2801 : zD KL_law_ 2801 (.i2l) 1 2802 := ⟨dL_law__2801, rfl⟩
theorem dL_law__2802 : decode cL_law_ 2802 = .ok (.lcmp, 1) := by decide +kernel
theorem eL_law__2802 : zD KL_law_ 2802 (.lcmp) 1 2803 := ⟨dL_law__2802, rfl⟩
theorem dL_law__2803 : decode cL_law_ 2803 = .ok (.ifCond .eq 5, 3) := by decide +kernel
theorem eL_law__2803 : zD KL_law_ 2803 (.ifCond .eq 5) 3 2806 := ⟨dL_law__2803, rfl⟩
theorem dL_law__2806 : decode cL_law_ 2806 = .ok (.iconst 0, 1) := by decide +kernel
theorem eL_law__2806 : zD KL_law_ 2806 (.iconst 0) 1 2807 := ⟨dL_law__2806, rfl⟩
theorem dL_law__2807 : decode cL_law_ 2807 = .ok (.ireturn, 1) := by decide +kernel
theorem eL_law__2807 : zD KL_law_ 2807 (.ireturn) 1 2808 := ⟨dL_law__2807, rfl⟩
theorem dL_law__2808 : decode cL_law_ 2808 = .ok (.goto 544, 3) := by decide +kernel
theorem eL_law__2808 : zD KL_law_ 2808 (.goto 544) 3 2811 := ⟨dL_law__2808, rfl⟩
theorem dL_law__2811 : decode cL_law_ 2811 = .ok (.aload_n 1, 1) := by decide +kernel
theorem eL_law__2811 : zD KL_law_ 2811 (.aload_n 1) 1 2812 := ⟨dL_law__2811, rfl⟩
theorem dL_law__2812 : decode cL_law_ 2812 = .ok (.invokevirtual 315, 3) := by decide +kernel
theorem eL_law__2812 : zD KL_law_ 2812 (.invokevirtual 315) 3 2815 := ⟨dL_law__2812, rfl⟩
theorem dL_law__2815 : decode cL_law_ 2815 = .ok (.aload_n 2, 1) := by decide +kernel
theorem eL_law__2815 : zD KL_law_ 2815 (.aload_n 2) 1 2816 := ⟨dL_law__2815, rfl⟩
theorem dL_law__2816 : decode cL_law_ 2816 = .ok (.invokevirtual 319, 3) := by decide +kernel
theorem eL_law__2816 : zD KL_law_ 2816 (.invokevirtual 319) 3 2819 := ⟨dL_law__2816, rfl⟩
theorem dL_law__2819 : decode cL_law_ 2819 = .ok (.if_icmp .eq 533, 3) := by decide +kernel
theorem eL_law__2819 : zD KL_law_ 2819 (.if_icmp .eq 533) 3 2822 := ⟨dL_law__2819, rfl⟩
theorem dL_law__2822 : decode cL_law_ 2822 = .ok (.iconst 0, 1) := by decide +kernel
theorem eL_law__2822 : zD KL_law_ 2822 (.iconst 0) 1 2823 := ⟨dL_law__2822, rfl⟩
theorem dL_law__2823 : decode cL_law_ 2823 = .ok (.ireturn, 1) := by decide +kernel
theorem eL_law__2823 : zD KL_law_ 2823 (.ireturn) 1 2824 := ⟨dL_law__2823, rfl⟩
theorem dL_law__2824 : decode cL_law_ 2824 = .ok (.aload_n 1, 1) := by decide +kernel
theorem eL_law__2824 : zD KL_law_ 2824 (.aload_n 1) 1 2825 := ⟨dL_law__2824, rfl⟩
theorem dL_law__2825 : decode cL_law_ 2825 = .ok (.invokevirtual 320, 3) := by decide +kernel
theorem eL_law__2825 : zD KL_law_ 2825 (.invokevirtual 320) 3 2828 := ⟨dL_law__2825, rfl⟩
theorem dL_law__2828 : decode cL_law_ 2828 = .ok (.aload_n 2, 1) := by decide +kernel
theorem eL_law__2828 : zD KL_law_ 2828 (.aload_n 2) 1 2829 := ⟨dL_law__2828, rfl⟩
theorem dL_law__2829 : decode cL_law_ 2829 = .ok (.invokevirtual 323, 3) := by decide +kernel
theorem eL_law__2829 : zD KL_law_ 2829 (.invokevirtual 323) 3 2832 := ⟨dL_law__2829, rfl⟩
theorem dL_law__2832 : decode cL_law_ 2832 = .ok (.if_icmp .eq 520, 3) := by decide +kernel
theorem eL_law__2832 : zD KL_law_ 2832 (.if_icmp .eq 520) 3 2835 := ⟨dL_law__2832, rfl⟩
theorem dL_law__2835 : decode cL_law_ 2835 = .ok (.iconst 0, 1) := by decide +kernel
theorem eL_law__2835 : zD KL_law_ 2835 (.iconst 0) 1 2836 := ⟨dL_law__2835, rfl⟩
theorem dL_law__2836 : decode cL_law_ 2836 = .ok (.ireturn, 1) := by decide +kernel
theorem eL_law__2836 : zD KL_law_ 2836 (.ireturn) 1 2837 := ⟨dL_law__2836, rfl⟩
theorem dL_law__2837 : decode cL_law_ 2837 = .ok (.aload_n 1, 1) := by decide +kernel
theorem eL_law__2837 : zD KL_law_ 2837 (.aload_n 1) 1 2838 := ⟨dL_law__2837, rfl⟩
theorem dL_law__2838 : decode cL_law_ 2838 = .ok (.aload_n 0, 1) := by decide +kernel
theorem eL_law__2838 : zD KL_law_ 2838 (.aload_n 0) 1 2839 := ⟨dL_law__2838, rfl⟩
theorem dL_law__2839 : decode cL_law_ 2839 = .ok (.iload 4, 2) := by decide +kernel
theorem eL_law__2839 : zD KL_law_ 2839 (.iload 4) 2 2841 := ⟨dL_law__2839, rfl⟩
theorem dL_law__2841 : decode cL_law_ 2841 = .ok (.iconst 1, 1) := by decide +kernel
theorem eL_law__2841 : zD KL_law_ 2841 (.iconst 1) 1 2842 := ⟨dL_law__2841, rfl⟩
theorem dL_law__2842 : decode cL_law_ 2842 = .ok (.iadd, 1) := by decide +kernel
theorem eL_law__2842 : zD KL_law_ 2842 (.iadd) 1 2843 := ⟨dL_law__2842, rfl⟩
theorem dL_law__2843 : decode cL_law_ 2843 = .ok (.iaload, 1) := by decide +kernel
theorem eL_law__2843 : zD KL_law_ 2843 (.iaload) 1 2844 := ⟨dL_law__2843, rfl⟩
theorem dL_law__2844 : decode cL_law_ 2844 = .ok (.aload_n 3, 1) := by decide +kernel
theorem eL_law__2844 : zD KL_law_ 2844 (.aload_n 3) 1 2845 := ⟨dL_law__2844, rfl⟩
theorem dL_law__2845 : decode cL_law_ 2845 = .ok (.invokestatic 324, 3) := by decide +kernel
theorem eL_law__2845 : zD KL_law_ 2845 (.invokestatic 324) 3 2848 := ⟨dL_law__2845, rfl⟩
theorem dL_law__2848 : decode cL_law_ 2848 = .ok (.istore 5, 2) := by decide +kernel
theorem eL_law__2848 : zD KL_law_ 2848 (.istore 5) 2 2850 := ⟨dL_law__2848, rfl⟩
theorem dL_law__2850 : decode cL_law_ 2850 = .ok (.aload_n 2, 1) := by decide +kernel
theorem eL_law__2850 : zD KL_law_ 2850 (.aload_n 2) 1 2851 := ⟨dL_law__2850, rfl⟩
theorem dL_law__2851 : decode cL_law_ 2851 = .ok (.aload_n 0, 1) := by decide +kernel
theorem eL_law__2851 : zD KL_law_ 2851 (.aload_n 0) 1 2852 := ⟨dL_law__2851, rfl⟩
theorem dL_law__2852 : decode cL_law_ 2852 = .ok (.iload 4, 2) := by decide +kernel
theorem eL_law__2852 : zD KL_law_ 2852 (.iload 4) 2 2854 := ⟨dL_law__2852, rfl⟩
theorem dL_law__2854 : decode cL_law_ 2854 = .ok (.iconst 1, 1) := by decide +kernel
theorem eL_law__2854 : zD KL_law_ 2854 (.iconst 1) 1 2855 := ⟨dL_law__2854, rfl⟩
theorem dL_law__2855 : decode cL_law_ 2855 = .ok (.iadd, 1) := by decide +kernel
theorem eL_law__2855 : zD KL_law_ 2855 (.iadd) 1 2856 := ⟨dL_law__2855, rfl⟩
theorem dL_law__2856 : decode cL_law_ 2856 = .ok (.iaload, 1) := by decide +kernel
theorem eL_law__2856 : zD KL_law_ 2856 (.iaload) 1 2857 := ⟨dL_law__2856, rfl⟩
theorem dL_law__2857 : decode cL_law_ 2857 = .ok (.invokevirtual 326, 3) := by decide +kernel
theorem eL_law__2857 : zD KL_law_ 2857 (.invokevirtual 326) 3 2860 := ⟨dL_law__2857, rfl⟩
theorem dL_law__2860 : decode cL_law_ 2860 = .ok (.istore 6, 2) := by decide +kernel
theorem eL_law__2860 : zD KL_law_ 2860 (.istore 6) 2 2862 := ⟨dL_law__2860, rfl⟩
theorem dL_law__2862 : decode cL_law_ 2862 = .ok (.aload_n 2, 1) := by decide +kernel
theorem eL_law__2862 : zD KL_law_ 2862 (.aload_n 2) 1 2863 := ⟨dL_law__2862, rfl⟩
theorem dL_law__2863 : decode cL_law_ 2863 = .ok (.invokevirtual 170, 3) := by decide +kernel
theorem eL_law__2863 : zD KL_law_ 2863 (.invokevirtual 170) 3 2866 := ⟨dL_law__2863, rfl⟩
theorem dL_law__2866 : decode cL_law_ 2866 = .ok (.iload 5, 2) := by decide +kernel
theorem eL_law__2866 : zD KL_law_ 2866 (.iload 5) 2 2868 := ⟨dL_law__2866, rfl⟩
theorem dL_law__2868 : decode cL_law_ 2868 = .ok (.if_icmp .eq 5, 3) := by decide +kernel
theorem eL_law__2868 : zD KL_law_ 2868 (.if_icmp .eq 5) 3 2871 := ⟨dL_law__2868, rfl⟩
theorem dL_law__2871 : decode cL_law_ 2871 = .ok (.iconst 0, 1) := by decide +kernel
theorem eL_law__2871 : zD KL_law_ 2871 (.iconst 0) 1 2872 := ⟨dL_law__2871, rfl⟩
theorem dL_law__2872 : decode cL_law_ 2872 = .ok (.ireturn, 1) := by decide +kernel
theorem eL_law__2872 : zD KL_law_ 2872 (.ireturn) 1 2873 := ⟨dL_law__2872, rfl⟩
theorem dL_law__2873 : decode cL_law_ 2873 = .ok (.iload 5, 2) := by decide +kernel
theorem eL_law__2873 : zD KL_law_ 2873 (.iload 5) 2 2875 := ⟨dL_law__2873, rfl⟩
theorem dL_law__2875 : decode cL_law_ 2875 = .ok (.ifCond .ne 15, 3) := by decide +kernel
theorem eL_law__2875 : zD KL_law_ 2875 (.ifCond .ne 15) 3 2878 := ⟨dL_law__2875, rfl⟩
theorem dL_law__2878 : decode cL_law_ 2878 = .ok (.aload_n 3, 1) := by decide +kernel
theorem eL_law__2878 : zD KL_law_ 2878 (.aload_n 3) 1 2879 := ⟨dL_law__2878, rfl⟩
theorem dL_law__2879 : decode cL_law_ 2879 = .ok (.iconst 0, 1) := by decide +kernel
theorem eL_law__2879 : zD KL_law_ 2879 (.iconst 0) 1 2880 := ⟨dL_law__2879, rfl⟩
