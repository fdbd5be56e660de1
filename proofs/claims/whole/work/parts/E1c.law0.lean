theorem dL_law__0 : decode cL_law_ 0 = .ok (.new 8, 3) := by decide +kernel
theorem eL_law__0 : zD KL_law_ 0 (.new 8) 3 3 := ⟨dL_law__0, rfl⟩
theorem dL_law__3 : decode cL_law_ 3 = .ok (.dup, 1) := by decide +kernel
theorem eL_law__3 : zD KL_law_ 3 (.dup) 1 4 := ⟨dL_law__3, rfl⟩
theorem dL_law__4 : decode cL_law_ 4 = .ok (.invokespecial 150, 3) := by decide +kernel
theorem eL_law__4 : zD KL_law_ 4 (.invokespecial 150) 3 7 := ⟨dL_law__4, rfl⟩
theorem dL_law__7 : decode cL_law_ 7 = .ok (.astore_n 1, 1) := by decide +kernel
theorem eL_law__7 : zD KL_law_ 7 (.astore_n 1) 1 8 := ⟨dL_law__7, rfl⟩
theorem dL_law__8 : decode cL_law_ 8 = .ok (.new 151, 3) := by decide +kernel
theorem eL_law__8 : zD KL_law_ 8 (.new 151) 3 11 := ⟨dL_law__8, rfl⟩
theorem dL_law__11 : decode cL_law_ 11 = .ok (.dup, 1) := by decide +kernel
theorem eL_law__11 : zD KL_law_ 11 (.dup) 1 12 := ⟨dL_law__11, rfl⟩
theorem dL_law__12 : decode cL_law_ 12 = .ok (.invokespecial 153, 3) := by decide +kernel
theorem eL_law__12 : zD KL_law_ 12 (.invokespecial 153) 3 15 := ⟨dL_law__12, rfl⟩
theorem dL_law__15 : decode cL_law_ 15 = .ok (.astore_n 2, 1) := by decide +kernel
theorem eL_law__15 : zD KL_law_ 15 (.astore_n 2) 1 16 := ⟨dL_law__15, rfl⟩
theorem dL_law__16 : decode cL_law_ 16 = .ok (.iconst 1, 1) := by decide +kernel
theorem eL_law__16 : zD KL_law_ 16 (.iconst 1) 1 17 := ⟨dL_law__16, rfl⟩
theorem dL_law__17 : decode cL_law_ 17 = .ok (.newarray .long, 2) := by decide +kernel
theorem eL_law__17 : zD KL_law_ 17 (.newarray .long) 2 19 := ⟨dL_law__17, rfl⟩
theorem dL_law__19 : decode cL_law_ 19 = .ok (.astore_n 3, 1) := by decide +kernel
theorem eL_law__19 : zD KL_law_ 19 (.astore_n 3) 1 20 := ⟨dL_law__19, rfl⟩
theorem dL_law__20 : decode cL_law_ 20 = .ok (.iconst 0, 1) := by decide +kernel
theorem eL_law__20 : zD KL_law_ 20 (.iconst 0) 1 21 := ⟨dL_law__20, rfl⟩
theorem dL_law__21 : decode cL_law_ 21 = .ok (.istore 4, 2) := by decide +kernel
theorem eL_law__21 : zD KL_law_ 21 (.istore 4) 2 23 := ⟨dL_law__21, rfl⟩
theorem dL_law__23 : decode cL_law_ 23 = .ok (.iload 4, 2) := by decide +kernel
theorem eL_law__23 : zD KL_law_ 23 (.iload 4) 2 25 := ⟨dL_law__23, rfl⟩
theorem dL_law__25 : decode cL_law_ 25 = .ok (.aload_n 0, 1) := by decide +kernel
theorem eL_law__25 : zD KL_law_ 25 (.aload_n 0) 1 26 := ⟨dL_law__25, rfl⟩
theorem dL_law__26 : decode cL_law_ 26 = .ok (.arraylength, 1) := by decide +kernel
theorem eL_law__26 : zD KL_law_ 26 (.arraylength) 1 27 := ⟨dL_law__26, rfl⟩
theorem dL_law__27 : decode cL_law_ 27 = .ok (.bipush 6, 2) := by decide +kernel
theorem eL_law__27 : zD KL_law_ 27 (.bipush 6) 2 29 := ⟨dL_law__27, rfl⟩
theorem dL_law__29 : decode cL_law_ 29 = .ok (.isub, 1) := by decide +kernel
theorem eL_law__29 : zD KL_law_ 29 (.isub) 1 30 := ⟨dL_law__29, rfl⟩
theorem dL_law__30 : decode cL_law_ 30 = .ok (.if_icmp .gt 3328, 3) := by decide +kernel
theorem eL_law__30 : zD KL_law_ 30 (.if_icmp .gt 3328) 3 33 := ⟨dL_law__30, rfl⟩
theorem dL_law__33 : decode cL_law_ 33 = .ok (.aload_n 0, 1) := by decide +kernel
theorem eL_law__33 : zD KL_law_ 33 (.aload_n 0) 1 34 := ⟨dL_law__33, rfl⟩
theorem dL_law__34 : decode cL_law_ 34 = .ok (.iload 4, 2) := by decide +kernel
theorem eL_law__34 : zD KL_law_ 34 (.iload 4) 2 36 := ⟨dL_law__34, rfl⟩
theorem dL_law__36 : decode cL_law_ 36 = .ok (.iaload, 1) := by decide +kernel
theorem eL_law__36 : zD KL_law_ 36 (.iaload) 1 37 := ⟨dL_law__36, rfl⟩
theorem dL_law__37 : decode cL_law_ 37 = .ok (.bipush 63, 2) := by decide +kernel
theorem eL_law__37 : zD KL_law_ 37 (.bipush 63) 2 39 := ⟨dL_law__37, rfl⟩
theorem dL_law__39 : decode cL_law_ 39 = .ok (.iand, 1) := by decide +kernel
theorem eL_law__39 : zD KL_law_ 39 (.iand) 1 40 := ⟨dL_law__39, rfl⟩
theorem dL_law__40 : decode cL_law_ 40 = .ok (.tableswitch 3312 0 61 #[264, 337, 362, 406, 450, 463, 531, 599, 667, 723, 779, 859, 939, 995, 1063, 1119, 1210, 1301, 1369, 1444, 1512, 1568, 1636, 1704, 1772, 1828, 1841, 1897, 1981, 2006, 2078, 2122, 2178, 2222, 2235, 2291, 2316, 2372, 2428, 2441, 2454, 2510, 2578, 2646, 2659, 2715, 2771, 2784, 2797, 2853, 2866, 2879, 2892, 2905, 2989, 3073, 3157, 3225, 3250, 3263, 3274, 3287], 264) := by decide +kernel
theorem eL_law__40 : zD KL_law_ 40 (.tableswitch 3312 0 61 #[264, 337, 362, 406, 450, 463, 531, 599, 667, 723, 779, 859, 939, 995, 1063, 1119, 1210, 1301, 1369, 1444, 1512, 1568, 1636, 1704, 1772, 1828, 1841, 1897, 1981, 2006, 2078, 2122, 2178, 2222, 2235, 2291, 2316, 2372, 2428, 2441, 2454, 2510, 2578, 2646, 2659, 2715, 2771, 2784, 2797, 2853, 2866, 2879, 2892, 2905, 2989, 3073, 3157, 3225, 3250, 3263, 3274, 3287]) 264 304 := ⟨dL_law__40, rfl⟩
theorem dL_law__304 : decode cL_law_ 304 = .ok (.aload_n 1, 1) := by decide +kernel
theorem eL_law__304 : zD KL_law_ 304 (.aload_n 1) 1 305 := ⟨dL_law__304, rfl⟩
theorem dL_law__305 : decode cL_law_ 305 = .ok (.aload_n 0, 1) := by decide +kernel
theorem eL_law__305 : zD KL_law_ 305 (.aload_n 0) 1 306 := ⟨dL_law__305, rfl⟩
theorem dL_law__306 : decode cL_law_ 306 = .ok (.iload 4, 2) := by decide +kernel
theorem eL_law__306 : zD KL_law_ 306 (.iload 4) 2 308 := ⟨dL_law__306, rfl⟩
theorem dL_law__308 : decode cL_law_ 308 = .ok (.iconst 1, 1) := by decide +kernel
theorem eL_law__308 : zD KL_law_ 308 (.iconst 1) 1 309 := ⟨dL_law__308, rfl⟩
theorem dL_law__309 : decode cL_law_ 309 = .ok (.iadd, 1) := by decide +kernel
theorem eL_law__309 : zD KL_law_ 309 (.iadd) 1 310 := ⟨dL_law__309, rfl⟩
theorem dL_law__310 : decode cL_law_ 310 = .ok (.iaload, 1) := by decide +kernel
theorem eL_law__310 : zD KL_law_ 310 (.iaload) 1 311 := ⟨dL_law__310, rfl⟩
theorem dL_law__311 : decode cL_law_ 311 = .ok (.aload_n 0, 1) := by decide +kernel
theorem eL_law__311 : zD KL_law_ 311 (.aload_n 0) 1 312 := ⟨dL_law__311, rfl⟩
theorem dL_law__312 : decode cL_law_ 312 = .ok (.iload 4, 2) := by decide +kernel
theorem eL_law__312 : zD KL_law_ 312 (.iload 4) 2 314 := ⟨dL_law__312, rfl⟩
theorem dL_law__314 : decode cL_law_ 314 = .ok (.iconst 2, 1) := by decide +kernel
theorem eL_law__314 : zD KL_law_ 314 (.iconst 2) 1 315 := ⟨dL_law__314, rfl⟩
theorem dL_law__315 : decode cL_law_ 315 = .ok (.iadd, 1) := by decide +kernel
theorem eL_law__315 : zD KL_law_ 315 (.iadd) 1 316 := ⟨dL_law__315, rfl⟩
theorem dL_law__316 : decode cL_law_ 316 = .ok (.iaload, 1) := by decide +kernel
theorem eL_law__316 : zD KL_law_ 316 (.iaload) 1 317 := ⟨dL_law__316, rfl⟩
theorem dL_law__317 : decode cL_law_ 317 = .ok (.aload_n 0, 1) := by decide +kernel
theorem eL_law__317 : zD KL_law_ 317 (.aload_n 0) 1 318 := ⟨dL_law__317, rfl⟩
theorem dL_law__318 : decode cL_law_ 318 = .ok (.iload 4, 2) := by decide +kernel
theorem eL_law__318 : zD KL_law_ 318 (.iload 4) 2 320 := ⟨dL_law__318, rfl⟩
theorem dL_law__320 : decode cL_law_ 320 = .ok (.iconst 3, 1) := by decide +kernel
theorem eL_law__320 : zD KL_law_ 320 (.iconst 3) 1 321 := ⟨dL_law__320, rfl⟩
theorem dL_law__321 : decode cL_law_ 321 = .ok (.iadd, 1) := by decide +kernel
theorem eL_law__321 : zD KL_law_ 321 (.iadd) 1 322 := ⟨dL_law__321, rfl⟩
theorem dL_law__322 : decode cL_law_ 322 = .ok (.iaload, 1) := by decide +kernel
theorem eL_law__322 : zD KL_law_ 322 (.iaload) 1 323 := ⟨dL_law__322, rfl⟩
theorem dL_law__323 : decode cL_law_ 323 = .ok (.aload_n 0, 1) := by decide +kernel
theorem eL_law__323 : zD KL_law_ 323 (.aload_n 0) 1 324 := ⟨dL_law__323, rfl⟩
theorem dL_law__324 : decode cL_law_ 324 = .ok (.iload 4, 2) := by decide +kernel
theorem eL_law__324 : zD KL_law_ 324 (.iload 4) 2 326 := ⟨dL_law__324, rfl⟩
theorem dL_law__326 : decode cL_law_ 326 = .ok (.iconst 4, 1) := by decide +kernel
theorem eL_law__326 : zD KL_law_ 326 (.iconst 4) 1 327 := ⟨dL_law__326, rfl⟩
theorem dL_law__327 : decode cL_law_ 327 = .ok (.iadd, 1) := by decide +kernel
theorem eL_law__327 : zD KL_law_ 327 (.iadd) 1 328 := ⟨dL_law__327, rfl⟩
theorem dL_law__328 : decode cL_law_ 328 = .ok (.iaload, 1) := by decide +kernel
theorem eL_law__328 : zD KL_law_ 328 (.iaload) 1 329 := ⟨dL_law__328, rfl⟩
theorem dL_law__329 : decode cL_law_ 329 = .ok (.aload_n 0, 1) := by decide +kernel
theorem eL_law__329 : zD KL_law_ 329 (.aload_n 0) 1 330 := ⟨dL_law__329, rfl⟩
theorem dL_law__330 : decode cL_law_ 330 = .ok (.iload 4, 2) := by decide +kernel
theorem eL_law__330 : zD KL_law_ 330 (.iload 4) 2 332 := ⟨dL_law__330, rfl⟩
theorem dL_law__332 : decode cL_law_ 332 = .ok (.iconst 5, 1) := by decide +kernel
theorem eL_law__332 : zD KL_law_ 332 (.iconst 5) 1 333 := ⟨dL_law__332, rfl⟩
theorem dL_law__333 : decode cL_law_ 333 = .ok (.iadd, 1) := by decide +kernel
theorem eL_law__333 : zD KL_law_ 333 (.iadd) 1 334 := ⟨dL_law__333, rfl⟩
theorem dL_law__334 : decode cL_law_ 334 = .ok (.iaload, 1) := by decide +kernel
theorem eL_law__334 : zD KL_law_ 334 (.iaload) 1 335 := ⟨dL_law__334, rfl⟩
theorem dL_law__335 : decode cL_law_ 335 = .ok (.invokevirtual 154, 3) := by decide +kernel
theorem eL_law__335 : zD KL_law_ 335 (.invokevirtual 154) 3 338 := ⟨dL_law__335, rfl⟩
theorem dL_law__338 : decode cL_law_ 338 = .ok (.aload_n 2, 1) := by decide +kernel
theorem eL_law__338 : zD KL_law_ 338 (.aload_n 2) 1 339 := ⟨dL_law__338, rfl⟩
theorem dL_law__339 : decode cL_law_ 339 = .ok (.aload_n 0, 1) := by decide +kernel
theorem eL_law__339 : zD KL_law_ 339 (.aload_n 0) 1 340 := ⟨dL_law__339, rfl⟩
theorem dL_law__340 : decode cL_law_ 340 = .ok (.iload 4, 2) := by decide +kernel
theorem eL_law__340 : zD KL_law_ 340 (.iload 4) 2 342 := ⟨dL_law__340, rfl⟩
theorem dL_law__342 : decode cL_law_ 342 = .ok (.iconst 1, 1) := by decide +kernel
theorem eL_law__342 : zD KL_law_ 342 (.iconst 1) 1 343 := ⟨dL_law__342, rfl⟩
theorem dL_law__343 : decode cL_law_ 343 = .ok (.iadd, 1) := by decide +kernel
theorem eL_law__343 : zD KL_law_ 343 (.iadd) 1 344 := ⟨dL_law__343, rfl⟩
theorem dL_law__344 : decode cL_law_ 344 = .ok (.iaload, 1) := by decide +kernel
theorem eL_law__344 : zD KL_law_ 344 (.iaload) 1 345 := ⟨dL_law__344, rfl⟩
theorem dL_law__345 : decode cL_law_ 345 = .ok (.aload_n 0, 1) := by decide +kernel
theorem eL_law__345 : zD KL_law_ 345 (.aload_n 0) 1 346 := ⟨dL_law__345, rfl⟩
theorem dL_law__346 : decode cL_law_ 346 = .ok (.iload 4, 2) := by decide +kernel
theorem eL_law__346 : zD KL_law_ 346 (.iload 4) 2 348 := ⟨dL_law__346, rfl⟩
theorem dL_law__348 : decode cL_law_ 348 = .ok (.iconst 2, 1) := by decide +kernel
theorem eL_law__348 : zD KL_law_ 348 (.iconst 2) 1 349 := ⟨dL_law__348, rfl⟩
theorem dL_law__349 : decode cL_law_ 349 = .ok (.iadd, 1) := by decide +kernel
theorem eL_law__349 : zD KL_law_ 349 (.iadd) 1 350 := ⟨dL_law__349, rfl⟩
theorem dL_law__350 : decode cL_law_ 350 = .ok (.iaload, 1) := by decide +kernel
theorem eL_law__350 : zD KL_law_ 350 (.iaload) 1 351 := ⟨dL_law__350, rfl⟩
theorem dL_law__351 : decode cL_law_ 351 = .ok (.aload_n 0, 1) := by decide +kernel
theorem eL_law__351 : zD KL_law_ 351 (.aload_n 0) 1 352 := ⟨dL_law__351, rfl⟩
theorem dL_law__352 : decode cL_law_ 352 = .ok (.iload 4, 2) := by decide +kernel
theorem eL_law__352 : zD KL_law_ 352 (.iload 4) 2 354 := ⟨dL_law__352, rfl⟩
theorem dL_law__354 : decode cL_law_ 354 = .ok (.iconst 3, 1) := by decide +kernel
theorem eL_law__354 : zD KL_law_ 354 (.iconst 3) 1 355 := ⟨dL_law__354, rfl⟩
theorem dL_law__355 : decode cL_law_ 355 = .ok (.iadd, 1) := by decide +kernel
theorem eL_law__355 : zD KL_law_ 355 (.iadd) 1 356 := ⟨dL_law__355, rfl⟩
theorem dL_law__356 : decode cL_law_ 356 = .ok (.iaload, 1) := by decide +kernel
theorem eL_law__356 : zD KL_law_ 356 (.iaload) 1 357 := ⟨dL_law__356, rfl⟩
theorem dL_law__357 : decode cL_law_ 357 = .ok (.aload_n 0, 1) := by decide +kernel
theorem eL_law__357 : zD KL_law_ 357 (.aload_n 0) 1 358 := ⟨dL_law__357, rfl⟩
theorem dL_law__358 : decode cL_law_ 358 = .ok (.iload 4, 2) := by decide +kernel
theorem eL_law__358 : zD KL_law_ 358 (.iload 4) 2 360 := ⟨dL_law__358, rfl⟩
theorem dL_law__360 : decode cL_law_ 360 = .ok (.iconst 4, 1) := by decide +kernel
theorem eL_law__360 : zD KL_law_ 360 (.iconst 4) 1 361 := ⟨dL_law__360, rfl⟩
theorem dL_law__361 : decode cL_law_ 361 = .ok (.iadd, 1) := by decide +kernel
theorem eL_law__361 : zD KL_law_ 361 (.iadd) 1 362 := ⟨dL_law__361, rfl⟩
theorem dL_law__362 : decode cL_law_ 362 = .ok (.iaload, 1) := by decide +kernel
theorem eL_law__362 : zD KL_law_ 362 (.iaload) 1 363 := ⟨dL_law__362, rfl⟩
theorem dL_law__363 : decode cL_law_ 363 = .ok (.aload_n 0, 1) := by decide +kernel
theorem eL_law__363 : zD KL_law_ 363 (.aload_n 0) 1 364 := ⟨dL_law__363, rfl⟩
theorem dL_law__364 : decode cL_law_ 364 = .ok (.iload 4, 2) := by decide +kernel
theorem eL_law__364 : zD KL_law_ 364 (.iload 4) 2 366 := ⟨dL_law__364, rfl⟩
theorem dL_law__366 : decode cL_law_ 366 = .ok (.iconst 5, 1) := by decide +kernel
theorem eL_law__366 : zD KL_law_ 366 (.iconst 5) 1 367 := ⟨dL_law__366, rfl⟩
theorem dL_law__367 : decode cL_law_ 367 = .ok (.iadd, 1) := by decide +kernel
theorem eL_law__367 : zD KL_law_ 367 (.iadd) 1 368 := ⟨dL_law__367, rfl⟩
theorem dL_law__368 : decode cL_law_ 368 = .ok (.iaload, 1) := by decide +kernel
theorem eL_law__368 : zD KL_law_ 368 (.iaload) 1 369 := ⟨dL_law__368, rfl⟩
theorem dL_law__369 : decode cL_law_ 369 = .ok (.invokevirtual 158, 3) := by decide +kernel
theorem eL_law__369 : zD KL_law_ 369 (.invokevirtual 158) 3 372 := ⟨dL_law__369, rfl⟩
theorem dL_law__372 : decode cL_law_ 372 = .ok (.if_icmp .eq 2980, 3) := by decide +kernel
theorem eL_law__372 : zD KL_law_ 372 (.if_icmp .eq 2980) 3 375 := ⟨dL_law__372, rfl⟩
theorem dL_law__375 : decode cL_law_ 375 = .ok (.iconst 0, 1) := by decide +kernel
theorem eL_law__375 : zD KL_law_ 375 (.iconst 0) 1 376 := ⟨dL_law__375, rfl⟩
theorem dL_law__376 : decode cL_law_ 376 = .ok (.ireturn, 1) := by decide +kernel
theorem eL_law__376 : zD KL_law_ 376 (.ireturn) 1 377 := ⟨dL_law__376, rfl⟩
theorem dL_law__377 : decode cL_law_ 377 = .ok (.aload_n 1, 1) := by decide +kernel
theorem eL_law__377 : zD KL_law_ 377 (.aload_n 1) 1 378 := ⟨dL_law__377, rfl⟩
theorem dL_law__378 : decode cL_law_ 378 = .ok (.aload_n 0, 1) := by decide +kernel
theorem eL_law__378 : zD KL_law_ 378 (.aload_n 0) 1 379 := ⟨dL_law__378, rfl⟩
theorem dL_law__379 : decode cL_law_ 379 = .ok (.iload 4, 2) := by decide +kernel
theorem eL_law__379 : zD KL_law_ 379 (.iload 4) 2 381 := ⟨dL_law__379, rfl⟩
theorem dL_law__381 : decode cL_law_ 381 = .ok (.iconst 1, 1) := by decide +kernel
theorem eL_law__381 : zD KL_law_ 381 (.iconst 1) 1 382 := ⟨dL_law__381, rfl⟩
theorem dL_law__382 : decode cL_law_ 382 = .ok (.iadd, 1) := by decide +kernel
theorem eL_law__382 : zD KL_law_ 382 (.iadd) 1 383 := ⟨dL_law__382, rfl⟩
theorem dL_law__383 : decode cL_law_ 383 = .ok (.iaload, 1) := by decide +kernel
theorem eL_law__383 : zD KL_law_ 383 (.iaload) 1 384 := ⟨dL_law__383, rfl⟩
theorem dL_law__384 : decode cL_law_ 384 = .ok (.invokevirtual 159, 3) := by decide +kernel
theorem eL_law__384 : zD KL_law_ 384 (.invokevirtual 159) 3 387 := ⟨dL_law__384, rfl⟩
theorem dL_law__387 : decode cL_law_ 387 = .ok (.aload_n 2, 1) := by decide +kernel
theorem eL_law__387 : zD KL_law_ 387 (.aload_n 2) 1 388 := ⟨dL_law__387, rfl⟩
theorem dL_law__388 : decode cL_law_ 388 = .ok (.aload_n 0, 1) := by decide +kernel
theorem eL_law__388 : zD KL_law_ 388 (.aload_n 0) 1 389 := ⟨dL_law__388, rfl⟩
theorem dL_law__389 : decode cL_law_ 389 = .ok (.iload 4, 2) := by decide +kernel
theorem eL_law__389 : zD KL_law_ 389 (.iload 4) 2 391 := ⟨dL_law__389, rfl⟩
theorem dL_law__391 : decode cL_law_ 391 = .ok (.iconst 1, 1) := by decide +kernel
theorem eL_law__391 : zD KL_law_ 391 (.iconst 1) 1 392 := ⟨dL_law__391, rfl⟩
theorem dL_law__392 : decode cL_law_ 392 = .ok (.iadd, 1) := by decide +kernel
theorem eL_law__392 : zD KL_law_ 392 (.iadd) 1 393 := ⟨dL_law__392, rfl⟩
theorem dL_law__393 : decode cL_law_ 393 = .ok (.iaload, 1) := by decide +kernel
theorem eL_law__393 : zD KL_law_ 393 (.iaload) 1 394 := ⟨dL_law__393, rfl⟩
theorem dL_law__394 : decode cL_law_ 394 = .ok (.invokevirtual 163, 3) := by decide +kernel
theorem eL_law__394 : zD KL_law_ 394 (.invokevirtual 163) 3 397 := ⟨dL_law__394, rfl⟩
theorem dL_law__397 : decode cL_law_ 397 = .ok (.if_icmp .eq 2955, 3) := by decide +kernel
theorem eL_law__397 : zD KL_law_ 397 (.if_icmp .eq 2955) 3 400 := ⟨dL_law__397, rfl⟩
theorem dL_law__400 : decode cL_law_ 400 = .ok (.iconst 0, 1) := by decide +kernel
theorem eL_law__400 : zD KL_law_ 400 (.iconst 0) 1 401 := ⟨dL_law__400, rfl⟩
theorem dL_law__401 : decode cL_law_ 401 = .ok (.ireturn, 1) := by decide +kernel
theorem eL_law__401 : zD KL_law_ 401 (.ireturn) 1 402 := ⟨dL_law__401, rfl⟩
theorem dL_law__402 : decode cL_law_ 402 = .ok (.aload_n 1, 1) := by decide +kernel
theorem eL_law__402 : zD KL_law_ 402 (.aload_n 1) 1 403 := ⟨dL_law__402, rfl⟩
theorem dL_law__403 : decode cL_law_ 403 = .ok (.aload_n 3, 1) := by decide +kernel
theorem eL_law__403 : zD KL_law_ 403 (.aload_n 3) 1 404 := ⟨dL_law__403, rfl⟩
theorem dL_law__404 : decode cL_law_ 404 = .ok (.invokestatic 164, 3) := by decide +kernel
theorem eL_law__404 : zD KL_law_ 404 (.invokestatic 164) 3 407 := ⟨dL_law__404, rfl⟩
theorem dL_law__407 : decode cL_law_ 407 = .ok (.istore 5, 2) := by decide +kernel
theorem eL_law__407 : zD KL_law_ 407 (.istore 5) 2 409 := ⟨dL_law__407, rfl⟩
theorem dL_law__409 : decode cL_law_ 409 = .ok (.aload_n 2, 1) := by decide +kernel
theorem eL_law__409 : zD KL_law_ 409 (.aload_n 2) 1 410 := ⟨dL_law__409, rfl⟩
theorem dL_law__410 : decode cL_law_ 410 = .ok (.invokevirtual 169, 3) := by decide +kernel
theorem eL_law__410 : zD KL_law_ 410 (.invokevirtual 169) 3 413 := ⟨dL_law__410, rfl⟩
theorem dL_law__413 : decode cL_law_ 413 = .ok (.istore 6, 2) := by decide +kernel
theorem eL_law__413 : zD KL_law_ 413 (.istore 6) 2 415 := ⟨dL_law__413, rfl⟩
theorem dL_law__415 : decode cL_law_ 415 = .ok (.aload_n 2, 1) := by decide +kernel
theorem eL_law__415 : zD KL_law_ 415 (.aload_n 2) 1 416 := ⟨dL_law__415, rfl⟩
theorem dL_law__416 : decode cL_law_ 416 = .ok (.invokevirtual 170, 3) := by decide +kernel
theorem eL_law__416 : zD KL_law_ 416 (.invokevirtual 170) 3 419 := ⟨dL_law__416, rfl⟩
theorem dL_law__419 : decode cL_law_ 419 = .ok (.iload 5, 2) := by decide +kernel
theorem eL_law__419 : zD KL_law_ 419 (.iload 5) 2 421 := ⟨dL_law__419, rfl⟩
theorem dL_law__421 : decode cL_law_ 421 = .ok (.if_icmp .eq 5, 3) := by decide +kernel
theorem eL_law__421 : zD KL_law_ 421 (.if_icmp .eq 5) 3 424 := ⟨dL_law__421, rfl⟩
theorem dL_law__424 : decode cL_law_ 424 = .ok (.iconst 0, 1) := by decide +kernel
theorem eL_law__424 : zD KL_law_ 424 (.iconst 0) 1 425 := ⟨dL_law__424, rfl⟩
theorem dL_law__425 : decode cL_law_ 425 = .ok (.ireturn, 1) := by decide +kernel
theorem eL_law__425 : zD KL_law_ 425 (.ireturn) 1 426 := ⟨dL_law__425, rfl⟩
theorem dL_law__426 : decode cL_law_ 426 = .ok (.iload 5, 2) := by decide +kernel
theorem eL_law__426 : zD KL_law_ 426 (.iload 5) 2 428 := ⟨dL_law__426, rfl⟩
theorem dL_law__428 : decode cL_law_ 428 = .ok (.ifCond .ne 15, 3) := by decide +kernel
theorem eL_law__428 : zD KL_law_ 428 (.ifCond .ne 15) 3 431 := ⟨dL_law__428, rfl⟩
theorem dL_law__431 : decode cL_law_ 431 = .ok (.aload_n 3, 1) := by decide +kernel
theorem eL_law__431 : zD KL_law_ 431 (.aload_n 3) 1 432 := ⟨dL_law__431, rfl⟩
theorem dL_law__432 : decode cL_law_ 432 = .ok (.iconst 0, 1) := by decide +kernel
theorem eL_law__432 : zD KL_law_ 432 (.iconst 0) 1 433 := ⟨dL_law__432, rfl⟩
theorem dL_law__433 : decode cL_law_ 433 = .ok (.laload, 1) := by decide +kernel
theorem eL_law__433 : zD KL_law_ 433 (.laload) 1 434 := ⟨dL_law__433, rfl⟩
theorem dL_law__434 : decode cL_law_ 434 = .ok (.iload 6, 2) := by decide +kernel
theorem eL_law__434 : zD KL_law_ 434 (.iload 6) 2 436 := ⟨dL_law__434, rfl⟩
theorem dL_law__436 : decode cL_law_ 436 = .ok (.i2l, 1) := by decide +kernel
theorem eL_law__436 : zD KL_law_ 436 (.i2l) 1 437 := ⟨dL_law__436, rfl⟩
theorem dL_law__437 : decode cL_law_ 437 = .ok (.lcmp, 1) := by decide +kernel
theorem eL_law__437 : zD KL_law_ 437 (.lcmp) 1 438 := ⟨dL_law__437, rfl⟩
theorem dL_law__438 : decode cL_law_ 438 = .ok (.ifCond .eq 5, 3) := by decide +kernel
theorem eL_law__438 : zD KL_law_ 438 (.ifCond .eq 5) 3 441 := ⟨dL_law__438, rfl⟩
theorem dL_law__441 : decode cL_law_ 441 = .ok (.iconst 0, 1) := by decide +kernel
theorem eL_law__441 : zD KL_law_ 441 (.iconst 0) 1 442 := ⟨dL_law__441, rfl⟩
theorem dL_law__442 : decode cL_law_ 442 = .ok (.ireturn, 1) := by decide +kernel
theorem eL_law__442 : zD KL_law_ 442 (.ireturn) 1 443 := ⟨dL_law__442, rfl⟩
theorem dL_law__443 : decode cL_law_ 443 = .ok (.goto 2909, 3) := by decide +kernel
theorem eL_law__443 : zD KL_law_ 443 (.goto 2909) 3 446 := ⟨dL_law__443, rfl⟩
theorem dL_law__446 : decode cL_law_ 446 = .ok (.aload_n 1, 1) := by decide +kernel
theorem eL_law__446 : zD KL_law_ 446 (.aload_n 1) 1 447 := ⟨dL_law__446, rfl⟩
theorem dL_law__447 : decode cL_law_ 447 = .ok (.aload_n 3, 1) := by decide +kernel
theorem eL_law__447 : zD KL_law_ 447 (.aload_n 3) 1 448 := ⟨dL_law__447, rfl⟩
theorem dL_law__448 : decode cL_law_ 448 = .ok (.invokestatic 173, 3) := by decide +kernel
theorem eL_law__448 : zD KL_law_ 448 (.invokestatic 173) 3 451 := ⟨dL_law__448, rfl⟩
theorem dL_law__451 : decode cL_law_ 451 = .ok (.istore 5, 2) := by decide +kernel
theorem eL_law__451 : zD KL_law_ 451 (.istore 5) 2 453 := ⟨dL_law__451, rfl⟩
theorem dL_law__453 : decode cL_law_ 453 = .ok (.aload_n 2, 1) := by decide +kernel
theorem eL_law__453 : zD KL_law_ 453 (.aload_n 2) 1 454 := ⟨dL_law__453, rfl⟩
theorem dL_law__454 : decode cL_law_ 454 = .ok (.invokevirtual 175, 3) := by decide +kernel
theorem eL_law__454 : zD KL_law_ 454 (.invokevirtual 175) 3 457 := ⟨dL_law__454, rfl⟩
theorem dL_law__457 : decode cL_law_ 457 = .ok (.istore 6, 2) := by decide +kernel
theorem eL_law__457 : zD KL_law_ 457 (.istore 6) 2 459 := ⟨dL_law__457, rfl⟩
theorem dL_law__459 : decode cL_law_ 459 = .ok (.aload_n 2, 1) := by decide +kernel
theorem eL_law__459 : zD KL_law_ 459 (.aload_n 2) 1 460 := ⟨dL_law__459, rfl⟩
theorem dL_law__460 : decode cL_law_ 460 = .ok (.invokevirtual 170, 3) := by decide +kernel
theorem eL_law__460 : zD KL_law_ 460 (.invokevirtual 170) 3 463 := ⟨dL_law__460, rfl⟩
theorem dL_law__463 : decode cL_law_ 463 = .ok (.iload 5, 2) := by decide +kernel
theorem eL_law__463 : zD KL_law_ 463 (.iload 5) 2 465 := ⟨dL_law__463, rfl⟩
theorem dL_law__465 : decode cL_law_ 465 = .ok (.if_icmp .eq 5, 3) := by decide +kernel
theorem eL_law__465 : zD KL_law_ 465 (.if_icmp .eq 5) 3 468 := ⟨dL_law__465, rfl⟩
theorem dL_law__468 : decode cL_law_ 468 = .ok (.iconst 0, 1) := by decide +kernel
theorem eL_law__468 : zD KL_law_ 468 (.iconst 0) 1 469 := ⟨dL_law__468, rfl⟩
theorem dL_law__469 : decode cL_law_ 469 = .ok (.ireturn, 1) := by decide +kernel
theorem eL_law__469 : zD KL_law_ 469 (.ireturn) 1 470 := ⟨dL_law__469, rfl⟩
theorem dL_law__470 : decode cL_law_ 470 = .ok (.iload 5, 2) := by decide +kernel
theorem eL_law__470 : zD KL_law_ 470 (.iload 5) 2 472 := ⟨dL_law__470, rfl⟩
theorem dL_law__472 : decode cL_law_ 472 = .ok (.ifCond .ne 15, 3) := by decide +kernel
theorem eL_law__472 : zD KL_law_ 472 (.ifCond .ne 15) 3 475 := ⟨dL_law__472, rfl⟩
theorem dL_law__475 : decode cL_law_ 475 = .ok (.aload_n 3, 1) := by decide +kernel
theorem eL_law__475 : zD KL_law_ 475 (.aload_n 3) 1 476 := ⟨dL_law__475, rfl⟩
theorem dL_law__476 : decode cL_law_ 476 = .ok (.iconst 0, 1) := by decide +kernel
theorem eL_law__476 : zD KL_law_ 476 (.iconst 0) 1 477 := ⟨dL_law__476, rfl⟩
theorem dL_law__477 : decode cL_law_ 477 = .ok (.laload, 1) := by decide +kernel
theorem eL_law__477 : zD KL_law_ 477 (.laload) 1 478 := ⟨dL_law__477, rfl⟩
theorem dL_law__478 : decode cL_law_ 478 = .ok (.iload 6, 2) := by decide +kernel
theorem eL_law__478 : zD KL_law_ 478 (.iload 6) 2 480 := ⟨dL_law__478, rfl⟩
