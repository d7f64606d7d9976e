theorem d_La_law_324 : decode b_La_law 324 = .ok (.bipush 32, 2) := by decide +kernel
theorem d_La_law_326 : decode b_La_law 326 = .ok (.lshl, 1) := by decide +kernel
theorem d_La_law_327 : decode b_La_law 327 = .ok (.aload_n 0, 1) := by decide +kernel
theorem d_La_law_328 : decode b_La_law 328 = .ok (.iload 4, 2) := by decide +kernel
theorem d_La_law_330 : decode b_La_law 330 = .ok (.iconst 2, 1) := by decide +kernel
theorem d_La_law_331 : decode b_La_law 331 = .ok (.iadd, 1) := by decide +kernel
theorem d_La_law_332 : decode b_La_law 332 = .ok (.iaload, 1) := by decide +kernel
theorem d_La_law_333 : decode b_La_law 333 = .ok (.i2l, 1) := by decide +kernel
theorem d_La_law_334 : decode b_La_law 334 = .ok (.ldc2_w 44, 3) := by decide +kernel
theorem d_La_law_337 : decode b_La_law 337 = .ok (.land, 1) := by decide +kernel
theorem d_La_law_338 : decode b_La_law 338 = .ok (.lor, 1) := by decide +kernel
theorem d_La_law_339 : decode b_La_law 339 = .ok (.aload_n 0, 1) := by decide +kernel
theorem d_La_law_340 : decode b_La_law 340 = .ok (.iload 4, 2) := by decide +kernel
theorem d_La_law_342 : decode b_La_law 342 = .ok (.iconst 3, 1) := by decide +kernel
theorem d_La_law_343 : decode b_La_law 343 = .ok (.iadd, 1) := by decide +kernel
theorem d_La_law_344 : decode b_La_law 344 = .ok (.iaload, 1) := by decide +kernel
theorem d_La_law_345 : decode b_La_law 345 = .ok (.ifCond .eq 7, 3) := by decide +kernel
theorem d_La_law_348 : decode b_La_law 348 = .ok (.iconst 1, 1) := by decide +kernel
theorem d_La_law_349 : decode b_La_law 349 = .ok (.goto 4, 3) := by decide +kernel
theorem d_La_law_352 : decode b_La_law 352 = .ok (.iconst 0, 1) := by decide +kernel
theorem d_La_law_353 : decode b_La_law 353 = .ok (.invokevirtual 63, 3) := by decide +kernel
theorem d_La_law_356 : decode b_La_law 356 = .ok (.istore 6, 2) := by decide +kernel
theorem d_La_law_358 : decode b_La_law 358 = .ok (.aload_n 2, 1) := by decide +kernel
theorem d_La_law_359 : decode b_La_law 359 = .ok (.invokevirtual 57, 3) := by decide +kernel
theorem d_La_law_362 : decode b_La_law 362 = .ok (.iload 5, 2) := by decide +kernel
theorem d_La_law_364 : decode b_La_law 364 = .ok (.if_icmp .eq 5, 3) := by decide +kernel
theorem d_La_law_367 : decode b_La_law 367 = .ok (.iconst 0, 1) := by decide +kernel
theorem d_La_law_368 : decode b_La_law 368 = .ok (.ireturn, 1) := by decide +kernel
theorem d_La_law_369 : decode b_La_law 369 = .ok (.iload 5, 2) := by decide +kernel
theorem d_La_law_371 : decode b_La_law 371 = .ok (.ifCond .ne 15, 3) := by decide +kernel
theorem d_La_law_374 : decode b_La_law 374 = .ok (.aload_n 3, 1) := by decide +kernel
theorem d_La_law_375 : decode b_La_law 375 = .ok (.iconst 0, 1) := by decide +kernel
theorem d_La_law_376 : decode b_La_law 376 = .ok (.laload, 1) := by decide +kernel
theorem d_La_law_377 : decode b_La_law 377 = .ok (.iload 6, 2) := by decide +kernel
theorem d_La_law_379 : decode b_La_law 379 = .ok (.i2l, 1) := by decide +kernel
theorem d_La_law_380 : decode b_La_law 380 = .ok (.lcmp, 1) := by decide +kernel
theorem d_La_law_381 : decode b_La_law 381 = .ok (.ifCond .eq 5, 3) := by decide +kernel
theorem d_La_law_384 : decode b_La_law 384 = .ok (.iconst 0, 1) := by decide +kernel
theorem d_La_law_385 : decode b_La_law 385 = .ok (.ireturn, 1) := by decide +kernel
theorem d_La_law_386 : decode b_La_law 386 = .ok (.goto 432, 3) := by decide +kernel
theorem d_La_law_389 : decode b_La_law 389 = .ok (.aload_n 1, 1) := by decide +kernel
theorem d_La_law_390 : decode b_La_law 390 = .ok (.aload_n 0, 1) := by decide +kernel
theorem d_La_law_391 : decode b_La_law 391 = .ok (.iload 4, 2) := by decide +kernel
theorem d_La_law_393 : decode b_La_law 393 = .ok (.iconst 1, 1) := by decide +kernel
theorem d_La_law_394 : decode b_La_law 394 = .ok (.iadd, 1) := by decide +kernel
theorem d_La_law_395 : decode b_La_law 395 = .ok (.iaload, 1) := by decide +kernel
theorem d_La_law_396 : decode b_La_law 396 = .ok (.aload_n 0, 1) := by decide +kernel
theorem d_La_law_397 : decode b_La_law 397 = .ok (.iload 4, 2) := by decide +kernel
theorem d_La_law_399 : decode b_La_law 399 = .ok (.iconst 2, 1) := by decide +kernel
theorem d_La_law_400 : decode b_La_law 400 = .ok (.iadd, 1) := by decide +kernel
theorem d_La_law_401 : decode b_La_law 401 = .ok (.iaload, 1) := by decide +kernel
theorem d_La_law_402 : decode b_La_law 402 = .ok (.aload_n 3, 1) := by decide +kernel
theorem d_La_law_403 : decode b_La_law 403 = .ok (.invokestatic 64, 3) := by decide +kernel
theorem d_La_law_406 : decode b_La_law 406 = .ok (.istore 5, 2) := by decide +kernel
theorem d_La_law_408 : decode b_La_law 408 = .ok (.aload_n 2, 1) := by decide +kernel
theorem d_La_law_409 : decode b_La_law 409 = .ok (.aload_n 0, 1) := by decide +kernel
theorem d_La_law_410 : decode b_La_law 410 = .ok (.iload 4, 2) := by decide +kernel
theorem d_La_law_412 : decode b_La_law 412 = .ok (.iconst 1, 1) := by decide +kernel
theorem d_La_law_413 : decode b_La_law 413 = .ok (.iadd, 1) := by decide +kernel
theorem d_La_law_414 : decode b_La_law 414 = .ok (.iaload, 1) := by decide +kernel
