theorem d_L_law_321 : decode code 321 = .ok (.i2l, 1) := by decide +kernel
theorem d_L_law_322 : decode code 322 = .ok (.ldc2_w 66, 3) := by decide +kernel
theorem d_L_law_325 : decode code 325 = .ok (.land, 1) := by decide +kernel
theorem d_L_law_326 : decode code 326 = .ok (.lor, 1) := by decide +kernel
theorem d_L_law_327 : decode code 327 = .ok (.aload_n 0, 1) := by decide +kernel
theorem d_L_law_328 : decode code 328 = .ok (.iload 4, 2) := by decide +kernel
theorem d_L_law_330 : decode code 330 = .ok (.iconst 5, 1) := by decide +kernel
theorem d_L_law_331 : decode code 331 = .ok (.iadd, 1) := by decide +kernel
theorem d_L_law_332 : decode code 332 = .ok (.iaload, 1) := by decide +kernel
theorem d_L_law_333 : decode code 333 = .ok (.i2l, 1) := by decide +kernel
theorem d_L_law_334 : decode code 334 = .ok (.bipush 32, 2) := by decide +kernel
theorem d_L_law_336 : decode code 336 = .ok (.lshl, 1) := by decide +kernel
theorem d_L_law_337 : decode code 337 = .ok (.aload_n 0, 1) := by decide +kernel
theorem d_L_law_338 : decode code 338 = .ok (.iload 4, 2) := by decide +kernel
theorem d_L_law_340 : decode code 340 = .ok (.bipush 6, 2) := by decide +kernel
theorem d_L_law_342 : decode code 342 = .ok (.iadd, 1) := by decide +kernel
theorem d_L_law_343 : decode code 343 = .ok (.iaload, 1) := by decide +kernel
theorem d_L_law_344 : decode code 344 = .ok (.i2l, 1) := by decide +kernel
theorem d_L_law_345 : decode code 345 = .ok (.ldc2_w 66, 3) := by decide +kernel
theorem d_L_law_348 : decode code 348 = .ok (.land, 1) := by decide +kernel
theorem d_L_law_349 : decode code 349 = .ok (.lor, 1) := by decide +kernel
theorem d_L_law_350 : decode code 350 = .ok (.invokevirtual 80, 3) := by decide +kernel
theorem d_L_law_353 : decode code 353 = .ok (.istore 6, 2) := by decide +kernel
theorem d_L_law_355 : decode code 355 = .ok (.aload_n 2, 1) := by decide +kernel
theorem d_L_law_356 : decode code 356 = .ok (.invokevirtual 74, 3) := by decide +kernel
theorem d_L_law_359 : decode code 359 = .ok (.iload 5, 2) := by decide +kernel
theorem d_L_law_361 : decode code 361 = .ok (.if_icmp .eq 5, 3) := by decide +kernel
theorem d_L_law_364 : decode code 364 = .ok (.iconst 0, 1) := by decide +kernel
theorem d_L_law_365 : decode code 365 = .ok (.ireturn, 1) := by decide +kernel
theorem d_L_law_366 : decode code 366 = .ok (.iload 5, 2) := by decide +kernel
theorem d_L_law_368 : decode code 368 = .ok (.ifCond .ne 15, 3) := by decide +kernel
theorem d_L_law_371 : decode code 371 = .ok (.aload_n 3, 1) := by decide +kernel
theorem d_L_law_372 : decode code 372 = .ok (.iconst 0, 1) := by decide +kernel
theorem d_L_law_373 : decode code 373 = .ok (.laload, 1) := by decide +kernel
theorem d_L_law_374 : decode code 374 = .ok (.iload 6, 2) := by decide +kernel
theorem d_L_law_376 : decode code 376 = .ok (.i2l, 1) := by decide +kernel
theorem d_L_law_377 : decode code 377 = .ok (.lcmp, 1) := by decide +kernel
theorem d_L_law_378 : decode code 378 = .ok (.ifCond .eq 5, 3) := by decide +kernel
theorem d_L_law_381 : decode code 381 = .ok (.iconst 0, 1) := by decide +kernel
theorem d_L_law_382 : decode code 382 = .ok (.ireturn, 1) := by decide +kernel
theorem d_L_law_383 : decode code 383 = .ok (.goto 719, 3) := by decide +kernel
theorem d_L_law_386 : decode code 386 = .ok (.aload_n 1, 1) := by decide +kernel
theorem d_L_law_387 : decode code 387 = .ok (.aload_n 0, 1) := by decide +kernel
theorem d_L_law_388 : decode code 388 = .ok (.iload 4, 2) := by decide +kernel
theorem d_L_law_390 : decode code 390 = .ok (.iconst 1, 1) := by decide +kernel
theorem d_L_law_391 : decode code 391 = .ok (.iadd, 1) := by decide +kernel
theorem d_L_law_392 : decode code 392 = .ok (.iaload, 1) := by decide +kernel
theorem d_L_law_393 : decode code 393 = .ok (.aload_n 3, 1) := by decide +kernel
theorem d_L_law_394 : decode code 394 = .ok (.invokestatic 81, 3) := by decide +kernel
theorem d_L_law_397 : decode code 397 = .ok (.istore 5, 2) := by decide +kernel
theorem d_L_law_399 : decode code 399 = .ok (.aload_n 2, 1) := by decide +kernel
theorem d_L_law_400 : decode code 400 = .ok (.aload_n 0, 1) := by decide +kernel
theorem d_L_law_401 : decode code 401 = .ok (.iload 4, 2) := by decide +kernel
theorem d_L_law_403 : decode code 403 = .ok (.iconst 1, 1) := by decide +kernel
theorem d_L_law_404 : decode code 404 = .ok (.iadd, 1) := by decide +kernel
theorem d_L_law_405 : decode code 405 = .ok (.iaload, 1) := by decide +kernel
theorem d_L_law_406 : decode code 406 = .ok (.invokevirtual 84, 3) := by decide +kernel
theorem d_L_law_409 : decode code 409 = .ok (.istore 6, 2) := by decide +kernel
theorem d_L_law_411 : decode code 411 = .ok (.aload_n 2, 1) := by decide +kernel
theorem d_L_law_412 : decode code 412 = .ok (.invokevirtual 74, 3) := by decide +kernel
