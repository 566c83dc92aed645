theorem dL_isBarrel_352 : decode cL_isBarrel 352 = .ok (.iload 13, 2) := by decide +kernel
theorem dL_isBarrel_354 : decode cL_isBarrel 354 = .ok (.if_icmp .ne 7, 3) := by decide +kernel
theorem dL_isBarrel_357 : decode cL_isBarrel 357 = .ok (.iconst 1, 1) := by decide +kernel
theorem dL_isBarrel_358 : decode cL_isBarrel 358 = .ok (.goto 4, 3) := by decide +kernel
theorem dL_isBarrel_361 : decode cL_isBarrel 361 = .ok (.iconst 0, 1) := by decide +kernel
theorem dL_isBarrel_362 : decode cL_isBarrel 362 = .ok (.istore 14, 2) := by decide +kernel
theorem dL_isBarrel_364 : decode cL_isBarrel 364 = .ok (.iload_n 3, 1) := by decide +kernel
theorem dL_isBarrel_365 : decode cL_isBarrel 365 = .ok (.bipush 20, 2) := by decide +kernel
theorem dL_isBarrel_367 : decode cL_isBarrel 367 = .ok (.if_icmp .gt 74, 3) := by decide +kernel
theorem dL_isBarrel_370 : decode cL_isBarrel 370 = .ok (.iload 4, 2) := by decide +kernel
theorem dL_isBarrel_372 : decode cL_isBarrel 372 = .ok (.ifCond .lt 69, 3) := by decide +kernel
theorem dL_isBarrel_375 : decode cL_isBarrel 375 = .ok (.iload 4, 2) := by decide +kernel
theorem dL_isBarrel_377 : decode cL_isBarrel 377 = .ok (.iload_n 3, 1) := by decide +kernel
theorem dL_isBarrel_378 : decode cL_isBarrel 378 = .ok (.if_icmp .gt 63, 3) := by decide +kernel
theorem dL_isBarrel_381 : decode cL_isBarrel 381 = .ok (.iload 5, 2) := by decide +kernel
theorem dL_isBarrel_383 : decode cL_isBarrel 383 = .ok (.bipush 100, 2) := by decide +kernel
theorem dL_isBarrel_385 : decode cL_isBarrel 385 = .ok (.iload 4, 2) := by decide +kernel
theorem dL_isBarrel_387 : decode cL_isBarrel 387 = .ok (.imul, 1) := by decide +kernel
theorem dL_isBarrel_388 : decode cL_isBarrel 388 = .ok (.iload_n 3, 1) := by decide +kernel
theorem dL_isBarrel_389 : decode cL_isBarrel 389 = .ok (.idiv, 1) := by decide +kernel
theorem dL_isBarrel_390 : decode cL_isBarrel 390 = .ok (.if_icmp .ne 51, 3) := by decide +kernel
theorem dL_isBarrel_393 : decode cL_isBarrel 393 = .ok (.iload 10, 2) := by decide +kernel
theorem dL_isBarrel_395 : decode cL_isBarrel 395 = .ok (.ifCond .eq 46, 3) := by decide +kernel
theorem dL_isBarrel_398 : decode cL_isBarrel 398 = .ok (.iload 11, 2) := by decide +kernel
theorem dL_isBarrel_400 : decode cL_isBarrel 400 = .ok (.ifCond .eq 41, 3) := by decide +kernel
theorem dL_isBarrel_403 : decode cL_isBarrel 403 = .ok (.iload 14, 2) := by decide +kernel
theorem dL_isBarrel_405 : decode cL_isBarrel 405 = .ok (.ifCond .eq 36, 3) := by decide +kernel
theorem dL_isBarrel_408 : decode cL_isBarrel 408 = .ok (.aload_n 0, 1) := by decide +kernel
theorem dL_isBarrel_409 : decode cL_isBarrel 409 = .ok (.iload_n 1, 1) := by decide +kernel
theorem dL_isBarrel_410 : decode cL_isBarrel 410 = .ok (.iconst 3, 1) := by decide +kernel
theorem dL_isBarrel_411 : decode cL_isBarrel 411 = .ok (.invokestatic 254, 3) := by decide +kernel
theorem dL_isBarrel_414 : decode cL_isBarrel 414 = .ok (.aload_n 0, 1) := by decide +kernel
theorem dL_isBarrel_415 : decode cL_isBarrel 415 = .ok (.iconst 5, 1) := by decide +kernel
theorem dL_isBarrel_416 : decode cL_isBarrel 416 = .ok (.invokestatic 167, 3) := by decide +kernel
theorem dL_isBarrel_419 : decode cL_isBarrel 419 = .ok (.if_icmp .ge 22, 3) := by decide +kernel
theorem dL_isBarrel_422 : decode cL_isBarrel 422 = .ok (.iload 6, 2) := by decide +kernel
theorem dL_isBarrel_424 : decode cL_isBarrel 424 = .ok (.ifCond .lt 17, 3) := by decide +kernel
theorem dL_isBarrel_427 : decode cL_isBarrel 427 = .ok (.iload 6, 2) := by decide +kernel
theorem dL_isBarrel_429 : decode cL_isBarrel 429 = .ok (.aload_n 0, 1) := by decide +kernel
theorem dL_isBarrel_430 : decode cL_isBarrel 430 = .ok (.iconst 4, 1) := by decide +kernel
theorem dL_isBarrel_431 : decode cL_isBarrel 431 = .ok (.invokestatic 167, 3) := by decide +kernel
theorem dL_isBarrel_434 : decode cL_isBarrel 434 = .ok (.if_icmp .gt 7, 3) := by decide +kernel
theorem dL_isBarrel_437 : decode cL_isBarrel 437 = .ok (.iconst 1, 1) := by decide +kernel
theorem dL_isBarrel_438 : decode cL_isBarrel 438 = .ok (.goto 4, 3) := by decide +kernel
theorem dL_isBarrel_441 : decode cL_isBarrel 441 = .ok (.iconst 0, 1) := by decide +kernel
theorem dL_isBarrel_442 : decode cL_isBarrel 442 = .ok (.ireturn, 1) := by decide +kernel
theorem dL_isWhole_0 : decode cL_isWhole 0 = .ok (.aload_n 0, 1) := by decide +kernel
theorem dL_isWhole_1 : decode cL_isWhole 1 = .ok (.iconst 0, 1) := by decide +kernel
theorem dL_isWhole_2 : decode cL_isWhole 2 = .ok (.invokestatic 167, 3) := by decide +kernel
theorem dL_isWhole_5 : decode cL_isWhole 5 = .ok (.istore_n 2, 1) := by decide +kernel
theorem dL_isWhole_6 : decode cL_isWhole 6 = .ok (.iconst 0, 1) := by decide +kernel
theorem dL_isWhole_7 : decode cL_isWhole 7 = .ok (.istore_n 3, 1) := by decide +kernel
theorem dL_isWhole_8 : decode cL_isWhole 8 = .ok (.iconst 0, 1) := by decide +kernel
theorem dL_isWhole_9 : decode cL_isWhole 9 = .ok (.istore 4, 2) := by decide +kernel
theorem dL_isWhole_11 : decode cL_isWhole 11 = .ok (.iconst 0, 1) := by decide +kernel
theorem dL_isWhole_12 : decode cL_isWhole 12 = .ok (.istore 5, 2) := by decide +kernel
theorem dL_isWhole_14 : decode cL_isWhole 14 = .ok (.iconst 0, 1) := by decide +kernel
theorem dL_isWhole_15 : decode cL_isWhole 15 = .ok (.istore 6, 2) := by decide +kernel
theorem dL_isWhole_17 : decode cL_isWhole 17 = .ok (.iconst 0, 1) := by decide +kernel
theorem dL_isWhole_18 : decode cL_isWhole 18 = .ok (.istore 7, 2) := by decide +kernel
theorem dL_isWhole_20 : decode cL_isWhole 20 = .ok (.iload 7, 2) := by decide +kernel
theorem dL_isWhole_22 : decode cL_isWhole 22 = .ok (.iload_n 2, 1) := by decide +kernel
theorem dL_isWhole_23 : decode cL_isWhole 23 = .ok (.if_icmp .ge 179, 3) := by decide +kernel
theorem dL_isWhole_26 : decode cL_isWhole 26 = .ok (.aload_n 0, 1) := by decide +kernel
theorem dL_isWhole_27 : decode cL_isWhole 27 = .ok (.iload 7, 2) := by decide +kernel
theorem dL_isWhole_29 : decode cL_isWhole 29 = .ok (.iload_n 1, 1) := by decide +kernel
theorem dL_isWhole_30 : decode cL_isWhole 30 = .ok (.invokestatic 276, 3) := by decide +kernel
theorem dL_isWhole_33 : decode cL_isWhole 33 = .ok (.ifCond .ne 5, 3) := by decide +kernel
theorem dL_isWhole_36 : decode cL_isWhole 36 = .ok (.iconst 0, 1) := by decide +kernel
theorem dL_isWhole_37 : decode cL_isWhole 37 = .ok (.ireturn, 1) := by decide +kernel
theorem dL_isWhole_38 : decode cL_isWhole 38 = .ok (.iconst 0, 1) := by decide +kernel
theorem dL_isWhole_39 : decode cL_isWhole 39 = .ok (.istore 8, 2) := by decide +kernel
theorem dL_isWhole_41 : decode cL_isWhole 41 = .ok (.iload 8, 2) := by decide +kernel
theorem dL_isWhole_43 : decode cL_isWhole 43 = .ok (.iload_n 2, 1) := by decide +kernel
theorem dL_isWhole_44 : decode cL_isWhole 44 = .ok (.if_icmp .ge 95, 3) := by decide +kernel
theorem dL_isWhole_47 : decode cL_isWhole 47 = .ok (.iload 7, 2) := by decide +kernel
theorem dL_isWhole_49 : decode cL_isWhole 49 = .ok (.iload 8, 2) := by decide +kernel
theorem dL_isWhole_51 : decode cL_isWhole 51 = .ok (.if_icmp .eq 56, 3) := by decide +kernel
theorem dL_isWhole_54 : decode cL_isWhole 54 = .ok (.aload_n 0, 1) := by decide +kernel
theorem dL_isWhole_55 : decode cL_isWhole 55 = .ok (.iload 7, 2) := by decide +kernel
theorem dL_isWhole_57 : decode cL_isWhole 57 = .ok (.iconst 1, 1) := by decide +kernel
theorem dL_isWhole_58 : decode cL_isWhole 58 = .ok (.invokestatic 254, 3) := by decide +kernel
theorem dL_isWhole_61 : decode cL_isWhole 61 = .ok (.ifCond .le 46, 3) := by decide +kernel
theorem dL_isWhole_64 : decode cL_isWhole 64 = .ok (.aload_n 0, 1) := by decide +kernel
theorem dL_isWhole_65 : decode cL_isWhole 65 = .ok (.iload 8, 2) := by decide +kernel
theorem dL_isWhole_67 : decode cL_isWhole 67 = .ok (.iconst 1, 1) := by decide +kernel
theorem dL_isWhole_68 : decode cL_isWhole 68 = .ok (.invokestatic 254, 3) := by decide +kernel
theorem dL_isWhole_71 : decode cL_isWhole 71 = .ok (.bipush 20, 2) := by decide +kernel
theorem dL_isWhole_73 : decode cL_isWhole 73 = .ok (.if_icmp .ge 34, 3) := by decide +kernel
theorem dL_isWhole_76 : decode cL_isWhole 76 = .ok (.aload_n 0, 1) := by decide +kernel
theorem dL_isWhole_77 : decode cL_isWhole 77 = .ok (.iload 8, 2) := by decide +kernel
theorem dL_isWhole_79 : decode cL_isWhole 79 = .ok (.iconst 1, 1) := by decide +kernel
theorem dL_isWhole_80 : decode cL_isWhole 80 = .ok (.invokestatic 254, 3) := by decide +kernel
theorem dL_isWhole_83 : decode cL_isWhole 83 = .ok (.ifCond .eq 20, 3) := by decide +kernel
theorem dL_isWhole_86 : decode cL_isWhole 86 = .ok (.aload_n 0, 1) := by decide +kernel
theorem dL_isWhole_87 : decode cL_isWhole 87 = .ok (.iload 7, 2) := by decide +kernel
theorem dL_isWhole_89 : decode cL_isWhole 89 = .ok (.iconst 3, 1) := by decide +kernel
theorem dL_isWhole_90 : decode cL_isWhole 90 = .ok (.invokestatic 254, 3) := by decide +kernel
theorem dL_isWhole_93 : decode cL_isWhole 93 = .ok (.aload_n 0, 1) := by decide +kernel
theorem dL_isWhole_94 : decode cL_isWhole 94 = .ok (.iload 8, 2) := by decide +kernel
