theorem dL_law_313 : decode cL_law 313 = .ok (.iload 19, 2) := by decide +kernel
theorem dL_law_315 : decode cL_law 315 = .ok (.imul, 1) := by decide +kernel
theorem dL_law_316 : decode cL_law 316 = .ok (.goto 4, 3) := by decide +kernel
theorem dL_law_319 : decode cL_law 319 = .ok (.iconst 0, 1) := by decide +kernel
theorem dL_law_320 : decode cL_law 320 = .ok (.if_icmp .ne 29, 3) := by decide +kernel
theorem dL_law_323 : decode cL_law 323 = .ok (.aload_n 1, 1) := by decide +kernel
theorem dL_law_324 : decode cL_law 324 = .ok (.bipush 9, 2) := by decide +kernel
theorem dL_law_326 : decode cL_law 326 = .ok (.invokestatic 167, 3) := by decide +kernel
theorem dL_law_329 : decode cL_law 329 = .ok (.iload 18, 2) := by decide +kernel
theorem dL_law_331 : decode cL_law 331 = .ok (.iload 17, 2) := by decide +kernel
theorem dL_law_333 : decode cL_law 333 = .ok (.ifCond .ne 7, 3) := by decide +kernel
theorem dL_law_336 : decode cL_law 336 = .ok (.iconst 0, 1) := by decide +kernel
theorem dL_law_337 : decode cL_law 337 = .ok (.goto 4, 3) := by decide +kernel
theorem dL_law_340 : decode cL_law 340 = .ok (.iconst 1, 1) := by decide +kernel
theorem dL_law_341 : decode cL_law 341 = .ok (.iadd, 1) := by decide +kernel
theorem dL_law_342 : decode cL_law 342 = .ok (.if_icmp .ne 7, 3) := by decide +kernel
theorem dL_law_345 : decode cL_law 345 = .ok (.iconst 1, 1) := by decide +kernel
theorem dL_law_346 : decode cL_law 346 = .ok (.goto 4, 3) := by decide +kernel
theorem dL_law_349 : decode cL_law 349 = .ok (.iconst 0, 1) := by decide +kernel
theorem dL_law_350 : decode cL_law 350 = .ok (.iand, 1) := by decide +kernel
theorem dL_law_351 : decode cL_law 351 = .ok (.istore 23, 2) := by decide +kernel
theorem dL_law_353 : decode cL_law 353 = .ok (.iinc 4 6, 3) := by decide +kernel
theorem dL_law_356 : decode cL_law 356 = .ok (.iload 23, 2) := by decide +kernel
theorem dL_law_358 : decode cL_law 358 = .ok (.ifCond .eq 18, 3) := by decide +kernel
theorem dL_law_361 : decode cL_law 361 = .ok (.aload_n 1, 1) := by decide +kernel
theorem dL_law_362 : decode cL_law 362 = .ok (.aload_n 0, 1) := by decide +kernel
theorem dL_law_363 : decode cL_law 363 = .ok (.iload 4, 2) := by decide +kernel
theorem dL_law_365 : decode cL_law 365 = .ok (.bipush 21, 2) := by decide +kernel
theorem dL_law_367 : decode cL_law 367 = .ok (.invokestatic 169, 3) := by decide +kernel
theorem dL_law_370 : decode cL_law 370 = .ok (.invokestatic 185, 3) := by decide +kernel
theorem dL_law_373 : decode cL_law 373 = .ok (.ifCond .ne 5, 3) := by decide +kernel
theorem dL_law_376 : decode cL_law 376 = .ok (.iconst 0, 1) := by decide +kernel
theorem dL_law_377 : decode cL_law 377 = .ok (.ireturn, 1) := by decide +kernel
theorem dL_law_378 : decode cL_law 378 = .ok (.iload 20, 2) := by decide +kernel
theorem dL_law_380 : decode cL_law 380 = .ok (.bipush (-74), 2) := by decide +kernel
theorem dL_law_382 : decode cL_law 382 = .ok (.if_icmp .gt 35, 3) := by decide +kernel
theorem dL_law_385 : decode cL_law 385 = .ok (.aload_n 1, 1) := by decide +kernel
theorem dL_law_386 : decode cL_law 386 = .ok (.invokestatic 163, 3) := by decide +kernel
theorem dL_law_389 : decode cL_law 389 = .ok (.lload 6, 2) := by decide +kernel
theorem dL_law_391 : decode cL_law 391 = .ok (.lcmp, 1) := by decide +kernel
theorem dL_law_392 : decode cL_law 392 = .ok (.ifCond .ne 23, 3) := by decide +kernel
theorem dL_law_395 : decode cL_law 395 = .ok (.aload_n 1, 1) := by decide +kernel
theorem dL_law_396 : decode cL_law 396 = .ok (.bipush 10, 2) := by decide +kernel
theorem dL_law_398 : decode cL_law 398 = .ok (.invokestatic 167, 3) := by decide +kernel
theorem dL_law_401 : decode cL_law 401 = .ok (.iload 8, 2) := by decide +kernel
theorem dL_law_403 : decode cL_law 403 = .ok (.if_icmp .ne 12, 3) := by decide +kernel
theorem dL_law_406 : decode cL_law 406 = .ok (.aload_n 1, 1) := by decide +kernel
theorem dL_law_407 : decode cL_law 407 = .ok (.bipush 11, 2) := by decide +kernel
theorem dL_law_409 : decode cL_law 409 = .ok (.invokestatic 167, 3) := by decide +kernel
theorem dL_law_412 : decode cL_law 412 = .ok (.ifCond .eq 15, 3) := by decide +kernel
theorem dL_law_415 : decode cL_law 415 = .ok (.iconst 0, 1) := by decide +kernel
theorem dL_law_416 : decode cL_law 416 = .ok (.ireturn, 1) := by decide +kernel
theorem dL_law_417 : decode cL_law 417 = .ok (.iinc 3 1, 3) := by decide +kernel
theorem dL_law_420 : decode cL_law 420 = .ok (.aload_n 2, 1) := by decide +kernel
theorem dL_law_421 : decode cL_law 421 = .ok (.iload_n 3, 1) := by decide +kernel
theorem dL_law_422 : decode cL_law 422 = .ok (.aload_n 1, 1) := by decide +kernel
theorem dL_law_423 : decode cL_law 423 = .ok (.invokestatic 163, 3) := by decide +kernel
theorem dL_law_426 : decode cL_law 426 = .ok (.lastore, 1) := by decide +kernel
theorem dL_law_427 : decode cL_law 427 = .ok (.iinc 5 1, 3) := by decide +kernel
theorem dL_law_430 : decode cL_law 430 = .ok (.goto (-402), 3) := by decide +kernel
theorem dL_law_433 : decode cL_law 433 = .ok (.aload_n 1, 1) := by decide +kernel
theorem dL_law_434 : decode cL_law 434 = .ok (.aload_n 2, 1) := by decide +kernel
theorem dL_law_435 : decode cL_law 435 = .ok (.iload_n 3, 1) := by decide +kernel
theorem dL_law_436 : decode cL_law 436 = .ok (.invokestatic 189, 3) := by decide +kernel
theorem dL_law_439 : decode cL_law 439 = .ok (.ireturn, 1) := by decide +kernel
theorem dL_does_0 : decode cL_does 0 = .ok (.aload_n 0, 1) := by decide +kernel
theorem dL_does_1 : decode cL_does 1 = .ok (.iload_n 1, 1) := by decide +kernel
theorem dL_does_2 : decode cL_does 2 = .ok (.iconst 1, 1) := by decide +kernel
theorem dL_does_3 : decode cL_does 3 = .ok (.iadd, 1) := by decide +kernel
theorem dL_does_4 : decode cL_does 4 = .ok (.sipush 1000, 3) := by decide +kernel
theorem dL_does_7 : decode cL_does 7 = .ok (.invokestatic 169, 3) := by decide +kernel
theorem dL_does_10 : decode cL_does 10 = .ok (.istore 6, 2) := by decide +kernel
theorem dL_does_12 : decode cL_does 12 = .ok (.iload 6, 2) := by decide +kernel
theorem dL_does_14 : decode cL_does 14 = .ok (.aload_n 3, 1) := by decide +kernel
theorem dL_does_15 : decode cL_does 15 = .ok (.iconst 0, 1) := by decide +kernel
theorem dL_does_16 : decode cL_does 16 = .ok (.invokestatic 167, 3) := by decide +kernel
theorem dL_does_19 : decode cL_does 19 = .ok (.iconst 1, 1) := by decide +kernel
theorem dL_does_20 : decode cL_does 20 = .ok (.iadd, 1) := by decide +kernel
theorem dL_does_21 : decode cL_does 21 = .ok (.irem, 1) := by decide +kernel
theorem dL_does_22 : decode cL_does 22 = .ok (.istore 7, 2) := by decide +kernel
theorem dL_does_24 : decode cL_does 24 = .ok (.iload_n 2, 1) := by decide +kernel
theorem dL_does_25 : decode cL_does 25 = .ok (.tableswitch 240 0 28 #[131, 131, 131, 140, 140, 140, 140, 151, 151, 156, 156, 178, 187, 196, 203, 203, 203, 203, 203, 203, 217, 217, 217, 217, 217, 224, 224, 224, 224], 131) := by decide +kernel
theorem dL_does_156 : decode cL_does 156 = .ok (.aload_n 3, 1) := by decide +kernel
theorem dL_does_157 : decode cL_does 157 = .ok (.iload 6, 2) := by decide +kernel
theorem dL_does_159 : decode cL_does 159 = .ok (.iconst 5, 1) := by decide +kernel
theorem dL_does_160 : decode cL_does 160 = .ok (.irem, 1) := by decide +kernel
theorem dL_does_161 : decode cL_does 161 = .ok (.invokestatic 193, 3) := by decide +kernel
theorem dL_does_164 : decode cL_does 164 = .ok (.ireturn, 1) := by decide +kernel
theorem dL_does_165 : decode cL_does 165 = .ok (.aload_n 3, 1) := by decide +kernel
theorem dL_does_166 : decode cL_does 166 = .ok (.iload 5, 2) := by decide +kernel
theorem dL_does_168 : decode cL_does 168 = .ok (.iload 6, 2) := by decide +kernel
theorem dL_does_170 : decode cL_does 170 = .ok (.iconst 4, 1) := by decide +kernel
theorem dL_does_171 : decode cL_does 171 = .ok (.irem, 1) := by decide +kernel
theorem dL_does_172 : decode cL_does 172 = .ok (.invokestatic 195, 3) := by decide +kernel
theorem dL_does_175 : decode cL_does 175 = .ok (.ireturn, 1) := by decide +kernel
theorem dL_does_176 : decode cL_does 176 = .ok (.aload_n 3, 1) := by decide +kernel
theorem dL_does_177 : decode cL_does 177 = .ok (.invokevirtual 198, 3) := by decide +kernel
theorem dL_does_180 : decode cL_does 180 = .ok (.ireturn, 1) := by decide +kernel
theorem dL_does_181 : decode cL_does 181 = .ok (.aload_n 3, 1) := by decide +kernel
theorem dL_does_182 : decode cL_does 182 = .ok (.iload 6, 2) := by decide +kernel
