theorem dL_isWhole_280 : decode cL_isWhole 280 = .ok (.istore 8, 2) := by decide +kernel
theorem dL_isWhole_282 : decode cL_isWhole 282 = .ok (.iinc 9 1, 3) := by decide +kernel
theorem dL_isWhole_285 : decode cL_isWhole 285 = .ok (.goto (-74), 3) := by decide +kernel
theorem dL_isWhole_288 : decode cL_isWhole 288 = .ok (.iconst 0, 1) := by decide +kernel
theorem dL_isWhole_289 : decode cL_isWhole 289 = .ok (.istore 9, 2) := by decide +kernel
theorem dL_isWhole_291 : decode cL_isWhole 291 = .ok (.iconst 0, 1) := by decide +kernel
theorem dL_isWhole_292 : decode cL_isWhole 292 = .ok (.istore 10, 2) := by decide +kernel
theorem dL_isWhole_294 : decode cL_isWhole 294 = .ok (.iload 10, 2) := by decide +kernel
theorem dL_isWhole_296 : decode cL_isWhole 296 = .ok (.aload_n 0, 1) := by decide +kernel
theorem dL_isWhole_297 : decode cL_isWhole 297 = .ok (.iconst 5, 1) := by decide +kernel
theorem dL_isWhole_298 : decode cL_isWhole 298 = .ok (.invokestatic 167, 3) := by decide +kernel
theorem dL_isWhole_301 : decode cL_isWhole 301 = .ok (.if_icmp .ge 108, 3) := by decide +kernel
theorem dL_isWhole_304 : decode cL_isWhole 304 = .ok (.iload 10, 2) := by decide +kernel
theorem dL_isWhole_306 : decode cL_isWhole 306 = .ok (.aload_n 0, 1) := by decide +kernel
theorem dL_isWhole_307 : decode cL_isWhole 307 = .ok (.iconst 5, 1) := by decide +kernel
theorem dL_isWhole_308 : decode cL_isWhole 308 = .ok (.invokestatic 167, 3) := by decide +kernel
theorem dL_isWhole_311 : decode cL_isWhole 311 = .ok (.bipush 12, 2) := by decide +kernel
theorem dL_isWhole_313 : decode cL_isWhole 313 = .ok (.isub, 1) := by decide +kernel
theorem dL_isWhole_314 : decode cL_isWhole 314 = .ok (.if_icmp .lt 7, 3) := by decide +kernel
theorem dL_isWhole_317 : decode cL_isWhole 317 = .ok (.iconst 1, 1) := by decide +kernel
theorem dL_isWhole_318 : decode cL_isWhole 318 = .ok (.goto 4, 3) := by decide +kernel
theorem dL_isWhole_321 : decode cL_isWhole 321 = .ok (.iconst 0, 1) := by decide +kernel
theorem dL_isWhole_322 : decode cL_isWhole 322 = .ok (.istore 11, 2) := by decide +kernel
theorem dL_isWhole_324 : decode cL_isWhole 324 = .ok (.iload 11, 2) := by decide +kernel
theorem dL_isWhole_326 : decode cL_isWhole 326 = .ok (.ifCond .eq 52, 3) := by decide +kernel
theorem dL_isWhole_329 : decode cL_isWhole 329 = .ok (.aload_n 0, 1) := by decide +kernel
theorem dL_isWhole_330 : decode cL_isWhole 330 = .ok (.iload 10, 2) := by decide +kernel
theorem dL_isWhole_332 : decode cL_isWhole 332 = .ok (.iconst 0, 1) := by decide +kernel
theorem dL_isWhole_333 : decode cL_isWhole 333 = .ok (.invokestatic 285, 3) := by decide +kernel
theorem dL_isWhole_336 : decode cL_isWhole 336 = .ok (.iconst 1, 1) := by decide +kernel
theorem dL_isWhole_337 : decode cL_isWhole 337 = .ok (.if_icmp .lt 53, 3) := by decide +kernel
theorem dL_isWhole_340 : decode cL_isWhole 340 = .ok (.aload_n 0, 1) := by decide +kernel
theorem dL_isWhole_341 : decode cL_isWhole 341 = .ok (.iload 10, 2) := by decide +kernel
theorem dL_isWhole_343 : decode cL_isWhole 343 = .ok (.iconst 1, 1) := by decide +kernel
theorem dL_isWhole_344 : decode cL_isWhole 344 = .ok (.invokestatic 285, 3) := by decide +kernel
theorem dL_isWhole_347 : decode cL_isWhole 347 = .ok (.aload_n 0, 1) := by decide +kernel
theorem dL_isWhole_348 : decode cL_isWhole 348 = .ok (.iconst 4, 1) := by decide +kernel
theorem dL_isWhole_349 : decode cL_isWhole 349 = .ok (.invokestatic 167, 3) := by decide +kernel
theorem dL_isWhole_352 : decode cL_isWhole 352 = .ok (.if_icmp .gt 38, 3) := by decide +kernel
theorem dL_isWhole_355 : decode cL_isWhole 355 = .ok (.aload_n 0, 1) := by decide +kernel
theorem dL_isWhole_356 : decode cL_isWhole 356 = .ok (.iload 10, 2) := by decide +kernel
theorem dL_isWhole_358 : decode cL_isWhole 358 = .ok (.iconst 2, 1) := by decide +kernel
theorem dL_isWhole_359 : decode cL_isWhole 359 = .ok (.invokestatic 285, 3) := by decide +kernel
theorem dL_isWhole_362 : decode cL_isWhole 362 = .ok (.bipush 10, 2) := by decide +kernel
theorem dL_isWhole_364 : decode cL_isWhole 364 = .ok (.aload_n 0, 1) := by decide +kernel
theorem dL_isWhole_365 : decode cL_isWhole 365 = .ok (.iload 10, 2) := by decide +kernel
theorem dL_isWhole_367 : decode cL_isWhole 367 = .ok (.iconst 0, 1) := by decide +kernel
theorem dL_isWhole_368 : decode cL_isWhole 368 = .ok (.invokestatic 285, 3) := by decide +kernel
theorem dL_isWhole_371 : decode cL_isWhole 371 = .ok (.imul, 1) := by decide +kernel
theorem dL_isWhole_372 : decode cL_isWhole 372 = .ok (.if_icmp .le 20, 3) := by decide +kernel
theorem dL_isWhole_375 : decode cL_isWhole 375 = .ok (.goto 15, 3) := by decide +kernel
theorem dL_isWhole_378 : decode cL_isWhole 378 = .ok (.aload_n 0, 1) := by decide +kernel
theorem dL_isWhole_379 : decode cL_isWhole 379 = .ok (.iload 10, 2) := by decide +kernel
theorem dL_isWhole_381 : decode cL_isWhole 381 = .ok (.iconst 0, 1) := by decide +kernel
theorem dL_isWhole_382 : decode cL_isWhole 382 = .ok (.invokestatic 285, 3) := by decide +kernel
theorem dL_isWhole_385 : decode cL_isWhole 385 = .ok (.bipush (-75), 2) := by decide +kernel
theorem dL_isWhole_387 : decode cL_isWhole 387 = .ok (.if_icmp .eq 5, 3) := by decide +kernel
theorem dL_isWhole_390 : decode cL_isWhole 390 = .ok (.iconst 0, 1) := by decide +kernel
theorem dL_isWhole_391 : decode cL_isWhole 391 = .ok (.ireturn, 1) := by decide +kernel
theorem dL_isWhole_392 : decode cL_isWhole 392 = .ok (.iload 9, 2) := by decide +kernel
theorem dL_isWhole_394 : decode cL_isWhole 394 = .ok (.aload_n 0, 1) := by decide +kernel
theorem dL_isWhole_395 : decode cL_isWhole 395 = .ok (.iload 10, 2) := by decide +kernel
theorem dL_isWhole_397 : decode cL_isWhole 397 = .ok (.invokestatic 287, 3) := by decide +kernel
theorem dL_isWhole_400 : decode cL_isWhole 400 = .ok (.iadd, 1) := by decide +kernel
theorem dL_isWhole_401 : decode cL_isWhole 401 = .ok (.istore 9, 2) := by decide +kernel
theorem dL_isWhole_403 : decode cL_isWhole 403 = .ok (.iinc 10 1, 3) := by decide +kernel
theorem dL_isWhole_406 : decode cL_isWhole 406 = .ok (.goto (-112), 3) := by decide +kernel
theorem dL_isWhole_409 : decode cL_isWhole 409 = .ok (.iconst 0, 1) := by decide +kernel
theorem dL_isWhole_410 : decode cL_isWhole 410 = .ok (.istore 10, 2) := by decide +kernel
theorem dL_isWhole_412 : decode cL_isWhole 412 = .ok (.iload 10, 2) := by decide +kernel
theorem dL_isWhole_414 : decode cL_isWhole 414 = .ok (.iconst 4, 1) := by decide +kernel
theorem dL_isWhole_415 : decode cL_isWhole 415 = .ok (.if_icmp .ge 84, 3) := by decide +kernel
theorem dL_isWhole_418 : decode cL_isWhole 418 = .ok (.iconst 1, 1) := by decide +kernel
theorem dL_isWhole_419 : decode cL_isWhole 419 = .ok (.istore 11, 2) := by decide +kernel
theorem dL_isWhole_421 : decode cL_isWhole 421 = .ok (.iload 11, 2) := by decide +kernel
theorem dL_isWhole_423 : decode cL_isWhole 423 = .ok (.iload_n 2, 1) := by decide +kernel
theorem dL_isWhole_424 : decode cL_isWhole 424 = .ok (.if_icmp .ge 69, 3) := by decide +kernel
theorem dL_isWhole_427 : decode cL_isWhole 427 = .ok (.aload_n 0, 1) := by decide +kernel
theorem dL_isWhole_428 : decode cL_isWhole 428 = .ok (.iload 10, 2) := by decide +kernel
theorem dL_isWhole_430 : decode cL_isWhole 430 = .ok (.iload 11, 2) := by decide +kernel
theorem dL_isWhole_432 : decode cL_isWhole 432 = .ok (.iconst 1, 1) := by decide +kernel
theorem dL_isWhole_433 : decode cL_isWhole 433 = .ok (.isub, 1) := by decide +kernel
theorem dL_isWhole_434 : decode cL_isWhole 434 = .ok (.invokestatic 289, 3) := by decide +kernel
theorem dL_isWhole_437 : decode cL_isWhole 437 = .ok (.istore 12, 2) := by decide +kernel
theorem dL_isWhole_439 : decode cL_isWhole 439 = .ok (.aload_n 0, 1) := by decide +kernel
theorem dL_isWhole_440 : decode cL_isWhole 440 = .ok (.iload 10, 2) := by decide +kernel
theorem dL_isWhole_442 : decode cL_isWhole 442 = .ok (.iload 11, 2) := by decide +kernel
theorem dL_isWhole_444 : decode cL_isWhole 444 = .ok (.invokestatic 289, 3) := by decide +kernel
theorem dL_isWhole_447 : decode cL_isWhole 447 = .ok (.istore 13, 2) := by decide +kernel
theorem dL_isWhole_449 : decode cL_isWhole 449 = .ok (.aload_n 0, 1) := by decide +kernel
theorem dL_isWhole_450 : decode cL_isWhole 450 = .ok (.iload 10, 2) := by decide +kernel
theorem dL_isWhole_452 : decode cL_isWhole 452 = .ok (.iload 12, 2) := by decide +kernel
theorem dL_isWhole_454 : decode cL_isWhole 454 = .ok (.invokestatic 291, 3) := by decide +kernel
theorem dL_isWhole_457 : decode cL_isWhole 457 = .ok (.aload_n 0, 1) := by decide +kernel
theorem dL_isWhole_458 : decode cL_isWhole 458 = .ok (.iload 10, 2) := by decide +kernel
theorem dL_isWhole_460 : decode cL_isWhole 460 = .ok (.iload 13, 2) := by decide +kernel
theorem dL_isWhole_462 : decode cL_isWhole 462 = .ok (.invokestatic 291, 3) := by decide +kernel
theorem dL_isWhole_465 : decode cL_isWhole 465 = .ok (.isub, 1) := by decide +kernel
theorem dL_isWhole_466 : decode cL_isWhole 466 = .ok (.istore 14, 2) := by decide +kernel
theorem dL_isWhole_468 : decode cL_isWhole 468 = .ok (.iload 14, 2) := by decide +kernel
