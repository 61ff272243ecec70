theorem dL_act_347 : decode cL_act 347 = .ok (.aload_n 1, 1) := by decide +kernel
theorem dL_act_348 : decode cL_act 348 = .ok (.iload 7, 2) := by decide +kernel
theorem dL_act_350 : decode cL_act 350 = .ok (.iload 8, 2) := by decide +kernel
theorem dL_act_352 : decode cL_act 352 = .ok (.invokevirtual 43, 3) := by decide +kernel
theorem dL_act_355 : decode cL_act 355 = .ok (.aload_n 0, 1) := by decide +kernel
theorem dL_act_356 : decode cL_act 356 = .ok (.iload 7, 2) := by decide +kernel
theorem dL_act_358 : decode cL_act 358 = .ok (.iload 8, 2) := by decide +kernel
theorem dL_act_360 : decode cL_act 360 = .ok (.invokevirtual 47, 3) := by decide +kernel
theorem dL_act_363 : decode cL_act 363 = .ok (.aload_n 1, 1) := by decide +kernel
theorem dL_act_364 : decode cL_act 364 = .ok (.getfield 9, 3) := by decide +kernel
theorem dL_act_367 : decode cL_act 367 = .ok (.iload 7, 2) := by decide +kernel
theorem dL_act_369 : decode cL_act 369 = .ok (.aaload, 1) := by decide +kernel
theorem dL_act_370 : decode cL_act 370 = .ok (.iconst 4, 1) := by decide +kernel
theorem dL_act_371 : decode cL_act 371 = .ok (.iaload, 1) := by decide +kernel
theorem dL_act_372 : decode cL_act 372 = .ok (.if_icmp .ne 7, 3) := by decide +kernel
theorem dL_act_375 : decode cL_act 375 = .ok (.iconst 1, 1) := by decide +kernel
theorem dL_act_376 : decode cL_act 376 = .ok (.goto 4, 3) := by decide +kernel
theorem dL_act_379 : decode cL_act 379 = .ok (.iconst 0, 1) := by decide +kernel
theorem dL_act_380 : decode cL_act 380 = .ok (.ireturn, 1) := by decide +kernel
theorem dL_act_381 : decode cL_act 381 = .ok (.aload_n 1, 1) := by decide +kernel
theorem dL_act_382 : decode cL_act 382 = .ok (.getfield 9, 3) := by decide +kernel
theorem dL_act_385 : decode cL_act 385 = .ok (.iload 7, 2) := by decide +kernel
theorem dL_act_387 : decode cL_act 387 = .ok (.aaload, 1) := by decide +kernel
theorem dL_act_388 : decode cL_act 388 = .ok (.iconst 5, 1) := by decide +kernel
theorem dL_act_389 : decode cL_act 389 = .ok (.iaload, 1) := by decide +kernel
theorem dL_act_390 : decode cL_act 390 = .ok (.ifCond .ne 7, 3) := by decide +kernel
theorem dL_act_393 : decode cL_act 393 = .ok (.iconst 1, 1) := by decide +kernel
theorem dL_act_394 : decode cL_act 394 = .ok (.goto 4, 3) := by decide +kernel
theorem dL_act_397 : decode cL_act 397 = .ok (.iconst 0, 1) := by decide +kernel
theorem dL_act_398 : decode cL_act 398 = .ok (.istore 5, 2) := by decide +kernel
theorem dL_act_400 : decode cL_act 400 = .ok (.aload_n 1, 1) := by decide +kernel
theorem dL_act_401 : decode cL_act 401 = .ok (.getfield 9, 3) := by decide +kernel
theorem dL_act_404 : decode cL_act 404 = .ok (.iload 7, 2) := by decide +kernel
theorem dL_act_406 : decode cL_act 406 = .ok (.aaload, 1) := by decide +kernel
theorem dL_act_407 : decode cL_act 407 = .ok (.iconst 5, 1) := by decide +kernel
theorem dL_act_408 : decode cL_act 408 = .ok (.iconst 1, 1) := by decide +kernel
theorem dL_act_409 : decode cL_act 409 = .ok (.iastore, 1) := by decide +kernel
theorem dL_act_410 : decode cL_act 410 = .ok (.aload_n 0, 1) := by decide +kernel
theorem dL_act_411 : decode cL_act 411 = .ok (.iload 7, 2) := by decide +kernel
theorem dL_act_413 : decode cL_act 413 = .ok (.invokevirtual 49, 3) := by decide +kernel
theorem dL_act_416 : decode cL_act 416 = .ok (.aload_n 1, 1) := by decide +kernel
theorem dL_act_417 : decode cL_act 417 = .ok (.invokevirtual 52, 3) := by decide +kernel
theorem dL_act_420 : decode cL_act 420 = .ok (.if_icmp .ne 12, 3) := by decide +kernel
theorem dL_act_423 : decode cL_act 423 = .ok (.iload 5, 2) := by decide +kernel
theorem dL_act_425 : decode cL_act 425 = .ok (.ifCond .eq 7, 3) := by decide +kernel
theorem dL_act_428 : decode cL_act 428 = .ok (.iconst 1, 1) := by decide +kernel
theorem dL_act_429 : decode cL_act 429 = .ok (.goto 4, 3) := by decide +kernel
theorem dL_act_432 : decode cL_act 432 = .ok (.iconst 0, 1) := by decide +kernel
theorem dL_act_433 : decode cL_act 433 = .ok (.ireturn, 1) := by decide +kernel
theorem dL_act_434 : decode cL_act 434 = .ok (.aload_n 1, 1) := by decide +kernel
theorem dL_act_435 : decode cL_act 435 = .ok (.getfield 9, 3) := by decide +kernel
theorem dL_act_438 : decode cL_act 438 = .ok (.iload 7, 2) := by decide +kernel
theorem dL_act_440 : decode cL_act 440 = .ok (.aaload, 1) := by decide +kernel
theorem dL_act_441 : decode cL_act 441 = .ok (.iconst 5, 1) := by decide +kernel
theorem dL_act_442 : decode cL_act 442 = .ok (.iaload, 1) := by decide +kernel
theorem dL_act_443 : decode cL_act 443 = .ok (.iconst 1, 1) := by decide +kernel
theorem dL_act_444 : decode cL_act 444 = .ok (.if_icmp .ne 7, 3) := by decide +kernel
theorem dL_act_447 : decode cL_act 447 = .ok (.iconst 1, 1) := by decide +kernel
theorem dL_act_448 : decode cL_act 448 = .ok (.goto 4, 3) := by decide +kernel
theorem dL_act_451 : decode cL_act 451 = .ok (.iconst 0, 1) := by decide +kernel
theorem dL_act_452 : decode cL_act 452 = .ok (.istore 5, 2) := by decide +kernel
theorem dL_act_454 : decode cL_act 454 = .ok (.aload_n 1, 1) := by decide +kernel
theorem dL_act_455 : decode cL_act 455 = .ok (.getfield 9, 3) := by decide +kernel
theorem dL_act_458 : decode cL_act 458 = .ok (.iload 7, 2) := by decide +kernel
theorem dL_act_460 : decode cL_act 460 = .ok (.aaload, 1) := by decide +kernel
theorem dL_act_461 : decode cL_act 461 = .ok (.iconst 5, 1) := by decide +kernel
theorem dL_act_462 : decode cL_act 462 = .ok (.iconst 0, 1) := by decide +kernel
theorem dL_act_463 : decode cL_act 463 = .ok (.iastore, 1) := by decide +kernel
theorem dL_act_464 : decode cL_act 464 = .ok (.aload_n 0, 1) := by decide +kernel
theorem dL_act_465 : decode cL_act 465 = .ok (.iload 7, 2) := by decide +kernel
theorem dL_act_467 : decode cL_act 467 = .ok (.invokevirtual 55, 3) := by decide +kernel
theorem dL_act_470 : decode cL_act 470 = .ok (.aload_n 1, 1) := by decide +kernel
theorem dL_act_471 : decode cL_act 471 = .ok (.invokevirtual 52, 3) := by decide +kernel
theorem dL_act_474 : decode cL_act 474 = .ok (.if_icmp .ne 12, 3) := by decide +kernel
theorem dL_act_477 : decode cL_act 477 = .ok (.iload 5, 2) := by decide +kernel
theorem dL_act_479 : decode cL_act 479 = .ok (.ifCond .eq 7, 3) := by decide +kernel
theorem dL_act_482 : decode cL_act 482 = .ok (.iconst 1, 1) := by decide +kernel
theorem dL_act_483 : decode cL_act 483 = .ok (.goto 4, 3) := by decide +kernel
theorem dL_act_486 : decode cL_act 486 = .ok (.iconst 0, 1) := by decide +kernel
theorem dL_act_487 : decode cL_act 487 = .ok (.ireturn, 1) := by decide +kernel
theorem dL_act_488 : decode cL_act 488 = .ok (.aload_n 1, 1) := by decide +kernel
theorem dL_act_489 : decode cL_act 489 = .ok (.getfield 58, 3) := by decide +kernel
theorem dL_act_492 : decode cL_act 492 = .ok (.istore 8, 2) := by decide +kernel
theorem dL_act_494 : decode cL_act 494 = .ok (.aload_n 1, 1) := by decide +kernel
theorem dL_act_495 : decode cL_act 495 = .ok (.iload_n 2, 1) := by decide +kernel
theorem dL_act_496 : decode cL_act 496 = .ok (.iconst 5, 1) := by decide +kernel
theorem dL_act_497 : decode cL_act 497 = .ok (.ishr, 1) := by decide +kernel
theorem dL_act_498 : decode cL_act 498 = .ok (.iload_n 2, 1) := by decide +kernel
theorem dL_act_499 : decode cL_act 499 = .ok (.bipush 9, 2) := by decide +kernel
theorem dL_act_501 : decode cL_act 501 = .ok (.ishr, 1) := by decide +kernel
