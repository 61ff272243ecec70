theorem dL_law_387 : decode cL_law 387 = .ok (.istore 15, 2) := by decide +kernel
theorem dL_law_389 : decode cL_law 389 = .ok (.iload 15, 2) := by decide +kernel
theorem dL_law_391 : decode cL_law 391 = .ok (.iload 8, 2) := by decide +kernel
theorem dL_law_393 : decode cL_law 393 = .ok (.if_icmp .ge 241, 3) := by decide +kernel
theorem dL_law_396 : decode cL_law 396 = .ok (.aload_n 1, 1) := by decide +kernel
theorem dL_law_397 : decode cL_law 397 = .ok (.iload 15, 2) := by decide +kernel
theorem dL_law_399 : decode cL_law 399 = .ok (.invokevirtual 143, 3) := by decide +kernel
theorem dL_law_402 : decode cL_law 402 = .ok (.ifCond .ge 16, 3) := by decide +kernel
theorem dL_law_405 : decode cL_law 405 = .ok (.aload_n 1, 1) := by decide +kernel
theorem dL_law_406 : decode cL_law 406 = .ok (.iload 15, 2) := by decide +kernel
theorem dL_law_408 : decode cL_law 408 = .ok (.invokevirtual 146, 3) := by decide +kernel
theorem dL_law_411 : decode cL_law 411 = .ok (.ifCond .ge 7, 3) := by decide +kernel
theorem dL_law_414 : decode cL_law 414 = .ok (.iconst 1, 1) := by decide +kernel
theorem dL_law_415 : decode cL_law 415 = .ok (.goto 4, 3) := by decide +kernel
theorem dL_law_418 : decode cL_law 418 = .ok (.iconst 0, 1) := by decide +kernel
theorem dL_law_419 : decode cL_law 419 = .ok (.istore 16, 2) := by decide +kernel
theorem dL_law_421 : decode cL_law 421 = .ok (.aload_n 1, 1) := by decide +kernel
theorem dL_law_422 : decode cL_law 422 = .ok (.iload 15, 2) := by decide +kernel
theorem dL_law_424 : decode cL_law 424 = .ok (.invokevirtual 149, 3) := by decide +kernel
theorem dL_law_427 : decode cL_law 427 = .ok (.aload_n 2, 1) := by decide +kernel
theorem dL_law_428 : decode cL_law 428 = .ok (.getfield 9, 3) := by decide +kernel
theorem dL_law_431 : decode cL_law 431 = .ok (.iload 12, 2) := by decide +kernel
theorem dL_law_433 : decode cL_law 433 = .ok (.aaload, 1) := by decide +kernel
theorem dL_law_434 : decode cL_law 434 = .ok (.iconst 0, 1) := by decide +kernel
theorem dL_law_435 : decode cL_law 435 = .ok (.iaload, 1) := by decide +kernel
theorem dL_law_436 : decode cL_law 436 = .ok (.isub, 1) := by decide +kernel
theorem dL_law_437 : decode cL_law 437 = .ok (.invokestatic 152, 3) := by decide +kernel
theorem dL_law_440 : decode cL_law 440 = .ok (.istore 17, 2) := by decide +kernel
theorem dL_law_442 : decode cL_law 442 = .ok (.aload_n 2, 1) := by decide +kernel
theorem dL_law_443 : decode cL_law 443 = .ok (.getfield 15, 3) := by decide +kernel
theorem dL_law_446 : decode cL_law 446 = .ok (.iload 15, 2) := by decide +kernel
theorem dL_law_448 : decode cL_law 448 = .ok (.aaload, 1) := by decide +kernel
theorem dL_law_449 : decode cL_law 449 = .ok (.iconst 0, 1) := by decide +kernel
theorem dL_law_450 : decode cL_law 450 = .ok (.iaload, 1) := by decide +kernel
theorem dL_law_451 : decode cL_law 451 = .ok (.istore 18, 2) := by decide +kernel
theorem dL_law_453 : decode cL_law 453 = .ok (.aload_n 1, 1) := by decide +kernel
theorem dL_law_454 : decode cL_law 454 = .ok (.iload 15, 2) := by decide +kernel
theorem dL_law_456 : decode cL_law 456 = .ok (.iload 12, 2) := by decide +kernel
theorem dL_law_458 : decode cL_law 458 = .ok (.invokevirtual 157, 3) := by decide +kernel
theorem dL_law_461 : decode cL_law 461 = .ok (.istore 19, 2) := by decide +kernel
theorem dL_law_463 : decode cL_law 463 = .ok (.iload 19, 2) := by decide +kernel
theorem dL_law_465 : decode cL_law 465 = .ok (.iconst 1, 1) := by decide +kernel
theorem dL_law_466 : decode cL_law 466 = .ok (.if_icmp .lt 160, 3) := by decide +kernel
theorem dL_law_469 : decode cL_law 469 = .ok (.iload 19, 2) := by decide +kernel
theorem dL_law_471 : decode cL_law 471 = .ok (.iconst 5, 1) := by decide +kernel
theorem dL_law_472 : decode cL_law 472 = .ok (.if_icmp .gt 154, 3) := by decide +kernel
theorem dL_law_475 : decode cL_law 475 = .ok (.iload 19, 2) := by decide +kernel
theorem dL_law_477 : decode cL_law 477 = .ok (.iload 18, 2) := by decide +kernel
theorem dL_law_479 : decode cL_law 479 = .ok (.imul, 1) := by decide +kernel
theorem dL_law_480 : decode cL_law 480 = .ok (.iload 17, 2) := by decide +kernel
