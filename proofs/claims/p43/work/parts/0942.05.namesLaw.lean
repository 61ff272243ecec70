theorem dL_law_482 : decode cL_law 482 = .ok (.if_icmp .lt 144, 3) := by decide +kernel
theorem dL_law_485 : decode cL_law 485 = .ok (.iload 19, 2) := by decide +kernel
theorem dL_law_487 : decode cL_law 487 = .ok (.iconst 1, 1) := by decide +kernel
theorem dL_law_488 : decode cL_law 488 = .ok (.if_icmp .le 15, 3) := by decide +kernel
theorem dL_law_491 : decode cL_law 491 = .ok (.iload 19, 2) := by decide +kernel
theorem dL_law_493 : decode cL_law 493 = .ok (.iconst 1, 1) := by decide +kernel
theorem dL_law_494 : decode cL_law 494 = .ok (.isub, 1) := by decide +kernel
theorem dL_law_495 : decode cL_law 495 = .ok (.iload 18, 2) := by decide +kernel
theorem dL_law_497 : decode cL_law 497 = .ok (.imul, 1) := by decide +kernel
theorem dL_law_498 : decode cL_law 498 = .ok (.iload 17, 2) := by decide +kernel
theorem dL_law_500 : decode cL_law 500 = .ok (.if_icmp .ge 126, 3) := by decide +kernel
theorem dL_law_503 : decode cL_law 503 = .ok (.iload 16, 2) := by decide +kernel
theorem dL_law_505 : decode cL_law 505 = .ok (.ifCond .eq 41, 3) := by decide +kernel
theorem dL_law_508 : decode cL_law 508 = .ok (.iload 14, 2) := by decide +kernel
theorem dL_law_510 : decode cL_law 510 = .ok (.ifCond .lt 116, 3) := by decide +kernel
theorem dL_law_513 : decode cL_law 513 = .ok (.aload_n 1, 1) := by decide +kernel
theorem dL_law_514 : decode cL_law 514 = .ok (.iload 14, 2) := by decide +kernel
theorem dL_law_516 : decode cL_law 516 = .ok (.iload 12, 2) := by decide +kernel
theorem dL_law_518 : decode cL_law 518 = .ok (.invokevirtual 157, 3) := by decide +kernel
theorem dL_law_521 : decode cL_law 521 = .ok (.iload 19, 2) := by decide +kernel
theorem dL_law_523 : decode cL_law 523 = .ok (.if_icmp .gt 103, 3) := by decide +kernel
theorem dL_law_526 : decode cL_law 526 = .ok (.aload_n 1, 1) := by decide +kernel
theorem dL_law_527 : decode cL_law 527 = .ok (.iload 14, 2) := by decide +kernel
theorem dL_law_529 : decode cL_law 529 = .ok (.iload 12, 2) := by decide +kernel
theorem dL_law_531 : decode cL_law 531 = .ok (.invokevirtual 157, 3) := by decide +kernel
theorem dL_law_534 : decode cL_law 534 = .ok (.iload 19, 2) := by decide +kernel
theorem dL_law_536 : decode cL_law 536 = .ok (.if_icmp .ne 10, 3) := by decide +kernel
theorem dL_law_539 : decode cL_law 539 = .ok (.iload 14, 2) := by decide +kernel
theorem dL_law_541 : decode cL_law 541 = .ok (.iload 15, 2) := by decide +kernel
theorem dL_law_543 : decode cL_law 543 = .ok (.if_icmp .gt 83, 3) := by decide +kernel
theorem dL_law_546 : decode cL_law 546 = .ok (.iload 14, 2) := by decide +kernel
theorem dL_law_548 : decode cL_law 548 = .ok (.iload 15, 2) := by decide +kernel
theorem dL_law_550 : decode cL_law 550 = .ok (.if_icmp .ne 8, 3) := by decide +kernel
theorem dL_law_553 : decode cL_law 553 = .ok (.iload 16, 2) := by decide +kernel
theorem dL_law_555 : decode cL_law 555 = .ok (.ifCond .eq 71, 3) := by decide +kernel
theorem dL_law_558 : decode cL_law 558 = .ok (.iload 16, 2) := by decide +kernel
theorem dL_law_560 : decode cL_law 560 = .ok (.aload_n 1, 1) := by decide +kernel
theorem dL_law_561 : decode cL_law 561 = .ok (.iload 15, 2) := by decide +kernel
theorem dL_law_563 : decode cL_law 563 = .ok (.invokevirtual 160, 3) := by decide +kernel
theorem dL_law_566 : decode cL_law 566 = .ok (.ifCond .ne 7, 3) := by decide +kernel
theorem dL_law_569 : decode cL_law 569 = .ok (.iconst 1, 1) := by decide +kernel
theorem dL_law_570 : decode cL_law 570 = .ok (.goto 4, 3) := by decide +kernel
theorem dL_law_573 : decode cL_law 573 = .ok (.iconst 0, 1) := by decide +kernel
theorem dL_law_574 : decode cL_law 574 = .ok (.if_icmp .ne 52, 3) := by decide +kernel
theorem dL_law_577 : decode cL_law 577 = .ok (.aload_n 1, 1) := by decide +kernel
theorem dL_law_578 : decode cL_law 578 = .ok (.iload 15, 2) := by decide +kernel
theorem dL_law_580 : decode cL_law 580 = .ok (.invokevirtual 143, 3) := by decide +kernel
theorem dL_law_583 : decode cL_law 583 = .ok (.ifCond .lt 12, 3) := by decide +kernel
theorem dL_law_586 : decode cL_law 586 = .ok (.aload_n 1, 1) := by decide +kernel
theorem dL_law_587 : decode cL_law 587 = .ok (.iload 15, 2) := by decide +kernel
