theorem dL_act_502 : decode cL_act 502 = .ok (.iconst 2, 1) := by decide +kernel
theorem dL_act_503 : decode cL_act 503 = .ok (.invokestatic 18, 3) := by decide +kernel
theorem dL_act_506 : decode cL_act 506 = .ok (.ifCond .ne 9, 3) := by decide +kernel
theorem dL_act_509 : decode cL_act 509 = .ok (.sipush 501, 3) := by decide +kernel
theorem dL_act_512 : decode cL_act 512 = .ok (.goto 5, 3) := by decide +kernel
theorem dL_act_515 : decode cL_act 515 = .ok (.bipush 30, 2) := by decide +kernel
theorem dL_act_517 : decode cL_act 517 = .ok (.invokestatic 18, 3) := by decide +kernel
theorem dL_act_520 : decode cL_act 520 = .ok (.putfield 58, 3) := by decide +kernel
theorem dL_act_523 : decode cL_act 523 = .ok (.aload_n 0, 1) := by decide +kernel
theorem dL_act_524 : decode cL_act 524 = .ok (.aload_n 1, 1) := by decide +kernel
theorem dL_act_525 : decode cL_act 525 = .ok (.getfield 58, 3) := by decide +kernel
theorem dL_act_528 : decode cL_act 528 = .ok (.invokevirtual 62, 3) := by decide +kernel
theorem dL_act_531 : decode cL_act 531 = .ok (.iload 8, 2) := by decide +kernel
theorem dL_act_533 : decode cL_act 533 = .ok (.if_icmp .ne 7, 3) := by decide +kernel
theorem dL_act_536 : decode cL_act 536 = .ok (.iconst 1, 1) := by decide +kernel
theorem dL_act_537 : decode cL_act 537 = .ok (.goto 4, 3) := by decide +kernel
theorem dL_act_540 : decode cL_act 540 = .ok (.iconst 0, 1) := by decide +kernel
theorem dL_act_541 : decode cL_act 541 = .ok (.ireturn, 1) := by decide +kernel
theorem dL_act_542 : decode cL_act 542 = .ok (.aload_n 1, 1) := by decide +kernel
theorem dL_act_543 : decode cL_act 543 = .ok (.iload 7, 2) := by decide +kernel
theorem dL_act_545 : decode cL_act 545 = .ok (.invokevirtual 65, 3) := by decide +kernel
theorem dL_act_548 : decode cL_act 548 = .ok (.ifCond .lt 7, 3) := by decide +kernel
theorem dL_act_551 : decode cL_act 551 = .ok (.iconst 1, 1) := by decide +kernel
theorem dL_act_552 : decode cL_act 552 = .ok (.goto 4, 3) := by decide +kernel
theorem dL_act_555 : decode cL_act 555 = .ok (.iconst 0, 1) := by decide +kernel
theorem dL_act_556 : decode cL_act 556 = .ok (.istore 5, 2) := by decide +kernel
theorem dL_act_558 : decode cL_act 558 = .ok (.iload 5, 2) := by decide +kernel
theorem dL_act_560 : decode cL_act 560 = .ok (.ifCond .eq 9, 3) := by decide +kernel
theorem dL_act_563 : decode cL_act 563 = .ok (.aload_n 1, 1) := by decide +kernel
theorem dL_act_564 : decode cL_act 564 = .ok (.iload 7, 2) := by decide +kernel
theorem dL_act_566 : decode cL_act 566 = .ok (.invokevirtual 68, 3) := by decide +kernel
theorem dL_act_569 : decode cL_act 569 = .ok (.aload_n 0, 1) := by decide +kernel
theorem dL_act_570 : decode cL_act 570 = .ok (.iload 7, 2) := by decide +kernel
theorem dL_act_572 : decode cL_act 572 = .ok (.invokevirtual 72, 3) := by decide +kernel
theorem dL_act_575 : decode cL_act 575 = .ok (.aload_n 1, 1) := by decide +kernel
theorem dL_act_576 : decode cL_act 576 = .ok (.getfield 75, 3) := by decide +kernel
theorem dL_act_579 : decode cL_act 579 = .ok (.arraylength, 1) := by decide +kernel
theorem dL_act_580 : decode cL_act 580 = .ok (.if_icmp .ne 12, 3) := by decide +kernel
theorem dL_act_583 : decode cL_act 583 = .ok (.iload 5, 2) := by decide +kernel
theorem dL_act_585 : decode cL_act 585 = .ok (.ifCond .eq 7, 3) := by decide +kernel
theorem dL_act_588 : decode cL_act 588 = .ok (.iconst 1, 1) := by decide +kernel
theorem dL_act_589 : decode cL_act 589 = .ok (.goto 4, 3) := by decide +kernel
theorem dL_act_592 : decode cL_act 592 = .ok (.iconst 0, 1) := by decide +kernel
theorem dL_act_593 : decode cL_act 593 = .ok (.ireturn, 1) := by decide +kernel
theorem dL_act_594 : decode cL_act 594 = .ok (.iconst 1, 1) := by decide +kernel
theorem dL_act_595 : decode cL_act 595 = .ok (.iload_n 2, 1) := by decide +kernel
theorem dL_act_596 : decode cL_act 596 = .ok (.iconst 4, 1) := by decide +kernel
theorem dL_act_597 : decode cL_act 597 = .ok (.ishr, 1) := by decide +kernel
theorem dL_act_598 : decode cL_act 598 = .ok (.iload_n 2, 1) := by decide +kernel
theorem dL_act_599 : decode cL_act 599 = .ok (.bipush 8, 2) := by decide +kernel
theorem dL_act_601 : decode cL_act 601 = .ok (.ishr, 1) := by decide +kernel
theorem dL_act_602 : decode cL_act 602 = .ok (.bipush 8, 2) := by decide +kernel
theorem dL_act_604 : decode cL_act 604 = .ok (.invokestatic 18, 3) := by decide +kernel
theorem dL_act_607 : decode cL_act 607 = .ok (.ifCond .ne 8, 3) := by decide +kernel
theorem dL_act_610 : decode cL_act 610 = .ok (.bipush 60, 2) := by decide +kernel
theorem dL_act_612 : decode cL_act 612 = .ok (.goto 4, 3) := by decide +kernel
theorem dL_act_615 : decode cL_act 615 = .ok (.iconst 5, 1) := by decide +kernel
theorem dL_act_616 : decode cL_act 616 = .ok (.invokestatic 18, 3) := by decide +kernel
theorem dL_act_619 : decode cL_act 619 = .ok (.iadd, 1) := by decide +kernel
theorem dL_act_620 : decode cL_act 620 = .ok (.istore 8, 2) := by decide +kernel
theorem dL_act_622 : decode cL_act 622 = .ok (.aload_n 0, 1) := by decide +kernel
theorem dL_act_623 : decode cL_act 623 = .ok (.iload 8, 2) := by decide +kernel
theorem dL_act_625 : decode cL_act 625 = .ok (.invokevirtual 79, 3) := by decide +kernel
theorem dL_act_628 : decode cL_act 628 = .ok (.aload_n 1, 1) := by decide +kernel
theorem dL_act_629 : decode cL_act 629 = .ok (.iload 8, 2) := by decide +kernel
theorem dL_act_631 : decode cL_act 631 = .ok (.invokevirtual 82, 3) := by decide +kernel
theorem dL_act_634 : decode cL_act 634 = .ok (.if_icmp .ne 7, 3) := by decide +kernel
theorem dL_act_637 : decode cL_act 637 = .ok (.iconst 1, 1) := by decide +kernel
theorem dL_act_638 : decode cL_act 638 = .ok (.goto 4, 3) := by decide +kernel
theorem dL_act_641 : decode cL_act 641 = .ok (.iconst 0, 1) := by decide +kernel
theorem dL_act_642 : decode cL_act 642 = .ok (.ireturn, 1) := by decide +kernel
theorem dL_act_643 : decode cL_act 643 = .ok (.astore 6, 2) := by decide +kernel
theorem dL_act_645 : decode cL_act 645 = .ok (.iload 5, 2) := by decide +kernel
theorem dL_act_647 : decode cL_act 647 = .ok (.ifCond .ne 7, 3) := by decide +kernel
theorem dL_act_650 : decode cL_act 650 = .ok (.iconst 1, 1) := by decide +kernel
theorem dL_act_651 : decode cL_act 651 = .ok (.goto 4, 3) := by decide +kernel
theorem dL_act_654 : decode cL_act 654 = .ok (.iconst 0, 1) := by decide +kernel
theorem dL_act_655 : decode cL_act 655 = .ok (.ireturn, 1) := by decide +kernel
