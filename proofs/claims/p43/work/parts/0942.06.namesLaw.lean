theorem dL_law_589 : decode cL_law 589 = .ok (.invokevirtual 146, 3) := by decide +kernel
theorem dL_law_592 : decode cL_law 592 = .ok (.ifCond .ge 34, 3) := by decide +kernel
theorem dL_law_595 : decode cL_law 595 = .ok (.aload_n 1, 1) := by decide +kernel
theorem dL_law_596 : decode cL_law 596 = .ok (.iload 15, 2) := by decide +kernel
theorem dL_law_598 : decode cL_law 598 = .ok (.invokevirtual 146, 3) := by decide +kernel
theorem dL_law_601 : decode cL_law 601 = .ok (.ifCond .lt 27, 3) := by decide +kernel
theorem dL_law_604 : decode cL_law 604 = .ok (.aload_n 1, 1) := by decide +kernel
theorem dL_law_605 : decode cL_law 605 = .ok (.iload 15, 2) := by decide +kernel
theorem dL_law_607 : decode cL_law 607 = .ok (.invokevirtual 149, 3) := by decide +kernel
theorem dL_law_610 : decode cL_law 610 = .ok (.aload_n 2, 1) := by decide +kernel
theorem dL_law_611 : decode cL_law 611 = .ok (.getfield 9, 3) := by decide +kernel
theorem dL_law_614 : decode cL_law 614 = .ok (.aload_n 1, 1) := by decide +kernel
theorem dL_law_615 : decode cL_law 615 = .ok (.iload 15, 2) := by decide +kernel
theorem dL_law_617 : decode cL_law 617 = .ok (.invokevirtual 146, 3) := by decide +kernel
theorem dL_law_620 : decode cL_law 620 = .ok (.aaload, 1) := by decide +kernel
theorem dL_law_621 : decode cL_law 621 = .ok (.iconst 0, 1) := by decide +kernel
theorem dL_law_622 : decode cL_law 622 = .ok (.iaload, 1) := by decide +kernel
theorem dL_law_623 : decode cL_law 623 = .ok (.if_icmp .eq 5, 3) := by decide +kernel
theorem dL_law_626 : decode cL_law 626 = .ok (.iconst 0, 1) := by decide +kernel
theorem dL_law_627 : decode cL_law 627 = .ok (.ireturn, 1) := by decide +kernel
theorem dL_law_628 : decode cL_law 628 = .ok (.iinc 15 1, 3) := by decide +kernel
theorem dL_law_631 : decode cL_law 631 = .ok (.goto (-242), 3) := by decide +kernel
theorem dL_law_634 : decode cL_law 634 = .ok (.iinc 12 1, 3) := by decide +kernel
theorem dL_law_637 : decode cL_law 637 = .ok (.goto (-522), 3) := by decide +kernel
theorem dL_law_640 : decode cL_law 640 = .ok (.aload_n 1, 1) := by decide +kernel
theorem dL_law_641 : decode cL_law 641 = .ok (.invokevirtual 163, 3) := by decide +kernel
theorem dL_law_644 : decode cL_law 644 = .ok (.istore 12, 2) := by decide +kernel
theorem dL_law_646 : decode cL_law 646 = .ok (.iload 10, 2) := by decide +kernel
theorem dL_law_648 : decode cL_law 648 = .ok (.aload_n 1, 1) := by decide +kernel
theorem dL_law_649 : decode cL_law 649 = .ok (.invokevirtual 120, 3) := by decide +kernel
theorem dL_law_652 : decode cL_law 652 = .ok (.if_icmp .ne 57, 3) := by decide +kernel
theorem dL_law_655 : decode cL_law 655 = .ok (.iload 9, 2) := by decide +kernel
theorem dL_law_657 : decode cL_law 657 = .ok (.aload_n 1, 1) := by decide +kernel
theorem dL_law_658 : decode cL_law 658 = .ok (.invokevirtual 166, 3) := by decide +kernel
theorem dL_law_661 : decode cL_law 661 = .ok (.if_icmp .ne 48, 3) := by decide +kernel
theorem dL_law_664 : decode cL_law 664 = .ok (.iload 12, 2) := by decide +kernel
theorem dL_law_666 : decode cL_law 666 = .ok (.iload 9, 2) := by decide +kernel
theorem dL_law_668 : decode cL_law 668 = .ok (.if_icmp .gt 41, 3) := by decide +kernel
theorem dL_law_671 : decode cL_law 671 = .ok (.iload 9, 2) := by decide +kernel
theorem dL_law_673 : decode cL_law 673 = .ok (.ifCond .le 10, 3) := by decide +kernel
theorem dL_law_676 : decode cL_law 676 = .ok (.iload 12, 2) := by decide +kernel
theorem dL_law_678 : decode cL_law 678 = .ok (.iload 9, 2) := by decide +kernel
theorem dL_law_680 : decode cL_law 680 = .ok (.if_icmp .ge 29, 3) := by decide +kernel
theorem dL_law_683 : decode cL_law 683 = .ok (.iload 9, 2) := by decide +kernel
theorem dL_law_685 : decode cL_law 685 = .ok (.iconst 2, 1) := by decide +kernel
theorem dL_law_686 : decode cL_law 686 = .ok (.iload 12, 2) := by decide +kernel
theorem dL_law_688 : decode cL_law 688 = .ok (.imul, 1) := by decide +kernel
theorem dL_law_689 : decode cL_law 689 = .ok (.if_icmp .gt 20, 3) := by decide +kernel
theorem dL_law_692 : decode cL_law 692 = .ok (.aload_n 1, 1) := by decide +kernel
theorem dL_law_693 : decode cL_law 693 = .ok (.invokevirtual 138, 3) := by decide +kernel
