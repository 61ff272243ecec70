theorem dL_law_696 : decode cL_law 696 = .ok (.ifCond .lt 13, 3) := by decide +kernel
theorem dL_law_699 : decode cL_law 699 = .ok (.aload_n 1, 1) := by decide +kernel
theorem dL_law_700 : decode cL_law 700 = .ok (.invokevirtual 138, 3) := by decide +kernel
theorem dL_law_703 : decode cL_law 703 = .ok (.sipush 500, 3) := by decide +kernel
theorem dL_law_706 : decode cL_law 706 = .ok (.if_icmp .le 5, 3) := by decide +kernel
theorem dL_law_709 : decode cL_law 709 = .ok (.iconst 0, 1) := by decide +kernel
theorem dL_law_710 : decode cL_law 710 = .ok (.ireturn, 1) := by decide +kernel
theorem dL_law_711 : decode cL_law 711 = .ok (.iload 4, 2) := by decide +kernel
theorem dL_law_713 : decode cL_law 713 = .ok (.iconst 4, 1) := by decide +kernel
theorem dL_law_714 : decode cL_law 714 = .ok (.ishr, 1) := by decide +kernel
theorem dL_law_715 : decode cL_law 715 = .ok (.iload 7, 2) := by decide +kernel
theorem dL_law_717 : decode cL_law 717 = .ok (.invokestatic 18, 3) := by decide +kernel
theorem dL_law_720 : decode cL_law 720 = .ok (.istore 13, 2) := by decide +kernel
theorem dL_law_722 : decode cL_law 722 = .ok (.aload_n 1, 1) := by decide +kernel
theorem dL_law_723 : decode cL_law 723 = .ok (.iload 13, 2) := by decide +kernel
theorem dL_law_725 : decode cL_law 725 = .ok (.invokevirtual 169, 3) := by decide +kernel
theorem dL_law_728 : decode cL_law 728 = .ok (.istore 14, 2) := by decide +kernel
theorem dL_law_730 : decode cL_law 730 = .ok (.aload_n 1, 1) := by decide +kernel
theorem dL_law_731 : decode cL_law 731 = .ok (.iload 13, 2) := by decide +kernel
theorem dL_law_733 : decode cL_law 733 = .ok (.invokevirtual 172, 3) := by decide +kernel
theorem dL_law_736 : decode cL_law 736 = .ok (.istore 15, 2) := by decide +kernel
theorem dL_law_738 : decode cL_law 738 = .ok (.iconst 1, 1) := by decide +kernel
theorem dL_law_739 : decode cL_law 739 = .ok (.iload 4, 2) := by decide +kernel
theorem dL_law_741 : decode cL_law 741 = .ok (.bipush 6, 2) := by decide +kernel
theorem dL_law_743 : decode cL_law 743 = .ok (.ishr, 1) := by decide +kernel
theorem dL_law_744 : decode cL_law 744 = .ok (.bipush 20, 2) := by decide +kernel
theorem dL_law_746 : decode cL_law 746 = .ok (.invokestatic 18, 3) := by decide +kernel
theorem dL_law_749 : decode cL_law 749 = .ok (.iadd, 1) := by decide +kernel
theorem dL_law_750 : decode cL_law 750 = .ok (.istore 16, 2) := by decide +kernel
theorem dL_law_752 : decode cL_law 752 = .ok (.aload_n 1, 1) := by decide +kernel
theorem dL_law_753 : decode cL_law 753 = .ok (.iload 16, 2) := by decide +kernel
theorem dL_law_755 : decode cL_law 755 = .ok (.invokevirtual 175, 3) := by decide +kernel
theorem dL_law_758 : decode cL_law 758 = .ok (.istore 17, 2) := by decide +kernel
theorem dL_law_760 : decode cL_law 760 = .ok (.iload 15, 2) := by decide +kernel
theorem dL_law_762 : decode cL_law 762 = .ok (.iload 13, 2) := by decide +kernel
theorem dL_law_764 : decode cL_law 764 = .ok (.if_icmp .eq 28, 3) := by decide +kernel
theorem dL_law_767 : decode cL_law 767 = .ok (.iload 15, 2) := by decide +kernel
theorem dL_law_769 : decode cL_law 769 = .ok (.iload 7, 2) := by decide +kernel
theorem dL_law_771 : decode cL_law 771 = .ok (.if_icmp .ge 21, 3) := by decide +kernel
theorem dL_law_774 : decode cL_law 774 = .ok (.iload 14, 2) := by decide +kernel
theorem dL_law_776 : decode cL_law 776 = .ok (.iconst (-1), 1) := by decide +kernel
theorem dL_law_777 : decode cL_law 777 = .ok (.if_icmp .lt 15, 3) := by decide +kernel
theorem dL_law_780 : decode cL_law 780 = .ok (.iload 14, 2) := by decide +kernel
theorem dL_law_782 : decode cL_law 782 = .ok (.bipush 60, 2) := by decide +kernel
theorem dL_law_784 : decode cL_law 784 = .ok (.if_icmp .gt 8, 3) := by decide +kernel
theorem dL_law_787 : decode cL_law 787 = .ok (.iload 17, 2) := by decide +kernel
theorem dL_law_789 : decode cL_law 789 = .ok (.ifCond .ge 5, 3) := by decide +kernel
theorem dL_law_792 : decode cL_law 792 = .ok (.iconst 0, 1) := by decide +kernel
theorem dL_law_793 : decode cL_law 793 = .ok (.ireturn, 1) := by decide +kernel
theorem dL_law_794 : decode cL_law 794 = .ok (.iload 15, 2) := by decide +kernel
