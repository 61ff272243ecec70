theorem dL_law_796 : decode cL_law 796 = .ok (.ifCond .lt 46, 3) := by decide +kernel
theorem dL_law_799 : decode cL_law 799 = .ok (.aload_n 1, 1) := by decide +kernel
theorem dL_law_800 : decode cL_law 800 = .ok (.bipush 40, 2) := by decide +kernel
theorem dL_law_802 : decode cL_law 802 = .ok (.invokevirtual 175, 3) := by decide +kernel
theorem dL_law_805 : decode cL_law 805 = .ok (.istore 18, 2) := by decide +kernel
theorem dL_law_807 : decode cL_law 807 = .ok (.aload_n 1, 1) := by decide +kernel
theorem dL_law_808 : decode cL_law 808 = .ok (.iload 13, 2) := by decide +kernel
theorem dL_law_810 : decode cL_law 810 = .ok (.iload 15, 2) := by decide +kernel
theorem dL_law_812 : decode cL_law 812 = .ok (.invokevirtual 47, 3) := by decide +kernel
theorem dL_law_815 : decode cL_law 815 = .ok (.pop, 1) := by decide +kernel
theorem dL_law_816 : decode cL_law 816 = .ok (.aload_n 1, 1) := by decide +kernel
theorem dL_law_817 : decode cL_law 817 = .ok (.bipush 40, 2) := by decide +kernel
theorem dL_law_819 : decode cL_law 819 = .ok (.invokevirtual 175, 3) := by decide +kernel
theorem dL_law_822 : decode cL_law 822 = .ok (.istore 19, 2) := by decide +kernel
theorem dL_law_824 : decode cL_law 824 = .ok (.aload_n 1, 1) := by decide +kernel
theorem dL_law_825 : decode cL_law 825 = .ok (.iload 13, 2) := by decide +kernel
theorem dL_law_827 : decode cL_law 827 = .ok (.iload 15, 2) := by decide +kernel
theorem dL_law_829 : decode cL_law 829 = .ok (.invokevirtual 47, 3) := by decide +kernel
theorem dL_law_832 : decode cL_law 832 = .ok (.pop, 1) := by decide +kernel
theorem dL_law_833 : decode cL_law 833 = .ok (.iload 19, 2) := by decide +kernel
theorem dL_law_835 : decode cL_law 835 = .ok (.iload 18, 2) := by decide +kernel
theorem dL_law_837 : decode cL_law 837 = .ok (.if_icmp .gt 5, 3) := by decide +kernel
theorem dL_law_840 : decode cL_law 840 = .ok (.iconst 0, 1) := by decide +kernel
theorem dL_law_841 : decode cL_law 841 = .ok (.ireturn, 1) := by decide +kernel
theorem dL_law_842 : decode cL_law 842 = .ok (.aload_n 1, 1) := by decide +kernel
theorem dL_law_843 : decode cL_law 843 = .ok (.invokevirtual 100, 3) := by decide +kernel
theorem dL_law_846 : decode cL_law 846 = .ok (.lload 5, 2) := by decide +kernel
theorem dL_law_848 : decode cL_law 848 = .ok (.lcmp, 1) := by decide +kernel
theorem dL_law_849 : decode cL_law 849 = .ok (.ifCond .eq 5, 3) := by decide +kernel
theorem dL_law_852 : decode cL_law 852 = .ok (.iconst 0, 1) := by decide +kernel
theorem dL_law_853 : decode cL_law 853 = .ok (.ireturn, 1) := by decide +kernel
theorem dL_law_854 : decode cL_law 854 = .ok (.iconst 0, 1) := by decide +kernel
theorem dL_law_855 : decode cL_law 855 = .ok (.istore 18, 2) := by decide +kernel
theorem dL_law_857 : decode cL_law 857 = .ok (.iconst 1, 1) := by decide +kernel
theorem dL_law_858 : decode cL_law 858 = .ok (.istore 19, 2) := by decide +kernel
theorem dL_law_860 : decode cL_law 860 = .ok (.iload 19, 2) := by decide +kernel
theorem dL_law_862 : decode cL_law 862 = .ok (.iload 16, 2) := by decide +kernel
theorem dL_law_864 : decode cL_law 864 = .ok (.if_icmp .gt 364, 3) := by decide +kernel
theorem dL_law_867 : decode cL_law 867 = .ok (.iconst 0, 1) := by decide +kernel
theorem dL_law_868 : decode cL_law 868 = .ok (.istore 20, 2) := by decide +kernel
theorem dL_law_870 : decode cL_law 870 = .ok (.iconst 0, 1) := by decide +kernel
theorem dL_law_871 : decode cL_law 871 = .ok (.istore 21, 2) := by decide +kernel
theorem dL_law_873 : decode cL_law 873 = .ok (.iload 21, 2) := by decide +kernel
theorem dL_law_875 : decode cL_law 875 = .ok (.iload 8, 2) := by decide +kernel
theorem dL_law_877 : decode cL_law 877 = .ok (.if_icmp .ge 30, 3) := by decide +kernel
theorem dL_law_880 : decode cL_law 880 = .ok (.iload 20, 2) := by decide +kernel
theorem dL_law_882 : decode cL_law 882 = .ok (.aload_n 1, 1) := by decide +kernel
theorem dL_law_883 : decode cL_law 883 = .ok (.iload 21, 2) := by decide +kernel
theorem dL_law_885 : decode cL_law 885 = .ok (.invokevirtual 146, 3) := by decide +kernel
theorem dL_law_888 : decode cL_law 888 = .ok (.iload 13, 2) := by decide +kernel
