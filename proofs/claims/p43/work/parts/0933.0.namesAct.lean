theorem dL_act_0 : decode cL_act 0 = .ok (.aload_n 1, 1) := by decide +kernel
theorem dL_act_1 : decode cL_act 1 = .ok (.getfield 9, 3) := by decide +kernel
theorem dL_act_4 : decode cL_act 4 = .ok (.arraylength, 1) := by decide +kernel
theorem dL_act_5 : decode cL_act 5 = .ok (.istore_n 3, 1) := by decide +kernel
theorem dL_act_6 : decode cL_act 6 = .ok (.aload_n 1, 1) := by decide +kernel
theorem dL_act_7 : decode cL_act 7 = .ok (.getfield 15, 3) := by decide +kernel
theorem dL_act_10 : decode cL_act 10 = .ok (.arraylength, 1) := by decide +kernel
theorem dL_act_11 : decode cL_act 11 = .ok (.istore 4, 2) := by decide +kernel
theorem dL_act_13 : decode cL_act 13 = .ok (.iconst 1, 1) := by decide +kernel
theorem dL_act_14 : decode cL_act 14 = .ok (.istore 5, 2) := by decide +kernel
theorem dL_act_16 : decode cL_act 16 = .ok (.iload_n 2, 1) := by decide +kernel
theorem dL_act_17 : decode cL_act 17 = .ok (.bipush 16, 2) := by decide +kernel
theorem dL_act_19 : decode cL_act 19 = .ok (.invokestatic 18, 3) := by decide +kernel
theorem dL_act_22 : decode cL_act 22 = .ok (.istore 6, 2) := by decide +kernel
theorem dL_act_24 : decode cL_act 24 = .ok (.iload_n 3, 1) := by decide +kernel
theorem dL_act_25 : decode cL_act 25 = .ok (.ifCond .eq 8, 3) := by decide +kernel
theorem dL_act_28 : decode cL_act 28 = .ok (.iload 6, 2) := by decide +kernel
theorem dL_act_30 : decode cL_act 30 = .ok (.ifCond .ne 122, 3) := by decide +kernel
theorem dL_act_33 : decode cL_act 33 = .ok (.iload_n 3, 1) := by decide +kernel
theorem dL_act_34 : decode cL_act 34 = .ok (.bipush 12, 2) := by decide +kernel
theorem dL_act_36 : decode cL_act 36 = .ok (.if_icmp .ge 7, 3) := by decide +kernel
theorem dL_act_39 : decode cL_act 39 = .ok (.iconst 1, 1) := by decide +kernel
theorem dL_act_40 : decode cL_act 40 = .ok (.goto 4, 3) := by decide +kernel
theorem dL_act_43 : decode cL_act 43 = .ok (.iconst 0, 1) := by decide +kernel
theorem dL_act_44 : decode cL_act 44 = .ok (.istore 5, 2) := by decide +kernel
theorem dL_act_46 : decode cL_act 46 = .ok (.bipush 6, 2) := by decide +kernel
theorem dL_act_48 : decode cL_act 48 = .ok (.newarray .int, 2) := by decide +kernel
theorem dL_act_50 : decode cL_act 50 = .ok (.dup, 1) := by decide +kernel
theorem dL_act_51 : decode cL_act 51 = .ok (.iconst 0, 1) := by decide +kernel
theorem dL_act_52 : decode cL_act 52 = .ok (.iload_n 2, 1) := by decide +kernel
theorem dL_act_53 : decode cL_act 53 = .ok (.iconst 4, 1) := by decide +kernel
theorem dL_act_54 : decode cL_act 54 = .ok (.ishr, 1) := by decide +kernel
theorem dL_act_55 : decode cL_act 55 = .ok (.bipush 6, 2) := by decide +kernel
theorem dL_act_57 : decode cL_act 57 = .ok (.invokestatic 18, 3) := by decide +kernel
theorem dL_act_60 : decode cL_act 60 = .ok (.iastore, 1) := by decide +kernel
theorem dL_act_61 : decode cL_act 61 = .ok (.dup, 1) := by decide +kernel
theorem dL_act_62 : decode cL_act 62 = .ok (.iconst 1, 1) := by decide +kernel
theorem dL_act_63 : decode cL_act 63 = .ok (.iconst 1, 1) := by decide +kernel
theorem dL_act_64 : decode cL_act 64 = .ok (.iload_n 2, 1) := by decide +kernel
theorem dL_act_65 : decode cL_act 65 = .ok (.bipush 6, 2) := by decide +kernel
theorem dL_act_67 : decode cL_act 67 = .ok (.ishr, 1) := by decide +kernel
theorem dL_act_68 : decode cL_act 68 = .ok (.bipush 9, 2) := by decide +kernel
theorem dL_act_70 : decode cL_act 70 = .ok (.invokestatic 18, 3) := by decide +kernel
theorem dL_act_73 : decode cL_act 73 = .ok (.iadd, 1) := by decide +kernel
theorem dL_act_74 : decode cL_act 74 = .ok (.iastore, 1) := by decide +kernel
theorem dL_act_75 : decode cL_act 75 = .ok (.dup, 1) := by decide +kernel
theorem dL_act_76 : decode cL_act 76 = .ok (.iconst 2, 1) := by decide +kernel
theorem dL_act_77 : decode cL_act 77 = .ok (.iconst 1, 1) := by decide +kernel
theorem dL_act_78 : decode cL_act 78 = .ok (.iload_n 2, 1) := by decide +kernel
theorem dL_act_79 : decode cL_act 79 = .ok (.bipush 8, 2) := by decide +kernel
theorem dL_act_81 : decode cL_act 81 = .ok (.ishr, 1) := by decide +kernel
theorem dL_act_82 : decode cL_act 82 = .ok (.bipush 9, 2) := by decide +kernel
theorem dL_act_84 : decode cL_act 84 = .ok (.invokestatic 18, 3) := by decide +kernel
theorem dL_act_87 : decode cL_act 87 = .ok (.iadd, 1) := by decide +kernel
theorem dL_act_88 : decode cL_act 88 = .ok (.iastore, 1) := by decide +kernel
theorem dL_act_89 : decode cL_act 89 = .ok (.dup, 1) := by decide +kernel
theorem dL_act_90 : decode cL_act 90 = .ok (.iconst 3, 1) := by decide +kernel
theorem dL_act_91 : decode cL_act 91 = .ok (.iconst (-1), 1) := by decide +kernel
theorem dL_act_92 : decode cL_act 92 = .ok (.iastore, 1) := by decide +kernel
theorem dL_act_93 : decode cL_act 93 = .ok (.dup, 1) := by decide +kernel
theorem dL_act_94 : decode cL_act 94 = .ok (.iconst 4, 1) := by decide +kernel
theorem dL_act_95 : decode cL_act 95 = .ok (.iload_n 3, 1) := by decide +kernel
theorem dL_act_96 : decode cL_act 96 = .ok (.iastore, 1) := by decide +kernel
theorem dL_act_97 : decode cL_act 97 = .ok (.dup, 1) := by decide +kernel
theorem dL_act_98 : decode cL_act 98 = .ok (.iconst 5, 1) := by decide +kernel
theorem dL_act_99 : decode cL_act 99 = .ok (.iconst 0, 1) := by decide +kernel
theorem dL_act_100 : decode cL_act 100 = .ok (.iastore, 1) := by decide +kernel
theorem dL_act_101 : decode cL_act 101 = .ok (.astore 7, 2) := by decide +kernel
theorem dL_act_103 : decode cL_act 103 = .ok (.iload 5, 2) := by decide +kernel
theorem dL_act_105 : decode cL_act 105 = .ok (.ifCond .eq 16, 3) := by decide +kernel
theorem dL_act_108 : decode cL_act 108 = .ok (.aload_n 1, 1) := by decide +kernel
theorem dL_act_109 : decode cL_act 109 = .ok (.aload_n 1, 1) := by decide +kernel
theorem dL_act_110 : decode cL_act 110 = .ok (.getfield 9, 3) := by decide +kernel
theorem dL_act_113 : decode cL_act 113 = .ok (.aload 7, 2) := by decide +kernel
theorem dL_act_115 : decode cL_act 115 = .ok (.invokestatic 24, 3) := by decide +kernel
theorem dL_act_118 : decode cL_act 118 = .ok (.putfield 9, 3) := by decide +kernel
theorem dL_act_121 : decode cL_act 121 = .ok (.aload_n 0, 1) := by decide +kernel
theorem dL_act_122 : decode cL_act 122 = .ok (.aload 7, 2) := by decide +kernel
theorem dL_act_124 : decode cL_act 124 = .ok (.iconst 0, 1) := by decide +kernel
theorem dL_act_125 : decode cL_act 125 = .ok (.iaload, 1) := by decide +kernel
theorem dL_act_126 : decode cL_act 126 = .ok (.aload 7, 2) := by decide +kernel
theorem dL_act_128 : decode cL_act 128 = .ok (.iconst 1, 1) := by decide +kernel
theorem dL_act_129 : decode cL_act 129 = .ok (.iaload, 1) := by decide +kernel
theorem dL_act_130 : decode cL_act 130 = .ok (.aload 7, 2) := by decide +kernel
theorem dL_act_132 : decode cL_act 132 = .ok (.iconst 2, 1) := by decide +kernel
theorem dL_act_133 : decode cL_act 133 = .ok (.iaload, 1) := by decide +kernel
theorem dL_act_134 : decode cL_act 134 = .ok (.invokevirtual 28, 3) := by decide +kernel
theorem dL_act_137 : decode cL_act 137 = .ok (.iload_n 3, 1) := by decide +kernel
theorem dL_act_138 : decode cL_act 138 = .ok (.if_icmp .ne 12, 3) := by decide +kernel
theorem dL_act_141 : decode cL_act 141 = .ok (.iload 5, 2) := by decide +kernel
