theorem dL_build_91 : decode cL_build 91 = .ok (.iadd, 1) := by decide +kernel
theorem dL_build_92 : decode cL_build 92 = .ok (.invokestatic 86, 3) := by decide +kernel
theorem dL_build_95 : decode cL_build 95 = .ok (.iconst 3, 1) := by decide +kernel
theorem dL_build_96 : decode cL_build 96 = .ok (.ishr, 1) := by decide +kernel
theorem dL_build_97 : decode cL_build 97 = .ok (.ldc 90, 2) := by decide +kernel
theorem dL_build_99 : decode cL_build 99 = .ok (.iand, 1) := by decide +kernel
theorem dL_build_100 : decode cL_build 100 = .ok (.imul, 1) := by decide +kernel
theorem dL_build_101 : decode cL_build 101 = .ok (.iconst 1, 1) := by decide +kernel
theorem dL_build_102 : decode cL_build 102 = .ok (.iadd, 1) := by decide +kernel
theorem dL_build_103 : decode cL_build 103 = .ok (.invokestatic 91, 3) := by decide +kernel
theorem dL_build_106 : decode cL_build 106 = .ok (.ifCond .ne 5, 3) := by decide +kernel
theorem dL_build_109 : decode cL_build 109 = .ok (.aconst_null, 1) := by decide +kernel
theorem dL_build_110 : decode cL_build 110 = .ok (.areturn, 1) := by decide +kernel
theorem dL_build_111 : decode cL_build 111 = .ok (.iinc 5 1, 3) := by decide +kernel
theorem dL_build_114 : decode cL_build 114 = .ok (.goto (-38), 3) := by decide +kernel
theorem dL_build_117 : decode cL_build 117 = .ok (.iconst 0, 1) := by decide +kernel
theorem dL_build_118 : decode cL_build 118 = .ok (.istore 5, 2) := by decide +kernel
theorem dL_build_120 : decode cL_build 120 = .ok (.iload 5, 2) := by decide +kernel
theorem dL_build_122 : decode cL_build 122 = .ok (.bipush 10, 2) := by decide +kernel
theorem dL_build_124 : decode cL_build 124 = .ok (.if_icmp .ge 33, 3) := by decide +kernel
theorem dL_build_127 : decode cL_build 127 = .ok (.aload_n 0, 1) := by decide +kernel
theorem dL_build_128 : decode cL_build 128 = .ok (.aload_n 2, 1) := by decide +kernel
theorem dL_build_129 : decode cL_build 129 = .ok (.aload_n 1, 1) := by decide +kernel
theorem dL_build_130 : decode cL_build 130 = .ok (.iload 5, 2) := by decide +kernel
theorem dL_build_132 : decode cL_build 132 = .ok (.invokestatic 86, 3) := by decide +kernel
theorem dL_build_135 : decode cL_build 135 = .ok (.iconst 2, 1) := by decide +kernel
theorem dL_build_136 : decode cL_build 136 = .ok (.ishr, 1) := by decide +kernel
theorem dL_build_137 : decode cL_build 137 = .ok (.bipush 41, 2) := by decide +kernel
theorem dL_build_139 : decode cL_build 139 = .ok (.iload 5, 2) := by decide +kernel
theorem dL_build_141 : decode cL_build 141 = .ok (.imul, 1) := by decide +kernel
theorem dL_build_142 : decode cL_build 142 = .ok (.iadd, 1) := by decide +kernel
theorem dL_build_143 : decode cL_build 143 = .ok (.invokestatic 91, 3) := by decide +kernel
theorem dL_build_146 : decode cL_build 146 = .ok (.ifCond .ne 5, 3) := by decide +kernel
theorem dL_build_149 : decode cL_build 149 = .ok (.aconst_null, 1) := by decide +kernel
theorem dL_build_150 : decode cL_build 150 = .ok (.areturn, 1) := by decide +kernel
theorem dL_build_151 : decode cL_build 151 = .ok (.iinc 5 1, 3) := by decide +kernel
theorem dL_build_154 : decode cL_build 154 = .ok (.goto (-34), 3) := by decide +kernel
theorem dL_build_157 : decode cL_build 157 = .ok (.aload_n 2, 1) := by decide +kernel
theorem dL_build_158 : decode cL_build 158 = .ok (.areturn, 1) := by decide +kernel
