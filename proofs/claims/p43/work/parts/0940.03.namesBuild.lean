theorem dL_build_22 : decode cL_build 22 = .ok (.iconst 1, 1) := by decide +kernel
theorem dL_build_23 : decode cL_build 23 = .ok (.invokestatic 86, 3) := by decide +kernel
theorem dL_build_26 : decode cL_build 26 = .ok (.iconst 4, 1) := by decide +kernel
theorem dL_build_27 : decode cL_build 27 = .ok (.invokestatic 18, 3) := by decide +kernel
theorem dL_build_30 : decode cL_build 30 = .ok (.istore 4, 2) := by decide +kernel
theorem dL_build_32 : decode cL_build 32 = .ok (.iconst 0, 1) := by decide +kernel
theorem dL_build_33 : decode cL_build 33 = .ok (.istore 5, 2) := by decide +kernel
theorem dL_build_35 : decode cL_build 35 = .ok (.iload 5, 2) := by decide +kernel
theorem dL_build_37 : decode cL_build 37 = .ok (.iload_n 3, 1) := by decide +kernel
theorem dL_build_38 : decode cL_build 38 = .ok (.if_icmp .ge 35, 3) := by decide +kernel
theorem dL_build_41 : decode cL_build 41 = .ok (.aload_n 0, 1) := by decide +kernel
theorem dL_build_42 : decode cL_build 42 = .ok (.aload_n 2, 1) := by decide +kernel
theorem dL_build_43 : decode cL_build 43 = .ok (.bipush 16, 2) := by decide +kernel
theorem dL_build_45 : decode cL_build 45 = .ok (.aload_n 1, 1) := by decide +kernel
theorem dL_build_46 : decode cL_build 46 = .ok (.iconst 2, 1) := by decide +kernel
theorem dL_build_47 : decode cL_build 47 = .ok (.iload 5, 2) := by decide +kernel
theorem dL_build_49 : decode cL_build 49 = .ok (.iadd, 1) := by decide +kernel
theorem dL_build_50 : decode cL_build 50 = .ok (.invokestatic 86, 3) := by decide +kernel
theorem dL_build_53 : decode cL_build 53 = .ok (.iconst 5, 1) := by decide +kernel
theorem dL_build_54 : decode cL_build 54 = .ok (.ishr, 1) := by decide +kernel
theorem dL_build_55 : decode cL_build 55 = .ok (.ldc 90, 2) := by decide +kernel
theorem dL_build_57 : decode cL_build 57 = .ok (.iand, 1) := by decide +kernel
theorem dL_build_58 : decode cL_build 58 = .ok (.imul, 1) := by decide +kernel
theorem dL_build_59 : decode cL_build 59 = .ok (.invokestatic 91, 3) := by decide +kernel
theorem dL_build_62 : decode cL_build 62 = .ok (.ifCond .ne 5, 3) := by decide +kernel
theorem dL_build_65 : decode cL_build 65 = .ok (.aconst_null, 1) := by decide +kernel
theorem dL_build_66 : decode cL_build 66 = .ok (.areturn, 1) := by decide +kernel
theorem dL_build_67 : decode cL_build 67 = .ok (.iinc 5 1, 3) := by decide +kernel
theorem dL_build_70 : decode cL_build 70 = .ok (.goto (-35), 3) := by decide +kernel
theorem dL_build_73 : decode cL_build 73 = .ok (.iconst 0, 1) := by decide +kernel
theorem dL_build_74 : decode cL_build 74 = .ok (.istore 5, 2) := by decide +kernel
theorem dL_build_76 : decode cL_build 76 = .ok (.iload 5, 2) := by decide +kernel
theorem dL_build_78 : decode cL_build 78 = .ok (.iload 4, 2) := by decide +kernel
theorem dL_build_80 : decode cL_build 80 = .ok (.if_icmp .ge 37, 3) := by decide +kernel
theorem dL_build_83 : decode cL_build 83 = .ok (.aload_n 0, 1) := by decide +kernel
theorem dL_build_84 : decode cL_build 84 = .ok (.aload_n 2, 1) := by decide +kernel
theorem dL_build_85 : decode cL_build 85 = .ok (.bipush 16, 2) := by decide +kernel
theorem dL_build_87 : decode cL_build 87 = .ok (.aload_n 1, 1) := by decide +kernel
theorem dL_build_88 : decode cL_build 88 = .ok (.iconst 3, 1) := by decide +kernel
theorem dL_build_89 : decode cL_build 89 = .ok (.iload 5, 2) := by decide +kernel
