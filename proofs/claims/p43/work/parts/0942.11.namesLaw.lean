theorem dL_law_1091 : decode cL_law 1091 = .ok (.if_icmp .ge 37, 3) := by decide +kernel
theorem dL_law_1094 : decode cL_law 1094 = .ok (.iload 26, 2) := by decide +kernel
theorem dL_law_1096 : decode cL_law 1096 = .ok (.aload_n 1, 1) := by decide +kernel
theorem dL_law_1097 : decode cL_law 1097 = .ok (.iload 27, 2) := by decide +kernel
theorem dL_law_1099 : decode cL_law 1099 = .ok (.invokevirtual 143, 3) := by decide +kernel
theorem dL_law_1102 : decode cL_law 1102 = .ok (.ifCond .ge 16, 3) := by decide +kernel
theorem dL_law_1105 : decode cL_law 1105 = .ok (.aload_n 1, 1) := by decide +kernel
theorem dL_law_1106 : decode cL_law 1106 = .ok (.iload 27, 2) := by decide +kernel
theorem dL_law_1108 : decode cL_law 1108 = .ok (.invokevirtual 146, 3) := by decide +kernel
theorem dL_law_1111 : decode cL_law 1111 = .ok (.ifCond .ge 7, 3) := by decide +kernel
theorem dL_law_1114 : decode cL_law 1114 = .ok (.iconst 1, 1) := by decide +kernel
theorem dL_law_1115 : decode cL_law 1115 = .ok (.goto 4, 3) := by decide +kernel
theorem dL_law_1118 : decode cL_law 1118 = .ok (.iconst 0, 1) := by decide +kernel
theorem dL_law_1119 : decode cL_law 1119 = .ok (.ior, 1) := by decide +kernel
theorem dL_law_1120 : decode cL_law 1120 = .ok (.istore 26, 2) := by decide +kernel
theorem dL_law_1122 : decode cL_law 1122 = .ok (.iinc 27 1, 3) := by decide +kernel
theorem dL_law_1125 : decode cL_law 1125 = .ok (.goto (-38), 3) := by decide +kernel
theorem dL_law_1128 : decode cL_law 1128 = .ok (.iload 26, 2) := by decide +kernel
theorem dL_law_1130 : decode cL_law 1130 = .ok (.ifCond .eq 12, 3) := by decide +kernel
theorem dL_law_1133 : decode cL_law 1133 = .ok (.aload_n 1, 1) := by decide +kernel
theorem dL_law_1134 : decode cL_law 1134 = .ok (.invokevirtual 120, 3) := by decide +kernel
theorem dL_law_1137 : decode cL_law 1137 = .ok (.ifCond .le 5, 3) := by decide +kernel
theorem dL_law_1140 : decode cL_law 1140 = .ok (.iconst 0, 1) := by decide +kernel
theorem dL_law_1141 : decode cL_law 1141 = .ok (.ireturn, 1) := by decide +kernel
theorem dL_law_1142 : decode cL_law 1142 = .ok (.iconst 0, 1) := by decide +kernel
theorem dL_law_1143 : decode cL_law 1143 = .ok (.istore 27, 2) := by decide +kernel
theorem dL_law_1145 : decode cL_law 1145 = .ok (.iload 27, 2) := by decide +kernel
theorem dL_law_1147 : decode cL_law 1147 = .ok (.iload 7, 2) := by decide +kernel
theorem dL_law_1149 : decode cL_law 1149 = .ok (.if_icmp .ge 73, 3) := by decide +kernel
theorem dL_law_1152 : decode cL_law 1152 = .ok (.aload_n 1, 1) := by decide +kernel
theorem dL_law_1153 : decode cL_law 1153 = .ok (.iload 27, 2) := by decide +kernel
theorem dL_law_1155 : decode cL_law 1155 = .ok (.invokevirtual 126, 3) := by decide +kernel
theorem dL_law_1158 : decode cL_law 1158 = .ok (.iconst (-1), 1) := by decide +kernel
theorem dL_law_1159 : decode cL_law 1159 = .ok (.if_icmp .eq 19, 3) := by decide +kernel
theorem dL_law_1162 : decode cL_law 1162 = .ok (.aload_n 1, 1) := by decide +kernel
theorem dL_law_1163 : decode cL_law 1163 = .ok (.iload 27, 2) := by decide +kernel
theorem dL_law_1165 : decode cL_law 1165 = .ok (.invokevirtual 126, 3) := by decide +kernel
theorem dL_law_1168 : decode cL_law 1168 = .ok (.aload 24, 2) := by decide +kernel
theorem dL_law_1170 : decode cL_law 1170 = .ok (.iload 27, 2) := by decide +kernel
theorem dL_law_1172 : decode cL_law 1172 = .ok (.iaload, 1) := by decide +kernel
theorem dL_law_1173 : decode cL_law 1173 = .ok (.iconst 1, 1) := by decide +kernel
theorem dL_law_1174 : decode cL_law 1174 = .ok (.iadd, 1) := by decide +kernel
theorem dL_law_1175 : decode cL_law 1175 = .ok (.if_icmp .ne 39, 3) := by decide +kernel
theorem dL_law_1178 : decode cL_law 1178 = .ok (.aload 24, 2) := by decide +kernel
theorem dL_law_1180 : decode cL_law 1180 = .ok (.iload 27, 2) := by decide +kernel
theorem dL_law_1182 : decode cL_law 1182 = .ok (.iaload, 1) := by decide +kernel
theorem dL_law_1183 : decode cL_law 1183 = .ok (.ifCond .ge 12, 3) := by decide +kernel
theorem dL_law_1186 : decode cL_law 1186 = .ok (.aload_n 1, 1) := by decide +kernel
theorem dL_law_1187 : decode cL_law 1187 = .ok (.iload 27, 2) := by decide +kernel
theorem dL_law_1189 : decode cL_law 1189 = .ok (.invokevirtual 126, 3) := by decide +kernel
