theorem dL_law_1192 : decode cL_law 1192 = .ok (.ifCond .ge 22, 3) := by decide +kernel
theorem dL_law_1195 : decode cL_law 1195 = .ok (.aload 24, 2) := by decide +kernel
theorem dL_law_1197 : decode cL_law 1197 = .ok (.iload 27, 2) := by decide +kernel
theorem dL_law_1199 : decode cL_law 1199 = .ok (.iaload, 1) := by decide +kernel
theorem dL_law_1200 : decode cL_law 1200 = .ok (.bipush 29, 2) := by decide +kernel
theorem dL_law_1202 : decode cL_law 1202 = .ok (.if_icmp .ne 14, 3) := by decide +kernel
theorem dL_law_1205 : decode cL_law 1205 = .ok (.aload_n 1, 1) := by decide +kernel
theorem dL_law_1206 : decode cL_law 1206 = .ok (.iload 27, 2) := by decide +kernel
theorem dL_law_1208 : decode cL_law 1208 = .ok (.invokevirtual 126, 3) := by decide +kernel
theorem dL_law_1211 : decode cL_law 1211 = .ok (.ifCond .lt 5, 3) := by decide +kernel
theorem dL_law_1214 : decode cL_law 1214 = .ok (.iconst 0, 1) := by decide +kernel
theorem dL_law_1215 : decode cL_law 1215 = .ok (.ireturn, 1) := by decide +kernel
theorem dL_law_1216 : decode cL_law 1216 = .ok (.iinc 27 1, 3) := by decide +kernel
theorem dL_law_1219 : decode cL_law 1219 = .ok (.goto (-74), 3) := by decide +kernel
theorem dL_law_1222 : decode cL_law 1222 = .ok (.iinc 19 1, 3) := by decide +kernel
theorem dL_law_1225 : decode cL_law 1225 = .ok (.goto (-365), 3) := by decide +kernel
theorem dL_law_1228 : decode cL_law 1228 = .ok (.iload 18, 2) := by decide +kernel
theorem dL_law_1230 : decode cL_law 1230 = .ok (.iload 17, 2) := by decide +kernel
theorem dL_law_1232 : decode cL_law 1232 = .ok (.if_icmp .eq 5, 3) := by decide +kernel
theorem dL_law_1235 : decode cL_law 1235 = .ok (.iconst 0, 1) := by decide +kernel
theorem dL_law_1236 : decode cL_law 1236 = .ok (.ireturn, 1) := by decide +kernel
theorem dL_law_1237 : decode cL_law 1237 = .ok (.iinc 3 1, 3) := by decide +kernel
theorem dL_law_1240 : decode cL_law 1240 = .ok (.goto (-1218), 3) := by decide +kernel
theorem dL_law_1243 : decode cL_law 1243 = .ok (.aload_n 2, 1) := by decide +kernel
theorem dL_law_1244 : decode cL_law 1244 = .ok (.aload_n 1, 1) := by decide +kernel
theorem dL_law_1245 : decode cL_law 1245 = .ok (.invokevirtual 186, 3) := by decide +kernel
theorem dL_law_1248 : decode cL_law 1248 = .ok (.ireturn, 1) := by decide +kernel
