theorem dL_law_176 : decode cL_law 176 = .ok (.iload 12, 2) := by decide +kernel
theorem dL_law_178 : decode cL_law 178 = .ok (.invokevirtual 111, 3) := by decide +kernel
theorem dL_law_181 : decode cL_law 181 = .ok (.iload 7, 2) := by decide +kernel
theorem dL_law_183 : decode cL_law 183 = .ok (.if_icmp .ge 156, 3) := by decide +kernel
theorem dL_law_186 : decode cL_law 186 = .ok (.aload_n 1, 1) := by decide +kernel
theorem dL_law_187 : decode cL_law 187 = .ok (.aload_n 1, 1) := by decide +kernel
theorem dL_law_188 : decode cL_law 188 = .ok (.iload 12, 2) := by decide +kernel
theorem dL_law_190 : decode cL_law 190 = .ok (.invokevirtual 111, 3) := by decide +kernel
theorem dL_law_193 : decode cL_law 193 = .ok (.invokevirtual 114, 3) := by decide +kernel
theorem dL_law_196 : decode cL_law 196 = .ok (.iload 12, 2) := by decide +kernel
theorem dL_law_198 : decode cL_law 198 = .ok (.if_icmp .ne 141, 3) := by decide +kernel
theorem dL_law_201 : decode cL_law 201 = .ok (.aload_n 1, 1) := by decide +kernel
theorem dL_law_202 : decode cL_law 202 = .ok (.aload_n 1, 1) := by decide +kernel
theorem dL_law_203 : decode cL_law 203 = .ok (.iload 12, 2) := by decide +kernel
theorem dL_law_205 : decode cL_law 205 = .ok (.invokevirtual 114, 3) := by decide +kernel
theorem dL_law_208 : decode cL_law 208 = .ok (.invokevirtual 111, 3) := by decide +kernel
theorem dL_law_211 : decode cL_law 211 = .ok (.iload 12, 2) := by decide +kernel
theorem dL_law_213 : decode cL_law 213 = .ok (.if_icmp .ne 126, 3) := by decide +kernel
theorem dL_law_216 : decode cL_law 216 = .ok (.aload_n 1, 1) := by decide +kernel
theorem dL_law_217 : decode cL_law 217 = .ok (.iload 12, 2) := by decide +kernel
theorem dL_law_219 : decode cL_law 219 = .ok (.invokevirtual 117, 3) := by decide +kernel
theorem dL_law_222 : decode cL_law 222 = .ok (.iload 13, 2) := by decide +kernel
theorem dL_law_224 : decode cL_law 224 = .ok (.ifCond .lt 7, 3) := by decide +kernel
theorem dL_law_227 : decode cL_law 227 = .ok (.iconst 1, 1) := by decide +kernel
theorem dL_law_228 : decode cL_law 228 = .ok (.goto 4, 3) := by decide +kernel
theorem dL_law_231 : decode cL_law 231 = .ok (.iconst 0, 1) := by decide +kernel
theorem dL_law_232 : decode cL_law 232 = .ok (.if_icmp .ne 107, 3) := by decide +kernel
theorem dL_law_235 : decode cL_law 235 = .ok (.iload 13, 2) := by decide +kernel
theorem dL_law_237 : decode cL_law 237 = .ok (.aload_n 1, 1) := by decide +kernel
theorem dL_law_238 : decode cL_law 238 = .ok (.invokevirtual 120, 3) := by decide +kernel
theorem dL_law_241 : decode cL_law 241 = .ok (.if_icmp .ge 98, 3) := by decide +kernel
theorem dL_law_244 : decode cL_law 244 = .ok (.iload 13, 2) := by decide +kernel
theorem dL_law_246 : decode cL_law 246 = .ok (.ifCond .lt 11, 3) := by decide +kernel
theorem dL_law_249 : decode cL_law 249 = .ok (.aload 11, 2) := by decide +kernel
theorem dL_law_251 : decode cL_law 251 = .ok (.iload 13, 2) := by decide +kernel
theorem dL_law_253 : decode cL_law 253 = .ok (.baload, 1) := by decide +kernel
theorem dL_law_254 : decode cL_law 254 = .ok (.ifCond .ne 85, 3) := by decide +kernel
theorem dL_law_257 : decode cL_law 257 = .ok (.iload 13, 2) := by decide +kernel
theorem dL_law_259 : decode cL_law 259 = .ok (.ifCond .ne 12, 3) := by decide +kernel
theorem dL_law_262 : decode cL_law 262 = .ok (.aload_n 1, 1) := by decide +kernel
theorem dL_law_263 : decode cL_law 263 = .ok (.invokevirtual 123, 3) := by decide +kernel
theorem dL_law_266 : decode cL_law 266 = .ok (.iload 12, 2) := by decide +kernel
theorem dL_law_268 : decode cL_law 268 = .ok (.if_icmp .ne 71, 3) := by decide +kernel
theorem dL_law_271 : decode cL_law 271 = .ok (.aload_n 1, 1) := by decide +kernel
theorem dL_law_272 : decode cL_law 272 = .ok (.iload 12, 2) := by decide +kernel
theorem dL_law_274 : decode cL_law 274 = .ok (.invokevirtual 126, 3) := by decide +kernel
theorem dL_law_277 : decode cL_law 277 = .ok (.iconst (-1), 1) := by decide +kernel
theorem dL_law_278 : decode cL_law 278 = .ok (.if_icmp .lt 61, 3) := by decide +kernel
theorem dL_law_281 : decode cL_law 281 = .ok (.aload_n 1, 1) := by decide +kernel
theorem dL_law_282 : decode cL_law 282 = .ok (.iload 12, 2) := by decide +kernel
