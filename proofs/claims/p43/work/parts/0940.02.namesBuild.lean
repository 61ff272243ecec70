set_option maxRecDepth 20000 in
theorem ggL_build_L_act_s18 : GoodIn wsL_build wsX10 := goodIn_r _ [314, 315] rfl (by decide +kernel)
set_option maxRecDepth 20000 in
theorem ggL_build_L_act : GoodIn wsL_build wsL_act := goodIn_ca (goodIn_ca (goodIn_ca (goodIn_ca (goodIn_ca (goodIn_ca (goodIn_ca (goodIn_ca (goodIn_ca (goodIn_app ggL_build_L_act_s0 (goodIn_app ggL_build_L_act_s1 (goodIn_app ggL_build_L_act_s2 (goodIn_app ggL_build_L_act_s3 (goodIn_app ggL_build_L_act_s4 (goodIn_app ggL_build_L_act_s5 (goodIn_app ggL_build_L_act_s6 (goodIn_app ggL_build_L_act_s7 (goodIn_app ggL_build_L_act_s8 (goodIn_app ggL_build_L_act_s9 (goodIn_app ggL_build_L_act_s10 (goodIn_app ggL_build_L_act_s11 ggL_build_L_act_s12)))))))))))) ggL_build_L_act_s13) ggL_build_L_act_s14) ggL_build_L_act_s15) ggL_build_L_act_s16) ggL_build_L_act_s17) ggL_build_L_act_s18) (goodIn_sub (fun _ h => List.mem_cons_of_mem _ (List.mem_append_left _ (List.mem_append_left _ (List.mem_append_right _ h)))) (by decide +kernel))) (goodIn_sub (fun _ h => List.mem_cons_of_mem _ (List.mem_append_left _ (List.mem_append_right _ h))) (by decide +kernel))) (goodIn_sub (fun _ h => List.mem_cons_of_mem _ (List.mem_append_right _ h)) (by decide +kernel))
set_option maxRecDepth 20000 in
theorem gL_build_L_act : GoodIn wsL_build (va_wsS RL 91 yL_act wsL_act) := goodIn_app (goodIn_of _ (by decide +kernel)) ggL_build_L_act
theorem dL_build_0 : decode cL_build 0 = .ok (.new 10, 3) := by decide +kernel
theorem dL_build_3 : decode cL_build 3 = .ok (.dup, 1) := by decide +kernel
theorem dL_build_4 : decode cL_build 4 = .ok (.invokespecial 85, 3) := by decide +kernel
theorem dL_build_7 : decode cL_build 7 = .ok (.astore_n 2, 1) := by decide +kernel
theorem dL_build_8 : decode cL_build 8 = .ok (.iconst 1, 1) := by decide +kernel
theorem dL_build_9 : decode cL_build 9 = .ok (.aload_n 1, 1) := by decide +kernel
theorem dL_build_10 : decode cL_build 10 = .ok (.iconst 0, 1) := by decide +kernel
theorem dL_build_11 : decode cL_build 11 = .ok (.invokestatic 86, 3) := by decide +kernel
theorem dL_build_14 : decode cL_build 14 = .ok (.bipush 9, 2) := by decide +kernel
theorem dL_build_16 : decode cL_build 16 = .ok (.invokestatic 18, 3) := by decide +kernel
theorem dL_build_19 : decode cL_build 19 = .ok (.iadd, 1) := by decide +kernel
theorem dL_build_20 : decode cL_build 20 = .ok (.istore_n 3, 1) := by decide +kernel
theorem dL_build_21 : decode cL_build 21 = .ok (.aload_n 1, 1) := by decide +kernel
