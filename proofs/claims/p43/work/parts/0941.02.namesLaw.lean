set_option maxRecDepth 20000 in
theorem ggL_law_L_act_s11 : GoodIn wsL_law wsL_act_r11 := goodIn_r _ [296, 297, 298, 299, 300, 301, 78, 302, 303, 304, 305, 306, 307, 308, 309, 310, 311, 312, 313, 314, 315, 316, 6, 8] rfl (by decide +kernel)
set_option maxRecDepth 20000 in
theorem ggL_law_L_act_s12 : GoodIn wsL_law wsL_act_r12 := goodIn_r _ [317] rfl (by decide +kernel)
set_option maxRecDepth 20000 in
theorem ggL_law_L_act_s13 : GoodIn wsL_law wsX50 := goodIn_r _ [564, 565, 566, 567, 568, 569, 570, 571, 572] rfl (by decide +kernel)
set_option maxRecDepth 20000 in
theorem ggL_law_L_act_s14 : GoodIn wsL_law wsX40 := goodIn_r _ [562, 563] rfl (by decide +kernel)
set_option maxRecDepth 20000 in
theorem ggL_law_L_act_s15 : GoodIn wsL_law wsX00 := goodIn_r _ [573, 574, 575, 576, 577, 578, 579, 580, 581, 582, 583, 584, 585, 586, 587] rfl (by decide +kernel)
set_option maxRecDepth 20000 in
theorem ggL_law_L_act_s16 : GoodIn wsL_law wsX20 := goodIn_r _ [588] rfl (by decide +kernel)
set_option maxRecDepth 20000 in
theorem ggL_law_L_act_s17 : GoodIn wsL_law wsX30 := goodIn_r _ [591, 592, 593, 594, 595, 596] rfl (by decide +kernel)
set_option maxRecDepth 20000 in
theorem ggL_law_L_act_s18 : GoodIn wsL_law wsX10 := goodIn_r _ [589, 590] rfl (by decide +kernel)
set_option maxRecDepth 20000 in
theorem ggL_law_L_act : GoodIn wsL_law wsL_act := goodIn_ca (goodIn_ca (goodIn_ca (goodIn_ca (goodIn_ca (goodIn_ca (goodIn_ca (goodIn_ca (goodIn_ca (goodIn_app ggL_law_L_act_s0 (goodIn_app ggL_law_L_act_s1 (goodIn_app ggL_law_L_act_s2 (goodIn_app ggL_law_L_act_s3 (goodIn_app ggL_law_L_act_s4 (goodIn_app ggL_law_L_act_s5 (goodIn_app ggL_law_L_act_s6 (goodIn_app ggL_law_L_act_s7 (goodIn_app ggL_law_L_act_s8 (goodIn_app ggL_law_L_act_s9 (goodIn_app ggL_law_L_act_s10 (goodIn_app ggL_law_L_act_s11 ggL_law_L_act_s12)))))))))))) ggL_law_L_act_s13) ggL_law_L_act_s14) ggL_law_L_act_s15) ggL_law_L_act_s16) ggL_law_L_act_s17) ggL_law_L_act_s18) (goodIn_sub (fun _ h => List.mem_append_left _ (List.mem_append_left _ (List.mem_append_right _ h))) (by decide +kernel))) (goodIn_sub (fun _ h => List.mem_append_left _ (List.mem_append_right _ h)) (by decide +kernel))) (goodIn_sub (fun _ h => List.mem_append_right _ h) (by decide +kernel))
set_option maxRecDepth 20000 in
theorem gL_law_L_act : GoodIn wsL_law (va_wsS RL 91 yL_act wsL_act) := goodIn_app (goodIn_of _ (by decide +kernel)) ggL_law_L_act
set_option maxRecDepth 20000 in
theorem ggL_law_X4_digest_s0 : GoodIn wsL_law [.code yX4_digest cX4_digest 4 (some .long)] := goodIn_r _ [321] rfl (by decide +kernel)
set_option maxRecDepth 20000 in
theorem ggL_law_X4_digest_s1 : GoodIn wsL_law wsX4_digest_r1 := goodIn_r _ [322, 20, 323, 324, 325, 2, 326, 327, 328, 329, 330, 331, 332, 333, 334, 335, 336, 337, 338, 339, 340, 341, 342, 343] rfl (by decide +kernel)
