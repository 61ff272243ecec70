set_option maxRecDepth 20000 in
theorem ggL_law_X4_servedIn_s5 : GoodIn wsL_law wsX4_servedIn_r5 := goodIn_r _ [161, 162, 257, 258, 259, 260, 261, 262, 263, 264, 265, 266, 129, 130, 131, 127, 267, 268, 269, 270, 272, 273, 274, 275] rfl (by decide +kernel)
set_option maxRecDepth 20000 in
theorem ggL_law_X4_servedIn_s6 : GoodIn wsL_law wsX4_servedIn_r6 := goodIn_r _ [276, 277, 278, 279, 280, 281, 282, 283, 284, 285, 286, 287, 232, 233, 234, 288, 289, 290, 291] rfl (by decide +kernel)
set_option maxRecDepth 20000 in
theorem ggL_law_X4_servedIn_s7 : GoodIn wsL_law wsX40 := goodIn_r _ [562, 563] rfl (by decide +kernel)
set_option maxRecDepth 20000 in
theorem ggL_law_X4_servedIn_s8 : GoodIn wsL_law wsX00 := goodIn_r _ [573, 574, 575, 576, 577, 578, 579, 580, 581, 582, 583, 584, 585, 586, 587] rfl (by decide +kernel)
set_option maxRecDepth 20000 in
theorem ggL_law_X4_servedIn_s9 : GoodIn wsL_law wsX20 := goodIn_r _ [588] rfl (by decide +kernel)
set_option maxRecDepth 20000 in
theorem ggL_law_X4_servedIn_s10 : GoodIn wsL_law wsX10 := goodIn_r _ [589, 590] rfl (by decide +kernel)
set_option maxRecDepth 20000 in
theorem ggL_law_X4_servedIn_s11 : GoodIn wsL_law wsX30 := goodIn_r _ [591, 592, 593, 594, 595, 596] rfl (by decide +kernel)
set_option maxRecDepth 20000 in
theorem ggL_law_X4_servedIn : GoodIn wsL_law wsX4_servedIn := goodIn_ca (goodIn_ca (goodIn_ca (goodIn_ca (goodIn_ca (goodIn_ca (goodIn_app ggL_law_X4_servedIn_s0 (goodIn_app ggL_law_X4_servedIn_s1 (goodIn_app ggL_law_X4_servedIn_s2 (goodIn_app ggL_law_X4_servedIn_s3 (goodIn_app ggL_law_X4_servedIn_s4 (goodIn_app ggL_law_X4_servedIn_s5 ggL_law_X4_servedIn_s6)))))) ggL_law_X4_servedIn_s7) ggL_law_X4_servedIn_s8) ggL_law_X4_servedIn_s9) ggL_law_X4_servedIn_s10) ggL_law_X4_servedIn_s11) (goodIn_sub (fun _ h => List.mem_append_left _ (List.mem_append_left _ (List.mem_append_right _ h))) (by decide +kernel))
set_option maxRecDepth 20000 in
theorem gL_law_X4_servedIn : GoodIn wsL_law (wsV RL 175 RX4 yX4_servedIn wsX4_servedIn) := goodIn_app (goodIn_of _ (by decide +kernel)) ggL_law_X4_servedIn
set_option maxRecDepth 20000 in
theorem ggL_law_X4_cross : GoodIn wsL_law wsX4_cross := goodIn_ca (goodIn_ca (goodIn_r _ [191, 102, 103, 20, 136, 137, 138, 2, 139, 140, 141, 192, 193, 194, 19, 195, 33, 147, 148, 149, 29, 150, 48, 114, 115, 116, 117, 196, 562, 563, 573, 574, 575, 576, 577, 578, 579, 580, 581, 582, 583, 584, 585, 586, 587, 588] rfl (by decide +kernel)) (goodIn_sub (fun _ h => List.mem_append_left _ (List.mem_append_left _ (List.mem_append_right _ h))) (by decide +kernel))) (goodIn_sub (fun _ h => List.mem_append_right _ h) (by decide +kernel))
set_option maxRecDepth 20000 in
theorem gL_law_X4_cross : GoodIn wsL_law (wsV RL 47 RX4 yX4_cross wsX4_cross) := goodIn_app (goodIn_of _ (by decide +kernel)) ggL_law_X4_cross
set_option maxRecDepth 20000 in
theorem ggL_law_X4_served : GoodIn wsL_law wsX4_served := goodIn_r _ [346, 20, 562, 563, 573, 574, 575, 576, 577, 578, 579, 580, 581, 582, 583, 584, 585, 586, 587] rfl (by decide +kernel)
set_option maxRecDepth 20000 in
theorem gL_law_X4_served : GoodIn wsL_law (wsV RL 178 RX4 yX4_served wsX4_served) := goodIn_app (goodIn_of _ (by decide +kernel)) ggL_law_X4_served
set_option maxRecDepth 20000 in
theorem ggL_law_X4_inVain : GoodIn wsL_law wsX4_inVain := goodIn_r _ [350, 20, 562, 563, 573, 574, 575, 576, 577, 578, 579, 580, 581, 582, 583, 584, 585, 586, 587] rfl (by decide +kernel)
set_option maxRecDepth 20000 in
theorem gL_law_X4_inVain : GoodIn wsL_law (wsV RL 181 RX4 yX4_inVain wsX4_inVain) := goodIn_app (goodIn_of _ (by decide +kernel)) ggL_law_X4_inVain
set_option maxRecDepth 20000 in
theorem ggL_law_X4_pass : GoodIn wsL_law wsX4_pass := goodIn_ca (goodIn_r _ [238, 20, 239, 240, 2, 241, 102, 103, 106, 107, 108, 242, 243, 244, 19, 245, 246, 247, 248, 249, 250, 251, 113, 35, 252, 31, 147, 148, 149, 29, 150, 48, 114, 115, 116, 117, 253, 254, 255, 256, 143, 144, 145, 30, 34, 26, 146, 33, 39, 151, 152, 153, 154, 155, 156, 38, 157, 158, 53, 159, 160, 161, 162, 257, 258, 259, 260, 43, 261, 262, 263, 42, 264, 61, 62, 265, 266, 129, 130, 131, 63, 127, 267, 268, 269, 270, 271, 32, 272, 273, 274, 275, 276, 277, 278, 279, 280, 281, 282, 283, 126, 60, 59, 284, 285, 286, 287, 232, 233, 234, 288, 289, 290, 291, 562, 563, 573, 574, 575, 576, 577, 578, 579, 580, 581, 582, 583, 584, 585, 586, 587, 588, 589, 590, 591, 592, 593, 594, 595, 596] rfl (by decide +kernel)) (goodIn_sub (fun _ h => List.mem_append_left _ (List.mem_append_left _ (List.mem_append_right _ h))) (by decide +kernel))
