set_option maxRecDepth 20000 in
theorem ggL_law_X4_bestToCross_s7 : GoodIn wsL_law wsX40 := goodIn_r _ [562, 563] rfl (by decide +kernel)
set_option maxRecDepth 20000 in
theorem ggL_law_X4_bestToCross_s8 : GoodIn wsL_law wsX00 := goodIn_r _ [573, 574, 575, 576, 577, 578, 579, 580, 581, 582, 583, 584, 585, 586, 587] rfl (by decide +kernel)
set_option maxRecDepth 20000 in
theorem ggL_law_X4_bestToCross_s9 : GoodIn wsL_law wsX20 := goodIn_r _ [588] rfl (by decide +kernel)
set_option maxRecDepth 20000 in
theorem ggL_law_X4_bestToCross_s10 : GoodIn wsL_law wsX10 := goodIn_r _ [589, 590] rfl (by decide +kernel)
set_option maxRecDepth 20000 in
theorem ggL_law_X4_bestToCross_s11 : GoodIn wsL_law wsX30 := goodIn_r _ [591, 592, 593, 594, 595, 596] rfl (by decide +kernel)
set_option maxRecDepth 20000 in
theorem ggL_law_X4_bestToCross : GoodIn wsL_law wsX4_bestToCross := goodIn_ca (goodIn_ca (goodIn_ca (goodIn_ca (goodIn_ca (goodIn_ca (goodIn_app ggL_law_X4_bestToCross_s0 (goodIn_app ggL_law_X4_bestToCross_s1 (goodIn_app ggL_law_X4_bestToCross_s2 (goodIn_app ggL_law_X4_bestToCross_s3 (goodIn_app ggL_law_X4_bestToCross_s4 (goodIn_app ggL_law_X4_bestToCross_s5 ggL_law_X4_bestToCross_s6)))))) ggL_law_X4_bestToCross_s7) ggL_law_X4_bestToCross_s8) ggL_law_X4_bestToCross_s9) ggL_law_X4_bestToCross_s10) ggL_law_X4_bestToCross_s11) (goodIn_sub (fun _ h => List.mem_append_right _ h) (by decide +kernel))
set_option maxRecDepth 20000 in
theorem gL_law_X4_bestToCross : GoodIn wsL_law (wsV RL 172 RX4 yX4_bestToCross wsX4_bestToCross) := goodIn_app (goodIn_of _ (by decide +kernel)) ggL_law_X4_bestToCross
set_option maxRecDepth 20000 in
theorem ggL_law_X4_servedIn_s0 : GoodIn wsL_law [.code yX4_servedIn cX4_servedIn 2 (some .int)] := goodIn_r _ [387] rfl (by decide +kernel)
set_option maxRecDepth 20000 in
theorem ggL_law_X4_servedIn_s1 : GoodIn wsL_law wsX4_servedIn_r1 := goodIn_r _ [21, 20, 239, 240, 2, 241, 102, 103, 106, 107, 108, 388, 389, 390, 19, 391, 247, 113, 26, 246, 271, 252, 146, 30] rfl (by decide +kernel)
set_option maxRecDepth 20000 in
theorem ggL_law_X4_servedIn_s2 : GoodIn wsL_law wsX4_servedIn_r2 := goodIn_r _ [31, 32, 33, 34, 35, 39, 43, 392, 393, 394, 29, 395, 48, 396, 397, 398, 38, 399, 158, 53, 400, 401, 402, 42] rfl (by decide +kernel)
set_option maxRecDepth 20000 in
theorem ggL_law_X4_servedIn_s3 : GoodIn wsL_law wsX4_servedIn_r3 := goodIn_r _ [403, 126, 59, 60, 61, 62, 63, 404, 405, 406, 407, 408, 409, 410, 411, 412, 147, 148, 149, 150, 242, 243, 244, 245] rfl (by decide +kernel)
set_option maxRecDepth 20000 in
theorem ggL_law_X4_servedIn_s4 : GoodIn wsL_law wsX4_servedIn_r4 := goodIn_r _ [248, 249, 250, 251, 114, 115, 116, 117, 253, 254, 255, 256, 143, 144, 145, 151, 152, 153, 154, 155, 156, 157, 159, 160] rfl (by decide +kernel)
