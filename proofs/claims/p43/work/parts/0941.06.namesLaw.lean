set_option maxRecDepth 20000 in
theorem ggL_law_X4_minutesUntilServed_s9 : GoodIn wsL_law wsX20 := goodIn_r _ [588] rfl (by decide +kernel)
set_option maxRecDepth 20000 in
theorem ggL_law_X4_minutesUntilServed_s10 : GoodIn wsL_law wsX10 := goodIn_r _ [589, 590] rfl (by decide +kernel)
set_option maxRecDepth 20000 in
theorem ggL_law_X4_minutesUntilServed_s11 : GoodIn wsL_law wsX30 := goodIn_r _ [591, 592, 593, 594, 595, 596] rfl (by decide +kernel)
set_option maxRecDepth 20000 in
theorem ggL_law_X4_minutesUntilServed : GoodIn wsL_law wsX4_minutesUntilServed := goodIn_ca (goodIn_ca (goodIn_ca (goodIn_ca (goodIn_ca (goodIn_ca (goodIn_app ggL_law_X4_minutesUntilServed_s0 (goodIn_app ggL_law_X4_minutesUntilServed_s1 (goodIn_app ggL_law_X4_minutesUntilServed_s2 (goodIn_app ggL_law_X4_minutesUntilServed_s3 (goodIn_app ggL_law_X4_minutesUntilServed_s4 (goodIn_app ggL_law_X4_minutesUntilServed_s5 ggL_law_X4_minutesUntilServed_s6)))))) ggL_law_X4_minutesUntilServed_s7) ggL_law_X4_minutesUntilServed_s8) ggL_law_X4_minutesUntilServed_s9) ggL_law_X4_minutesUntilServed_s10) ggL_law_X4_minutesUntilServed_s11) (goodIn_sub (fun _ h => List.mem_append_right _ h) (by decide +kernel))
set_option maxRecDepth 20000 in
theorem gL_law_X4_minutesUntilServed : GoodIn wsL_law (wsV RL 169 RX4 yX4_minutesUntilServed wsX4_minutesUntilServed) := goodIn_app (goodIn_of _ (by decide +kernel)) ggL_law_X4_minutesUntilServed
set_option maxRecDepth 20000 in
theorem ggL_law_X4_bestToCross_s0 : GoodIn wsL_law [.code yX4_bestToCross cX4_bestToCross 6 (some .int)] := goodIn_r _ [457] rfl (by decide +kernel)
set_option maxRecDepth 20000 in
theorem ggL_law_X4_bestToCross_s1 : GoodIn wsL_law wsX4_bestToCross_r1 := goodIn_r _ [21, 20, 136, 137, 138, 2, 139, 140, 141, 388, 389, 390, 19, 391, 247, 113, 26, 246, 271, 252, 146, 30, 31, 32] rfl (by decide +kernel)
set_option maxRecDepth 20000 in
theorem ggL_law_X4_bestToCross_s2 : GoodIn wsL_law wsX4_bestToCross_r2 := goodIn_r _ [33, 34, 35, 39, 43, 392, 393, 394, 29, 395, 48, 396, 397, 398, 38, 399, 158, 53, 400, 401, 402, 42, 403, 126] rfl (by decide +kernel)
set_option maxRecDepth 20000 in
theorem ggL_law_X4_bestToCross_s3 : GoodIn wsL_law wsX4_bestToCross_r3 := goodIn_r _ [59, 60, 61, 62, 63, 404, 405, 406, 407, 408, 409, 410, 411, 412, 147, 148, 149, 150, 242, 243, 244, 245, 248, 249] rfl (by decide +kernel)
set_option maxRecDepth 20000 in
theorem ggL_law_X4_bestToCross_s4 : GoodIn wsL_law wsX4_bestToCross_r4 := goodIn_r _ [250, 251, 114, 115, 116, 117, 253, 254, 255, 256, 143, 144, 145, 151, 152, 153, 154, 155, 156, 157, 159, 160, 161, 162] rfl (by decide +kernel)
set_option maxRecDepth 20000 in
theorem ggL_law_X4_bestToCross_s5 : GoodIn wsL_law wsX4_bestToCross_r5 := goodIn_r _ [257, 258, 259, 260, 261, 262, 263, 264, 265, 266, 129, 130, 131, 127, 267, 268, 269, 270, 272, 273, 274, 275, 276, 277] rfl (by decide +kernel)
set_option maxRecDepth 20000 in
theorem ggL_law_X4_bestToCross_s6 : GoodIn wsL_law wsX4_bestToCross_r6 := goodIn_r _ [278, 279, 280, 281, 282, 283, 284, 285, 286, 287, 232, 233, 234, 288, 289, 290, 291, 192, 193, 194, 195] rfl (by decide +kernel)
