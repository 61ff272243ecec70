set_option maxRecDepth 20000 in
theorem gL_law_X4_pass : GoodIn wsL_law (wsV RL 79 RX4 yX4_pass wsX4_pass) := goodIn_app (goodIn_of _ (by decide +kernel)) ggL_law_X4_pass
set_option maxRecDepth 20000 in
theorem ggL_law_X5_pass : GoodIn wsL_law wsX5_pass := goodIn_r _ [299, 300, 77, 301, 78, 302, 79, 303, 175, 176, 177, 71, 178, 80, 179, 10, 180, 181, 182, 183, 304, 305, 306, 307, 308, 309, 310, 311, 312, 313, 314, 315, 316, 6, 7, 8, 317, 223, 224, 225, 564, 565, 566, 567, 568, 569, 570, 571, 572] rfl (by decide +kernel)
set_option maxRecDepth 20000 in
theorem gL_law_X5_pass : GoodIn wsL_law (wsV RL 184 RX5 yX5_pass wsX5_pass) := goodIn_app (goodIn_of _ (by decide +kernel)) ggL_law_X5_pass
set_option maxRecDepth 20000 in
theorem ggL_law_X5_isSame_s0 : GoodIn wsL_law [.code yX5_isSame cX5_isSame 9 (some .boolean)] := goodIn_r _ [515] rfl (by decide +kernel)
set_option maxRecDepth 20000 in
theorem ggL_law_X5_isSame_s1 : GoodIn wsL_law wsX5_isSame_r1 := goodIn_r _ [77, 80, 78, 303, 300, 302, 301, 179, 79, 516, 414, 415, 2, 416, 20, 136, 137, 138, 139, 140, 141, 196, 148, 149] rfl (by decide +kernel)
set_option maxRecDepth 20000 in
theorem ggL_law_X5_isSame_s2 : GoodIn wsL_law wsX5_isSame_r2 := goodIn_r _ [29, 150, 48, 517, 418, 419, 420, 518, 422, 423, 424, 201, 202, 203, 19, 204, 34, 147, 519, 426, 427, 428, 520, 430] rfl (by decide +kernel)
set_option maxRecDepth 20000 in
theorem ggL_law_X5_isSame_s3 : GoodIn wsL_law wsX5_isSame_r3 := goodIn_r _ [431, 432, 230, 155, 156, 38, 157, 158, 53, 180, 181, 182, 71, 183, 521, 484, 485, 486, 522, 434, 435, 436, 437, 152] rfl (by decide +kernel)
set_option maxRecDepth 20000 in
theorem ggL_law_X5_isSame_s4 : GoodIn wsL_law wsX5_isSame_r4 := goodIn_r _ [153, 438, 439, 440, 523, 442, 443, 444, 445, 281, 282, 42, 283, 126, 61, 62, 60, 59, 265, 284, 285, 286, 308, 309] rfl (by decide +kernel)
