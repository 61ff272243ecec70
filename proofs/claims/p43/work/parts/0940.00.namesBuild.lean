set_option maxRecDepth 20000 in
theorem ggL_build_X5_init : GoodIn wsL_build wsX5_init := goodIn_r _ [6, 7, 8, 9, 10, 11, 12, 13, 14, 15, 281, 282, 283, 284, 285, 286, 287, 288, 289] rfl (by decide +kernel)
set_option maxRecDepth 20000 in
theorem gL_build_X5_init_n85 : GoodIn wsL_build (wsX5_init) := ggL_build_X5_init
set_option maxRecDepth 20000 in
theorem ggL_build_L_cell : GoodIn wsL_build wsL_cell := goodIn_r _ [19, 20] rfl (by decide +kernel)
set_option maxRecDepth 20000 in
theorem gL_build_L_cell : GoodIn wsL_build (va_wsS RL 86 yL_cell wsL_cell) := goodIn_app (goodIn_of _ (by decide +kernel)) ggL_build_L_cell
set_option maxRecDepth 20000 in
theorem ggL_build_L_below : GoodIn wsL_build wsL_below := goodIn_r _ [23, 24] rfl (by decide +kernel)
set_option maxRecDepth 20000 in
theorem gL_build_L_below : GoodIn wsL_build (va_wsS RL 18 yL_below wsL_below) := goodIn_app (goodIn_of _ (by decide +kernel)) ggL_build_L_below
set_option maxRecDepth 20000 in
theorem ggL_build_L_act_s0 : GoodIn wsL_build [.codeWith yL_act cL_act 9 (some .boolean) [(16, 151, 643, 83), (152, 306, 643, 83), (307, 327, 643, 83), (328, 346, 643, 83), (347, 380, 643, 83), (381, 433, 643, 83), (434, 487, 643, 83), (488, 541, 643, 83), (542, 593, 643, 83), (594, 642, 643, 83)]] := goodIn_r _ [27] rfl (by decide +kernel)
set_option maxRecDepth 20000 in
theorem ggL_build_L_act_s1 : GoodIn wsL_build wsL_act_r1 := goodIn_r _ [28, 29, 30, 13, 31, 32, 21, 22, 18, 23, 24, 33, 34, 3, 35, 10, 36, 37, 38, 39, 40, 41, 42, 43] rfl (by decide +kernel)
set_option maxRecDepth 20000 in
theorem ggL_build_L_act_s2 : GoodIn wsL_build wsL_act_r2 := goodIn_r _ [44, 45, 46, 47, 48, 49, 50, 51, 52, 53, 54, 55, 56, 57, 58, 59, 60, 61, 62, 63, 64, 65, 66, 67] rfl (by decide +kernel)
set_option maxRecDepth 20000 in
theorem ggL_build_L_act_s3 : GoodIn wsL_build wsL_act_r3 := goodIn_r _ [68, 69, 70, 71, 72, 73, 74, 75, 76, 77, 78, 79, 80, 81, 82, 83, 84, 85, 86, 87, 88, 89, 90, 91] rfl (by decide +kernel)
set_option maxRecDepth 20000 in
theorem ggL_build_L_act_s4 : GoodIn wsL_build wsL_act_r4 := goodIn_r _ [92, 93, 94, 95, 96, 97, 98, 99, 100, 101, 102, 103, 104, 105, 106, 107, 108, 109, 110, 111, 112, 113, 114, 115] rfl (by decide +kernel)
set_option maxRecDepth 20000 in
theorem ggL_build_L_act_s5 : GoodIn wsL_build wsL_act_r5 := goodIn_r _ [116, 117, 118, 119, 120, 121, 122, 123, 124, 125, 126, 127, 128, 129, 130, 11, 131, 132, 133, 134, 135, 136, 137, 138] rfl (by decide +kernel)
