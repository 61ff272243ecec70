set_option maxRecDepth 20000 in
theorem ggL_law_L_build_s10 : GoodIn wsL_law wsL_build_r10 := goodIn_r _ [257, 258, 259, 260, 43, 261, 262, 263, 264, 265, 266, 267, 268, 269, 270, 271, 272, 273, 274, 275, 276, 277, 278, 279] rfl (by decide +kernel)
set_option maxRecDepth 20000 in
theorem ggL_law_L_build_s11 : GoodIn wsL_law wsL_build_r11 := goodIn_r _ [280, 281, 282, 283, 284, 285, 286, 287, 288, 289, 290, 291, 292, 293, 294, 295, 296, 297, 298, 299, 300, 301, 302, 303] rfl (by decide +kernel)
set_option maxRecDepth 20000 in
theorem ggL_law_L_build_s12 : GoodIn wsL_law wsL_build_r12 := goodIn_r _ [304, 305, 306, 307, 308, 309, 310, 311, 312, 313, 314, 315, 316, 6, 8, 317] rfl (by decide +kernel)
set_option maxRecDepth 20000 in
theorem ggL_law_L_build_s13 : GoodIn wsL_law wsX50 := goodIn_r _ [564, 565, 566, 567, 568, 569, 570, 571, 572] rfl (by decide +kernel)
set_option maxRecDepth 20000 in
theorem ggL_law_L_build_s14 : GoodIn wsL_law wsX40 := goodIn_r _ [562, 563] rfl (by decide +kernel)
set_option maxRecDepth 20000 in
theorem ggL_law_L_build_s15 : GoodIn wsL_law wsX00 := goodIn_r _ [573, 574, 575, 576, 577, 578, 579, 580, 581, 582, 583, 584, 585, 586, 587] rfl (by decide +kernel)
set_option maxRecDepth 20000 in
theorem ggL_law_L_build_s16 : GoodIn wsL_law wsX20 := goodIn_r _ [588] rfl (by decide +kernel)
set_option maxRecDepth 20000 in
theorem ggL_law_L_build_s17 : GoodIn wsL_law wsX30 := goodIn_r _ [591, 592, 593, 594, 595, 596] rfl (by decide +kernel)
set_option maxRecDepth 20000 in
theorem ggL_law_L_build_s18 : GoodIn wsL_law wsX10 := goodIn_r _ [589, 590] rfl (by decide +kernel)
set_option maxRecDepth 20000 in
theorem ggL_law_L_build : GoodIn wsL_law wsL_build := goodIn_ca (goodIn_ca (goodIn_ca (goodIn_ca (goodIn_ca (goodIn_ca (goodIn_ca (goodIn_ca (goodIn_ca (goodIn_app ggL_law_L_build_s0 (goodIn_app ggL_law_L_build_s1 (goodIn_app ggL_law_L_build_s2 (goodIn_app ggL_law_L_build_s3 (goodIn_app ggL_law_L_build_s4 (goodIn_app ggL_law_L_build_s5 (goodIn_app ggL_law_L_build_s6 (goodIn_app ggL_law_L_build_s7 (goodIn_app ggL_law_L_build_s8 (goodIn_app ggL_law_L_build_s9 (goodIn_app ggL_law_L_build_s10 (goodIn_app ggL_law_L_build_s11 ggL_law_L_build_s12)))))))))))) ggL_law_L_build_s13) ggL_law_L_build_s14) ggL_law_L_build_s15) ggL_law_L_build_s16) ggL_law_L_build_s17) ggL_law_L_build_s18) (goodIn_sub (fun _ h => List.mem_append_left _ (List.mem_append_left _ (List.mem_append_right _ h))) (by decide +kernel))) (goodIn_sub (fun _ h => List.mem_append_left _ (List.mem_append_right _ h)) (by decide +kernel))) (goodIn_sub (fun _ h => List.mem_append_right _ h) (by decide +kernel))
set_option maxRecDepth 20000 in
theorem gL_law_L_build : GoodIn wsL_law (va_wsS RL 96 yL_build wsL_build) := goodIn_app (goodIn_of _ (by decide +kernel)) ggL_law_L_build
set_option maxRecDepth 20000 in
theorem ggL_law_L_cell : GoodIn wsL_law wsL_cell := goodIn_r _ [83, 84] rfl (by decide +kernel)
set_option maxRecDepth 20000 in
theorem gL_law_L_cell : GoodIn wsL_law (va_wsS RL 86 yL_cell wsL_cell) := goodIn_app (goodIn_of _ (by decide +kernel)) ggL_law_L_cell
set_option maxRecDepth 20000 in
theorem ggL_law_L_act_s0 : GoodIn wsL_law [.codeWith yL_act cL_act 9 (some .boolean) [(16, 151, 643, 83), (152, 306, 643, 83), (307, 327, 643, 83), (328, 346, 643, 83), (347, 380, 643, 83), (381, 433, 643, 83), (434, 487, 643, 83), (488, 541, 643, 83), (542, 593, 643, 83), (594, 642, 643, 83)]] := goodIn_r _ [91] rfl (by decide +kernel)
set_option maxRecDepth 20000 in
theorem ggL_law_L_act_s1 : GoodIn wsL_law wsL_act_r1 := goodIn_r _ [92, 4, 9, 10, 93, 94, 85, 86, 67, 87, 88, 95, 96, 71, 97, 76, 98, 99, 100, 2, 101, 102, 103, 104] rfl (by decide +kernel)
set_option maxRecDepth 20000 in
theorem ggL_law_L_act_s2 : GoodIn wsL_law wsL_act_r2 := goodIn_r _ [105, 20, 106, 107, 108, 109, 110, 111, 19, 112, 113, 30, 31, 32, 33, 34, 35, 114, 115, 116, 29, 117, 48, 118] rfl (by decide +kernel)
set_option maxRecDepth 20000 in
theorem ggL_law_L_act_s3 : GoodIn wsL_law wsL_act_r3 := goodIn_r _ [119, 120, 121, 122, 123, 124, 42, 125, 126, 59, 60, 127, 128, 129, 130, 131, 61, 62, 63, 132, 133, 134, 135, 136] rfl (by decide +kernel)
set_option maxRecDepth 20000 in
theorem ggL_law_L_act_s4 : GoodIn wsL_law wsL_act_r4 := goodIn_r _ [137, 138, 139, 140, 141, 142, 143, 144, 145, 26, 146, 39, 147, 148, 149, 150, 151, 152, 153, 154, 155, 156, 38, 157] rfl (by decide +kernel)
set_option maxRecDepth 20000 in
theorem ggL_law_L_act_s5 : GoodIn wsL_law wsL_act_r5 := goodIn_r _ [158, 53, 159, 160, 161, 162, 163, 164, 165, 166, 167, 168, 169, 170, 171, 77, 172, 173, 7, 174, 175, 176, 177, 178] rfl (by decide +kernel)
set_option maxRecDepth 20000 in
theorem ggL_law_L_act_s6 : GoodIn wsL_law wsL_act_r6 := goodIn_r _ [80, 179, 79, 180, 181, 182, 183, 184, 185, 186, 187, 188, 189, 190, 191, 192, 193, 194, 195, 196, 197, 198, 199, 200] rfl (by decide +kernel)
set_option maxRecDepth 20000 in
theorem ggL_law_L_act_s7 : GoodIn wsL_law wsL_act_r7 := goodIn_r _ [201, 202, 203, 204, 205, 206, 207, 208, 209, 210, 211, 212, 213, 214, 215, 216, 217, 218, 219, 220, 221, 222, 223, 224] rfl (by decide +kernel)
set_option maxRecDepth 20000 in
theorem ggL_law_L_act_s8 : GoodIn wsL_law wsL_act_r8 := goodIn_r _ [225, 226, 227, 228, 229, 230, 231, 232, 233, 234, 235, 236, 237, 238, 239, 240, 241, 242, 243, 244, 245, 246, 247, 248] rfl (by decide +kernel)
set_option maxRecDepth 20000 in
theorem ggL_law_L_act_s9 : GoodIn wsL_law wsL_act_r9 := goodIn_r _ [249, 250, 251, 252, 253, 254, 255, 256, 257, 258, 259, 260, 43, 261, 262, 263, 264, 265, 266, 267, 268, 269, 270, 271] rfl (by decide +kernel)
set_option maxRecDepth 20000 in
theorem ggL_law_L_act_s10 : GoodIn wsL_law wsL_act_r10 := goodIn_r _ [272, 273, 274, 275, 276, 277, 278, 279, 280, 281, 282, 283, 284, 285, 286, 287, 288, 289, 290, 291, 292, 293, 294, 295] rfl (by decide +kernel)
