set_option maxRecDepth 20000 in
theorem ggL_law_X4_init : GoodIn wsL_law wsX4_init := goodIn_r _ [13, 14, 15, 16, 17, 18, 19, 20, 21, 22, 23, 24, 25, 26, 27, 28, 29, 30, 31, 32, 33, 34, 35, 36, 37, 38, 39, 40, 41, 42, 43, 44, 45, 46, 47, 10, 48, 49, 50, 51, 52, 53, 54, 55, 56, 57, 58, 59, 60, 61, 62, 63, 64, 573, 574, 575, 576, 577, 578, 579, 580, 581, 582, 583, 584, 585, 586, 587, 562, 563, 588, 589, 590, 591, 592, 593, 594, 595, 596] rfl (by decide +kernel)
set_option maxRecDepth 20000 in
theorem gL_law_X4_init : GoodIn wsL_law (wsX4_init) := ggL_law_X4_init
set_option maxRecDepth 20000 in
theorem ggL_law_L_build_s0 : GoodIn wsL_law [.code yL_build cL_build 6 (some (.object "HouseBellsLaw$Sim"))] := goodIn_r _ [68] rfl (by decide +kernel)
set_option maxRecDepth 20000 in
theorem ggL_law_L_build_s1 : GoodIn wsL_law wsL_build_r1 := goodIn_r _ [69, 70, 71, 72, 73, 74, 75, 15, 16, 76, 77, 78, 10, 79, 80, 81, 82, 67, 83, 84, 85, 86, 87, 88] rfl (by decide +kernel)
set_option maxRecDepth 20000 in
theorem ggL_law_L_build_s2 : GoodIn wsL_law wsL_build_r2 := goodIn_r _ [89, 90, 91, 92, 4, 9, 93, 94, 95, 96, 97, 98, 99, 100, 2, 101, 102, 103, 104, 105, 20, 106, 107, 108] rfl (by decide +kernel)
set_option maxRecDepth 20000 in
theorem ggL_law_L_build_s3 : GoodIn wsL_law wsL_build_r3 := goodIn_r _ [109, 110, 111, 19, 112, 113, 30, 31, 32, 33, 34, 35, 114, 115, 116, 29, 117, 48, 118, 119, 120, 121, 122, 123] rfl (by decide +kernel)
set_option maxRecDepth 20000 in
theorem ggL_law_L_build_s4 : GoodIn wsL_law wsL_build_r4 := goodIn_r _ [124, 42, 125, 126, 59, 60, 127, 128, 129, 130, 131, 61, 62, 63, 132, 133, 134, 135, 136, 137, 138, 139, 140, 141] rfl (by decide +kernel)
set_option maxRecDepth 20000 in
theorem ggL_law_L_build_s5 : GoodIn wsL_law wsL_build_r5 := goodIn_r _ [142, 143, 144, 145, 26, 146, 39, 147, 148, 149, 150, 151, 152, 153, 154, 155, 156, 38, 157, 158, 53, 159, 160, 161] rfl (by decide +kernel)
set_option maxRecDepth 20000 in
theorem ggL_law_L_build_s6 : GoodIn wsL_law wsL_build_r6 := goodIn_r _ [162, 163, 164, 165, 166, 167, 168, 169, 170, 171, 172, 173, 7, 174, 175, 176, 177, 178, 179, 180, 181, 182, 183, 184] rfl (by decide +kernel)
set_option maxRecDepth 20000 in
theorem ggL_law_L_build_s7 : GoodIn wsL_law wsL_build_r7 := goodIn_r _ [185, 186, 187, 188, 189, 190, 191, 192, 193, 194, 195, 196, 197, 198, 199, 200, 201, 202, 203, 204, 205, 206, 207, 208] rfl (by decide +kernel)
set_option maxRecDepth 20000 in
theorem ggL_law_L_build_s8 : GoodIn wsL_law wsL_build_r8 := goodIn_r _ [209, 210, 211, 212, 213, 214, 215, 216, 217, 218, 219, 220, 221, 222, 223, 224, 225, 226, 227, 228, 229, 230, 231, 232] rfl (by decide +kernel)
set_option maxRecDepth 20000 in
theorem ggL_law_L_build_s9 : GoodIn wsL_law wsL_build_r9 := goodIn_r _ [233, 234, 235, 236, 237, 238, 239, 240, 241, 242, 243, 244, 245, 246, 247, 248, 249, 250, 251, 252, 253, 254, 255, 256] rfl (by decide +kernel)
