set_option maxRecDepth 20000 in
theorem ggL_build_L_act_s6 : GoodIn wsL_build wsL_act_r6 := goodIn_r _ [15, 139, 14, 140, 141, 142, 143, 144, 145, 146, 147, 148, 149, 150, 151, 152, 153, 154, 155, 156, 157, 158, 159, 160] rfl (by decide +kernel)
set_option maxRecDepth 20000 in
theorem ggL_build_L_act_s7 : GoodIn wsL_build wsL_act_r7 := goodIn_r _ [161, 162, 163, 164, 165, 166, 167, 168, 169, 170, 171, 172, 173, 174, 175, 176, 177, 178, 179, 180, 181, 182, 183, 184] rfl (by decide +kernel)
set_option maxRecDepth 20000 in
theorem ggL_build_L_act_s8 : GoodIn wsL_build wsL_act_r8 := goodIn_r _ [185, 186, 187, 188, 189, 190, 191, 192, 193, 194, 195, 196, 197, 198, 199, 200, 201, 202, 203, 204, 205, 206, 207, 208] rfl (by decide +kernel)
set_option maxRecDepth 20000 in
theorem ggL_build_L_act_s9 : GoodIn wsL_build wsL_act_r9 := goodIn_r _ [209, 210, 211, 212, 213, 214, 215, 216, 217, 218, 219, 220, 221, 222, 223, 224, 225, 226, 227, 228, 229, 230, 231, 232] rfl (by decide +kernel)
set_option maxRecDepth 20000 in
theorem ggL_build_L_act_s10 : GoodIn wsL_build wsL_act_r10 := goodIn_r _ [233, 234, 235, 236, 237, 238, 239, 240, 241, 242, 243, 244, 245, 246, 247, 248, 249, 250, 251, 252, 253, 254, 255, 256] rfl (by decide +kernel)
set_option maxRecDepth 20000 in
theorem ggL_build_L_act_s11 : GoodIn wsL_build wsL_act_r11 := goodIn_r _ [257, 258, 259, 260, 261, 262, 12, 263, 264, 265, 266, 267, 268, 269, 270, 271, 272, 273, 274, 275, 276, 277, 278, 279] rfl (by decide +kernel)
set_option maxRecDepth 20000 in
theorem ggL_build_L_act_s12 : GoodIn wsL_build wsL_act_r12 := goodIn_r _ [280] rfl (by decide +kernel)
set_option maxRecDepth 20000 in
theorem ggL_build_L_act_s13 : GoodIn wsL_build wsX50 := goodIn_r _ [281, 282, 283, 284, 285, 286, 287, 288, 289] rfl (by decide +kernel)
set_option maxRecDepth 20000 in
theorem ggL_build_L_act_s14 : GoodIn wsL_build wsX40 := goodIn_r _ [290, 291] rfl (by decide +kernel)
set_option maxRecDepth 20000 in
theorem ggL_build_L_act_s15 : GoodIn wsL_build wsX00 := goodIn_r _ [292, 293, 294, 295, 296, 297, 298, 299, 300, 301, 302, 303, 304, 305, 306] rfl (by decide +kernel)
set_option maxRecDepth 20000 in
theorem ggL_build_L_act_s16 : GoodIn wsL_build wsX20 := goodIn_r _ [307] rfl (by decide +kernel)
set_option maxRecDepth 20000 in
theorem ggL_build_L_act_s17 : GoodIn wsL_build wsX30 := goodIn_r _ [308, 309, 310, 311, 312, 313] rfl (by decide +kernel)
