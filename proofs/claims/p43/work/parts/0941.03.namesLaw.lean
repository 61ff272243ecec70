set_option maxRecDepth 20000 in
theorem ggL_law_X4_digest_s2 : GoodIn wsL_law wsX4_digest_r2 := goodIn_r _ [344, 345, 346, 347, 348, 349, 350, 351, 352, 353, 354, 355, 356, 357, 358, 359, 360, 361, 362, 196, 148, 149, 29, 150] rfl (by decide +kernel)
set_option maxRecDepth 20000 in
theorem ggL_law_X4_digest_s3 : GoodIn wsL_law wsX4_digest_r3 := goodIn_r _ [48, 363, 364, 365, 366, 367, 368, 369, 370, 371, 372, 373, 19, 374, 33, 113, 147, 375, 376, 377, 378, 379, 380, 381] rfl (by decide +kernel)
set_option maxRecDepth 20000 in
theorem ggL_law_X4_digest_s4 : GoodIn wsL_law wsX4_digest_r4 := goodIn_r _ [382, 383, 277, 278, 38, 279, 158, 53, 384, 385, 386, 387, 21, 239, 240, 241, 102, 103, 106, 107, 108, 388, 389, 390] rfl (by decide +kernel)
set_option maxRecDepth 20000 in
theorem ggL_law_X4_digest_s5 : GoodIn wsL_law wsX4_digest_r5 := goodIn_r _ [391, 247, 26, 246, 271, 252, 146, 30, 31, 32, 34, 35, 39, 43, 392, 393, 394, 395, 396, 397, 398, 399, 400, 401] rfl (by decide +kernel)
set_option maxRecDepth 20000 in
theorem ggL_law_X4_digest_s6 : GoodIn wsL_law wsX4_digest_r6 := goodIn_r _ [402, 42, 403, 126, 59, 60, 61, 62, 63, 404, 405, 406, 407, 408, 409, 410, 411, 412, 242, 243, 244, 245, 248, 249] rfl (by decide +kernel)
set_option maxRecDepth 20000 in
theorem ggL_law_X4_digest_s7 : GoodIn wsL_law wsX4_digest_r7 := goodIn_r _ [250, 251, 114, 115, 116, 117, 253, 254, 255, 256, 143, 144, 145, 151, 152, 153, 154, 155, 156, 157, 159, 160, 161, 162] rfl (by decide +kernel)
set_option maxRecDepth 20000 in
theorem ggL_law_X4_digest_s8 : GoodIn wsL_law wsX4_digest_r8 := goodIn_r _ [257, 258, 259, 260, 261, 262, 263, 264, 265, 266, 129, 130, 131, 127, 267, 268, 269, 270, 272, 273, 274, 275, 276, 280] rfl (by decide +kernel)
set_option maxRecDepth 20000 in
theorem ggL_law_X4_digest_s9 : GoodIn wsL_law wsX4_digest_r9 := goodIn_r _ [281, 282, 283, 284, 285, 286, 287, 232, 233, 234, 288, 289, 290, 291, 413, 414, 415, 416, 136, 137, 138, 139, 140, 141] rfl (by decide +kernel)
set_option maxRecDepth 20000 in
theorem ggL_law_X4_digest_s10 : GoodIn wsL_law wsX4_digest_r10 := goodIn_r _ [417, 418, 419, 420, 421, 422, 423, 424, 201, 202, 203, 204, 425, 426, 427, 428, 429, 430, 431, 432, 230, 433, 434, 435] rfl (by decide +kernel)
set_option maxRecDepth 20000 in
theorem ggL_law_X4_digest_s11 : GoodIn wsL_law wsX4_digest_r11 := goodIn_r _ [436, 437, 438, 439, 440, 441, 442, 443, 444, 445, 446, 447, 448, 449, 450, 451, 452, 453, 163, 164, 165, 166, 454, 455] rfl (by decide +kernel)
set_option maxRecDepth 20000 in
theorem ggL_law_X4_digest_s12 : GoodIn wsL_law wsX4_digest_r12 := goodIn_r _ [456, 457, 192, 193, 194, 195, 458, 459, 460, 461, 462, 463, 464, 465, 466, 467, 468, 469, 470, 471, 472, 473, 474, 475] rfl (by decide +kernel)
set_option maxRecDepth 20000 in
theorem ggL_law_X4_digest_s13 : GoodIn wsL_law wsX4_digest_r13 := goodIn_r _ [476, 477] rfl (by decide +kernel)
