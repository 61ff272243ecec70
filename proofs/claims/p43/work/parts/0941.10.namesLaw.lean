set_option maxRecDepth 20000 in
theorem ggL_law_X5_isSame_s5 : GoodIn wsL_law wsX5_isSame_r5 := goodIn_r _ [310, 311, 304, 305, 306, 307, 312, 313, 314, 315, 316, 6, 7, 8, 524, 459, 460, 461, 462, 463, 464, 465, 525, 467] rfl (by decide +kernel)
set_option maxRecDepth 20000 in
theorem ggL_law_X5_isSame_s6 : GoodIn wsL_law wsX5_isSame_r6 := goodIn_r _ [468, 469, 526, 471, 472, 473, 527, 475, 476, 477, 528, 499, 500, 501, 502, 289, 290, 291, 529, 324, 325, 326, 530, 332] rfl (by decide +kernel)
set_option maxRecDepth 20000 in
theorem ggL_law_X5_isSame_s7 : GoodIn wsL_law wsX5_isSame_r7 := goodIn_r _ [333, 334, 531, 336, 337, 338, 532, 340, 341, 342, 533, 344, 345, 346, 534, 348, 349, 350, 535, 352, 353, 354, 536, 356] rfl (by decide +kernel)
set_option maxRecDepth 20000 in
theorem ggL_law_X5_isSame_s8 : GoodIn wsL_law wsX5_isSame_r8 := goodIn_r _ [357, 358, 537, 360, 361, 362, 538, 364, 365, 366, 539, 368, 369, 370, 371, 372, 373, 374, 33, 113, 540, 541, 542, 543] rfl (by decide +kernel)
set_option maxRecDepth 20000 in
theorem ggL_law_X5_isSame_s9 : GoodIn wsL_law wsX5_isSame_r9 := goodIn_r _ [544, 545, 546, 547, 548, 70, 76, 549, 550, 551, 552, 553, 554, 73, 74, 75, 15, 16, 10, 555, 185, 186, 187, 556] rfl (by decide +kernel)
set_option maxRecDepth 20000 in
theorem ggL_law_X5_isSame_s10 : GoodIn wsL_law wsX5_isSame_r10 := goodIn_r _ [376, 377, 378, 557, 380, 381, 382, 383, 277, 278, 279, 558, 559, 560, 561, 163, 164, 165, 166, 35] rfl (by decide +kernel)
set_option maxRecDepth 20000 in
theorem ggL_law_X5_isSame_s11 : GoodIn wsL_law wsX50 := goodIn_r _ [564, 565, 566, 567, 568, 569, 570, 571, 572] rfl (by decide +kernel)
set_option maxRecDepth 20000 in
theorem ggL_law_X5_isSame_s12 : GoodIn wsL_law wsX40 := goodIn_r _ [562, 563] rfl (by decide +kernel)
set_option maxRecDepth 20000 in
theorem ggL_law_X5_isSame_s13 : GoodIn wsL_law wsX00 := goodIn_r _ [573, 574, 575, 576, 577, 578, 579, 580, 581, 582, 583, 584, 585, 586, 587] rfl (by decide +kernel)
set_option maxRecDepth 20000 in
theorem ggL_law_X5_isSame_s14 : GoodIn wsL_law wsX20 := goodIn_r _ [588] rfl (by decide +kernel)
set_option maxRecDepth 20000 in
theorem ggL_law_X5_isSame_s15 : GoodIn wsL_law wsX10 := goodIn_r _ [589, 590] rfl (by decide +kernel)
set_option maxRecDepth 20000 in
theorem ggL_law_X5_isSame_s16 : GoodIn wsL_law wsX30 := goodIn_r _ [591, 592, 593, 594, 595, 596] rfl (by decide +kernel)
