set_option maxRecDepth 20000 in
theorem ggL_law_X4_init : GoodIn wsL_law wsX4_init := goodIn_r _ [9, 10, 11, 12, 13, 14, 15, 16, 17, 18, 19, 20, 21, 22, 23, 24, 25, 26, 27, 28, 29, 30, 31, 32, 33, 34, 35, 36, 37, 38, 39, 40, 41, 42, 43, 44, 45, 46, 47, 48, 49, 50, 51, 52, 53, 54, 55, 56, 57, 58, 59, 60, 61, 847, 848, 849, 850, 851, 852, 853, 854, 855, 856, 857, 858, 859, 860, 861, 834, 835, 862, 863, 864, 865, 866, 867, 868, 869, 870] (by decide +kernel) (by decide +kernel)
set_option maxRecDepth 20000 in
theorem gL_law_X4_init : GoodIn wsL_law (wsX4_init) := ggL_law_X4_init
set_option maxRecDepth 20000 in
theorem ggL_law_X5_init : GoodIn wsL_law wsX5_init := goodIn_r _ [64, 65, 11, 12, 44, 66, 67, 68, 69, 70, 71, 72, 73, 74, 836, 837, 838, 839, 840, 841, 842, 843, 844, 845, 846] (by decide +kernel) (by decide +kernel)
set_option maxRecDepth 20000 in
theorem gL_law_X5_init : GoodIn wsL_law (wsX5_init) := ggL_law_X5_init
set_option maxRecDepth 20000 in
theorem ggL_law_L_addRoom : GoodIn wsL_law wsL_addRoom := goodIn_ca (goodIn_ca (goodIn_r _ [78, 79, 80, 81, 82, 83, 2, 84, 85, 86, 87, 88, 16, 89, 90, 91, 92, 93, 94, 15, 95, 96, 26, 27, 28, 29, 30, 31, 97, 98, 99, 25, 100, 45, 834, 835, 847, 848, 849, 850, 851, 852, 853, 854, 855, 856, 857, 858, 859, 860, 861, 862] (by decide +kernel) (by decide +kernel)) (goodIn_sub (fun _ h => List.mem_append_left _ (List.mem_append_left _ (List.mem_append_right _ h))) (by decide +kernel))) (goodIn_sub (fun _ h => List.mem_append_left _ (List.mem_append_right _ h)) (by decide +kernel))
set_option maxRecDepth 20000 in
theorem gL_law_L_addRoom : GoodIn wsL_law (va_wsS RL 98 yL_addRoom wsL_addRoom) := goodIn_app (goodIn_of _ (by decide +kernel)) ggL_law_L_addRoom
set_option maxRecDepth 20000 in
theorem ggL_law_X5_addRoom : GoodIn wsL_law wsX5_addRoom := goodIn_r _ [104, 105, 106, 66, 67, 68, 69, 73, 107, 108, 5, 109, 110, 111, 112, 113, 836, 837, 838, 839, 840, 841, 842, 843, 844, 845, 846] (by decide +kernel) (by decide +kernel)
set_option maxRecDepth 20000 in
theorem gL_law_X5_addRoom : GoodIn wsL_law (wsV RL 103 RX5 yX5_addRoom wsX5_addRoom) := goodIn_app (goodIn_of _ (by decide +kernel)) ggL_law_X5_addRoom
set_option maxRecDepth 20000 in
theorem ggL_law_X5_thrown : GoodIn wsL_law wsX5_thrown := goodIn_r _ [117, 105, 836, 837, 838, 839, 840, 841, 842, 843, 844, 845, 846] (by decide +kernel) (by decide +kernel)
set_option maxRecDepth 20000 in
theorem gL_law_X5_thrown : GoodIn wsL_law (wsV RL 104 RX5 yX5_thrown wsX5_thrown) := goodIn_app (goodIn_of _ (by decide +kernel)) ggL_law_X5_thrown
set_option maxRecDepth 20000 in
theorem ggL_law_L_addServant : GoodIn wsL_law wsL_addServant := goodIn_ca (goodIn_ca (goodIn_r _ [120, 79, 80, 121, 122, 123, 2, 124, 85, 86, 87, 88, 16, 89, 90, 91, 125, 126, 127, 38, 128, 129, 56, 57, 130, 98, 99, 25, 100, 45, 131, 132, 133, 134, 58, 59, 60, 834, 835, 847, 848, 849, 850, 851, 852, 853, 854, 855, 856, 857, 858, 859, 860, 861, 865, 866, 867, 868, 869, 870, 862] (by decide +kernel) (by decide +kernel)) (goodIn_sub (fun _ h => List.mem_append_left _ (List.mem_append_left _ (List.mem_append_right _ h))) (by decide +kernel))) (goodIn_sub (fun _ h => List.mem_append_left _ (List.mem_append_right _ h)) (by decide +kernel))
set_option maxRecDepth 20000 in
theorem gL_law_L_addServant : GoodIn wsL_law (va_wsS RL 108 yL_addServant wsL_addServant) := goodIn_app (goodIn_of _ (by decide +kernel)) ggL_law_L_addServant
set_option maxRecDepth 20000 in
theorem ggL_law_X5_addServant : GoodIn wsL_law wsX5_addServant := goodIn_r _ [138, 105, 139, 72, 107, 108, 5, 109, 110, 111, 112, 113, 836, 837, 838, 839, 840, 841, 842, 843, 844, 845, 846] (by decide +kernel) (by decide +kernel)
set_option maxRecDepth 20000 in
theorem gL_law_X5_addServant : GoodIn wsL_law (wsV RL 111 RX5 yX5_addServant wsX5_addServant) := goodIn_app (goodIn_of _ (by decide +kernel)) ggL_law_X5_addServant
set_option maxRecDepth 20000 in
theorem ggL_law_L_ring : GoodIn wsL_law wsL_ring := goodIn_ca (goodIn_r _ [142, 143, 144, 145, 146, 2, 147, 16, 148, 149, 150, 151, 152, 153, 154, 155, 156, 15, 157, 26, 30, 22, 158, 29, 35, 159, 160, 161, 25, 162, 45, 163, 164, 165, 166, 167, 168, 34, 169, 170, 50, 171, 172, 173, 174, 175, 176, 177, 178, 31, 179, 98, 99, 100, 834, 835, 847, 848, 849, 850, 851, 852, 853, 854, 855, 856, 857, 858, 859, 860, 861, 862, 863, 864] (by decide +kernel) (by decide +kernel)) (goodIn_sub (fun _ h => List.mem_append_right _ h) (by decide +kernel))
set_option maxRecDepth 20000 in
theorem gL_law_L_ring : GoodIn wsL_law (va_wsS RL 112 yL_ring wsL_ring) := goodIn_app (goodIn_of _ (by decide +kernel)) ggL_law_L_ring
set_option maxRecDepth 20000 in
theorem ggL_law_X5_ring : GoodIn wsL_law wsX5_ring := goodIn_r _ [183, 73, 184, 185, 186, 5, 187, 106, 107, 108, 109, 188, 189, 190, 191, 105, 192, 193, 194, 195, 71, 66, 69, 196, 197, 198, 199, 836, 837, 838, 839, 840, 841, 842, 843, 844, 845, 846] (by decide +kernel) (by decide +kernel)
set_option maxRecDepth 20000 in
theorem gL_law_X5_ring : GoodIn wsL_law (wsV RL 114 RX5 yX5_ring wsX5_ring) := goodIn_app (goodIn_of _ (by decide +kernel)) ggL_law_X5_ring
set_option maxRecDepth 20000 in
theorem ggL_law_L_cross : GoodIn wsL_law wsL_cross := goodIn_ca (goodIn_ca (goodIn_r _ [202, 143, 79, 203, 204, 205, 2, 206, 85, 86, 16, 148, 149, 150, 151, 152, 153, 207, 208, 209, 15, 210, 29, 159, 160, 161, 25, 162, 45, 97, 98, 99, 100, 211, 834, 835, 847, 848, 849, 850, 851, 852, 853, 854, 855, 856, 857, 858, 859, 860, 861, 862] (by decide +kernel) (by decide +kernel)) (goodIn_sub (fun _ h => List.mem_append_left _ (List.mem_append_left _ (List.mem_append_right _ h))) (by decide +kernel))) (goodIn_sub (fun _ h => List.mem_append_right _ h) (by decide +kernel))
set_option maxRecDepth 20000 in
theorem gL_law_L_cross : GoodIn wsL_law (va_wsS RL 115 yL_cross wsL_cross) := goodIn_app (goodIn_of _ (by decide +kernel)) ggL_law_L_cross
set_option maxRecDepth 20000 in
theorem ggL_law_X5_cross : GoodIn wsL_law wsX5_cross := goodIn_r _ [215, 69, 184, 185, 186, 5, 187, 106, 107, 108, 109, 188, 189, 190, 191, 105, 110, 111, 112, 113, 216, 217, 218, 219, 836, 837, 838, 839, 840, 841, 842, 843, 844, 845, 846] (by decide +kernel) (by decide +kernel)
set_option maxRecDepth 20000 in
theorem gL_law_X5_cross : GoodIn wsL_law (wsV RL 118 RX5 yX5_cross wsX5_cross) := goodIn_app (goodIn_of _ (by decide +kernel)) ggL_law_X5_cross
set_option maxRecDepth 20000 in
theorem ggL_law_L_cut : GoodIn wsL_law wsL_cut := goodIn_ca (goodIn_ca (goodIn_r _ [222, 143, 80, 223, 224, 225, 2, 226, 87, 88, 16, 148, 149, 150, 151, 152, 153, 227, 228, 229, 15, 230, 30, 159, 160, 161, 25, 162, 45, 179, 98, 99, 100, 231, 232, 233, 234, 96, 834, 835, 847, 848, 849, 850, 851, 852, 853, 854, 855, 856, 857, 858, 859, 860, 861, 862] (by decide +kernel) (by decide +kernel)) (goodIn_sub (fun _ h => List.mem_append_left _ (List.mem_append_right _ h)) (by decide +kernel))) (goodIn_sub (fun _ h => List.mem_append_right _ h) (by decide +kernel))
set_option maxRecDepth 20000 in
theorem gL_law_L_cut : GoodIn wsL_law (va_wsS RL 119 yL_cut wsL_cut) := goodIn_app (goodIn_of _ (by decide +kernel)) ggL_law_L_cut
set_option maxRecDepth 20000 in
theorem ggL_law_X5_cut : GoodIn wsL_law wsX5_cut := goodIn_r _ [238, 239, 240, 241, 5, 242, 71, 184, 185, 186, 187, 106, 107, 108, 109, 188, 189, 190, 191, 105, 110, 111, 112, 113, 243, 244, 245, 246, 836, 837, 838, 839, 840, 841, 842, 843, 844, 845, 846] (by decide +kernel) (by decide +kernel)
set_option maxRecDepth 20000 in
theorem gL_law_X5_cut : GoodIn wsL_law (wsV RL 121 RX5 yX5_cut wsX5_cut) := goodIn_app (goodIn_of _ (by decide +kernel)) ggL_law_X5_cut
set_option maxRecDepth 20000 in
theorem ggL_law_L_mend : GoodIn wsL_law wsL_mend := goodIn_ca (goodIn_ca (goodIn_r _ [249, 143, 80, 250, 251, 252, 2, 253, 87, 88, 16, 148, 149, 150, 151, 152, 153, 227, 228, 229, 15, 230, 30, 159, 160, 161, 25, 162, 45, 179, 98, 99, 100, 231, 232, 233, 234, 96, 834, 835, 847, 848, 849, 850, 851, 852, 853, 854, 855, 856, 857, 858, 859, 860, 861, 862] (by decide +kernel) (by decide +kernel)) (goodIn_sub (fun _ h => List.mem_append_left _ (List.mem_append_right _ h)) (by decide +kernel))) (goodIn_sub (fun _ h => List.mem_append_right _ h) (by decide +kernel))
set_option maxRecDepth 20000 in
theorem gL_law_L_mend : GoodIn wsL_law (va_wsS RL 122 yL_mend wsL_mend) := goodIn_app (goodIn_of _ (by decide +kernel)) ggL_law_L_mend
set_option maxRecDepth 20000 in
theorem ggL_law_X5_mend : GoodIn wsL_law wsX5_mend := goodIn_r _ [257, 239, 240, 241, 5, 242, 71, 184, 185, 186, 187, 106, 107, 108, 109, 188, 189, 190, 191, 105, 110, 111, 112, 113, 243, 244, 245, 246, 836, 837, 838, 839, 840, 841, 842, 843, 844, 845, 846] (by decide +kernel) (by decide +kernel)
set_option maxRecDepth 20000 in
theorem gL_law_X5_mend : GoodIn wsL_law (wsV RL 124 RX5 yX5_mend wsX5_mend) := goodIn_app (goodIn_of _ (by decide +kernel)) ggL_law_X5_mend
set_option maxRecDepth 20000 in
theorem ggL_law_L_recharge : GoodIn wsL_law wsL_recharge := goodIn_ca (goodIn_r _ [260, 79, 261, 262, 263, 2, 264, 85, 86, 16, 89, 90, 91, 834, 835, 847, 848, 849, 850, 851, 852, 853, 854, 855, 856, 857, 858, 859, 860, 861] (by decide +kernel) (by decide +kernel)) (goodIn_sub (fun _ h => List.mem_append_left _ (List.mem_append_left _ (List.mem_append_right _ h))) (by decide +kernel))
set_option maxRecDepth 20000 in
theorem gL_law_L_recharge : GoodIn wsL_law (va_wsS RL 125 yL_recharge wsL_recharge) := goodIn_app (goodIn_of _ (by decide +kernel)) ggL_law_L_recharge
set_option maxRecDepth 20000 in
theorem ggL_law_X5_recharge : GoodIn wsL_law wsX5_recharge := goodIn_r _ [268, 105, 73, 107, 108, 5, 109, 110, 111, 112, 113, 836, 837, 838, 839, 840, 841, 842, 843, 844, 845, 846] (by decide +kernel) (by decide +kernel)
set_option maxRecDepth 20000 in
theorem gL_law_X5_recharge : GoodIn wsL_law (wsV RL 127 RX5 yX5_recharge wsX5_recharge) := goodIn_app (goodIn_of _ (by decide +kernel)) ggL_law_X5_recharge
set_option maxRecDepth 20000 in
theorem ggL_law_L_putUp : GoodIn wsL_law wsL_putUp := goodIn_ca (goodIn_ca (goodIn_r _ [271, 143, 80, 272, 273, 274, 2, 275, 87, 88, 16, 148, 149, 150, 151, 152, 153, 276, 167, 168, 34, 169, 170, 50, 277, 278, 279, 280, 834, 835, 847, 848, 849, 850, 851, 852, 853, 854, 855, 856, 857, 858, 859, 860, 861, 863, 864] (by decide +kernel) (by decide +kernel)) (goodIn_sub (fun _ h => List.mem_append_left _ (List.mem_append_right _ h)) (by decide +kernel))) (goodIn_sub (fun _ h => List.mem_append_right _ h) (by decide +kernel))
set_option maxRecDepth 20000 in
theorem gL_law_L_putUp : GoodIn wsL_law (va_wsS RL 128 yL_putUp wsL_putUp) := goodIn_app (goodIn_of _ (by decide +kernel)) ggL_law_L_putUp
set_option maxRecDepth 20000 in
theorem ggL_law_X5_putUp : GoodIn wsL_law wsX5_putUp := goodIn_r _ [284, 73, 184, 185, 186, 5, 187, 106, 107, 108, 109, 188, 189, 190, 191, 105, 196, 197, 198, 199, 110, 111, 112, 113, 285, 286, 287, 288, 836, 837, 838, 839, 840, 841, 842, 843, 844, 845, 846] (by decide +kernel) (by decide +kernel)
set_option maxRecDepth 20000 in
theorem gL_law_X5_putUp : GoodIn wsL_law (wsV RL 130 RX5 yX5_putUp wsX5_putUp) := goodIn_app (goodIn_of _ (by decide +kernel)) ggL_law_X5_putUp
set_option maxRecDepth 20000 in
theorem ggL_law_L_pass : GoodIn wsL_law wsL_pass := goodIn_ca (goodIn_r _ [291, 79, 292, 293, 294, 2, 295, 16, 296, 297, 298, 85, 86, 89, 90, 91, 299, 300, 301, 15, 302, 303, 304, 305, 306, 307, 308, 96, 31, 309, 27, 159, 160, 161, 25, 162, 45, 97, 98, 99, 100, 310, 311, 312, 313, 155, 156, 157, 26, 30, 22, 158, 29, 35, 163, 164, 165, 166, 167, 168, 34, 169, 170, 50, 171, 172, 173, 174, 314, 315, 316, 317, 39, 318, 319, 320, 38, 321, 58, 59, 322, 323, 132, 133, 134, 60, 130, 324, 325, 326, 327, 328, 28, 329, 330, 331, 332, 333, 334, 335, 336, 337, 338, 339, 340, 129, 57, 56, 341, 342, 343, 344, 278, 279, 280, 345, 346, 347, 348, 834, 835, 847, 848, 849, 850, 851, 852, 853, 854, 855, 856, 857, 858, 859, 860, 861, 862, 863, 864, 865, 866, 867, 868, 869, 870] (by decide +kernel) (by decide +kernel)) (goodIn_sub (fun _ h => List.mem_append_left _ (List.mem_append_left _ (List.mem_append_right _ h))) (by decide +kernel))
set_option maxRecDepth 20000 in
theorem gL_law_L_pass : GoodIn wsL_law (va_wsS RL 131 yL_pass wsL_pass) := goodIn_app (goodIn_of _ (by decide +kernel)) ggL_law_L_pass
set_option maxRecDepth 20000 in
theorem ggL_law_X5_pass : GoodIn wsL_law wsX5_pass := goodIn_r _ [352, 105, 73, 107, 108, 5, 109, 110, 111, 112, 113, 353, 354, 355, 356, 357, 358, 359, 360, 106, 139, 361, 362, 363, 364, 67, 192, 193, 194, 195, 71, 66, 69, 196, 197, 198, 199, 365, 366, 367, 368, 369, 370, 371, 372, 68, 373, 374, 375, 376, 377, 378, 379, 380, 381, 382, 383, 384, 385, 386, 387, 388, 389, 390, 391, 392, 72, 393, 394, 395, 285, 286, 287, 288, 836, 837, 838, 839, 840, 841, 842, 843, 844, 845, 846] (by decide +kernel) (by decide +kernel)
set_option maxRecDepth 20000 in
theorem gL_law_X5_pass : GoodIn wsL_law (wsV RL 133 RX5 yX5_pass wsX5_pass) := goodIn_app (goodIn_of _ (by decide +kernel)) ggL_law_X5_pass
set_option maxRecDepth 20000 in
theorem ggL_law_X4_minute : GoodIn wsL_law wsX4_minute := goodIn_r _ [399, 16, 834, 835, 847, 848, 849, 850, 851, 852, 853, 854, 855, 856, 857, 858, 859, 860, 861] (by decide +kernel) (by decide +kernel)
set_option maxRecDepth 20000 in
theorem gL_law_X4_minute : GoodIn wsL_law (wsV RL 134 RX4 yX4_minute wsX4_minute) := goodIn_app (goodIn_of _ (by decide +kernel)) ggL_law_X4_minute
set_option maxRecDepth 20000 in
theorem ggL_law_X5_minute : GoodIn wsL_law wsX5_minute := goodIn_r _ [403, 73, 404, 405, 406, 5, 407, 105, 836, 837, 838, 839, 840, 841, 842, 843, 844, 845, 846] (by decide +kernel) (by decide +kernel)
set_option maxRecDepth 20000 in
theorem gL_law_X5_minute : GoodIn wsL_law (wsV RL 137 RX5 yX5_minute wsX5_minute) := goodIn_app (goodIn_of _ (by decide +kernel)) ggL_law_X5_minute
set_option maxRecDepth 20000 in
theorem ggL_law_X4_rooms : GoodIn wsL_law wsX4_rooms := goodIn_r _ [411, 16, 834, 835, 847, 848, 849, 850, 851, 852, 853, 854, 855, 856, 857, 858, 859, 860, 861] (by decide +kernel) (by decide +kernel)
set_option maxRecDepth 20000 in
theorem gL_law_X4_rooms : GoodIn wsL_law (wsV RL 138 RX4 yX4_rooms wsX4_rooms) := goodIn_app (goodIn_of _ (by decide +kernel)) ggL_law_X4_rooms
set_option maxRecDepth 20000 in
theorem ggL_law_X5_rooms : GoodIn wsL_law wsX5_rooms := goodIn_r _ [415, 106, 404, 405, 406, 5, 407, 105, 836, 837, 838, 839, 840, 841, 842, 843, 844, 845, 846] (by decide +kernel) (by decide +kernel)
set_option maxRecDepth 20000 in
theorem gL_law_X5_rooms : GoodIn wsL_law (wsV RL 141 RX5 yX5_rooms wsX5_rooms) := goodIn_app (goodIn_of _ (by decide +kernel)) ggL_law_X5_rooms
set_option maxRecDepth 20000 in
theorem ggL_law_X4_servants : GoodIn wsL_law wsX4_servants := goodIn_r _ [419, 16, 834, 835, 847, 848, 849, 850, 851, 852, 853, 854, 855, 856, 857, 858, 859, 860, 861, 865, 866, 867, 868, 869, 870] (by decide +kernel) (by decide +kernel)
set_option maxRecDepth 20000 in
theorem gL_law_X4_servants : GoodIn wsL_law (wsV RL 142 RX4 yX4_servants wsX4_servants) := goodIn_app (goodIn_of _ (by decide +kernel)) ggL_law_X4_servants
set_option maxRecDepth 20000 in
theorem ggL_law_X5_servants : GoodIn wsL_law wsX5_servants := goodIn_r _ [423, 139, 404, 405, 406, 5, 407, 105, 836, 837, 838, 839, 840, 841, 842, 843, 844, 845, 846] (by decide +kernel) (by decide +kernel)
set_option maxRecDepth 20000 in
theorem gL_law_X5_servants : GoodIn wsL_law (wsV RL 145 RX5 yX5_servants wsX5_servants) := goodIn_app (goodIn_of _ (by decide +kernel)) ggL_law_X5_servants
set_option maxRecDepth 20000 in
theorem ggL_law_X4_charge : GoodIn wsL_law wsX4_charge := goodIn_r _ [427, 16, 834, 835, 847, 848, 849, 850, 851, 852, 853, 854, 855, 856, 857, 858, 859, 860, 861] (by decide +kernel) (by decide +kernel)
set_option maxRecDepth 20000 in
theorem gL_law_X4_charge : GoodIn wsL_law (wsV RL 146 RX4 yX4_charge wsX4_charge) := goodIn_app (goodIn_of _ (by decide +kernel)) ggL_law_X4_charge
set_option maxRecDepth 20000 in
theorem ggL_law_X5_charge : GoodIn wsL_law wsX5_charge := goodIn_r _ [431, 73, 404, 405, 406, 5, 407, 105, 836, 837, 838, 839, 840, 841, 842, 843, 844, 845, 846] (by decide +kernel) (by decide +kernel)
set_option maxRecDepth 20000 in
theorem gL_law_X5_charge : GoodIn wsL_law (wsV RL 149 RX5 yX5_charge wsX5_charge) := goodIn_app (goodIn_of _ (by decide +kernel)) ggL_law_X5_charge
set_option maxRecDepth 20000 in
theorem ggL_law_X4_served : GoodIn wsL_law wsX4_served := goodIn_r _ [435, 16, 834, 835, 847, 848, 849, 850, 851, 852, 853, 854, 855, 856, 857, 858, 859, 860, 861] (by decide +kernel) (by decide +kernel)
set_option maxRecDepth 20000 in
theorem gL_law_X4_served : GoodIn wsL_law (wsV RL 150 RX4 yX4_served wsX4_served) := goodIn_app (goodIn_of _ (by decide +kernel)) ggL_law_X4_served
set_option maxRecDepth 20000 in
theorem ggL_law_X5_served : GoodIn wsL_law wsX5_served := goodIn_r _ [439, 73, 404, 405, 406, 5, 407, 105, 836, 837, 838, 839, 840, 841, 842, 843, 844, 845, 846] (by decide +kernel) (by decide +kernel)
set_option maxRecDepth 20000 in
theorem gL_law_X5_served : GoodIn wsL_law (wsV RL 153 RX5 yX5_served wsX5_served) := goodIn_app (goodIn_of _ (by decide +kernel)) ggL_law_X5_served
set_option maxRecDepth 20000 in
theorem ggL_law_X4_inVain : GoodIn wsL_law wsX4_inVain := goodIn_r _ [443, 16, 834, 835, 847, 848, 849, 850, 851, 852, 853, 854, 855, 856, 857, 858, 859, 860, 861] (by decide +kernel) (by decide +kernel)
set_option maxRecDepth 20000 in
theorem gL_law_X4_inVain : GoodIn wsL_law (wsV RL 154 RX4 yX4_inVain wsX4_inVain) := goodIn_app (goodIn_of _ (by decide +kernel)) ggL_law_X4_inVain
set_option maxRecDepth 20000 in
theorem ggL_law_X5_inVain : GoodIn wsL_law wsX5_inVain := goodIn_r _ [447, 73, 404, 405, 406, 5, 407, 105, 836, 837, 838, 839, 840, 841, 842, 843, 844, 845, 846] (by decide +kernel) (by decide +kernel)
set_option maxRecDepth 20000 in
theorem gL_law_X5_inVain : GoodIn wsL_law (wsV RL 157 RX5 yX5_inVain wsX5_inVain) := goodIn_app (goodIn_of _ (by decide +kernel)) ggL_law_X5_inVain
set_option maxRecDepth 20000 in
theorem ggL_law_X4_gaveUp : GoodIn wsL_law wsX4_gaveUp := goodIn_r _ [451, 16, 834, 835, 847, 848, 849, 850, 851, 852, 853, 854, 855, 856, 857, 858, 859, 860, 861] (by decide +kernel) (by decide +kernel)
set_option maxRecDepth 20000 in
theorem gL_law_X4_gaveUp : GoodIn wsL_law (wsV RL 158 RX4 yX4_gaveUp wsX4_gaveUp) := goodIn_app (goodIn_of _ (by decide +kernel)) ggL_law_X4_gaveUp
set_option maxRecDepth 20000 in
theorem ggL_law_X5_gaveUp : GoodIn wsL_law wsX5_gaveUp := goodIn_r _ [455, 73, 404, 405, 406, 5, 407, 105, 836, 837, 838, 839, 840, 841, 842, 843, 844, 845, 846] (by decide +kernel) (by decide +kernel)
set_option maxRecDepth 20000 in
theorem gL_law_X5_gaveUp : GoodIn wsL_law (wsV RL 161 RX5 yX5_gaveUp wsX5_gaveUp) := goodIn_app (goodIn_of _ (by decide +kernel)) ggL_law_X5_gaveUp
set_option maxRecDepth 20000 in
theorem ggL_law_X4_unheard : GoodIn wsL_law wsX4_unheard := goodIn_r _ [459, 16, 834, 835, 847, 848, 849, 850, 851, 852, 853, 854, 855, 856, 857, 858, 859, 860, 861] (by decide +kernel) (by decide +kernel)
set_option maxRecDepth 20000 in
theorem gL_law_X4_unheard : GoodIn wsL_law (wsV RL 162 RX4 yX4_unheard wsX4_unheard) := goodIn_app (goodIn_of _ (by decide +kernel)) ggL_law_X4_unheard
set_option maxRecDepth 20000 in
theorem ggL_law_X5_unheard : GoodIn wsL_law wsX5_unheard := goodIn_r _ [463, 73, 404, 405, 406, 5, 407, 105, 836, 837, 838, 839, 840, 841, 842, 843, 844, 845, 846] (by decide +kernel) (by decide +kernel)
set_option maxRecDepth 20000 in
theorem gL_law_X5_unheard : GoodIn wsL_law (wsV RL 165 RX5 yX5_unheard wsX5_unheard) := goodIn_app (goodIn_of _ (by decide +kernel)) ggL_law_X5_unheard
set_option maxRecDepth 20000 in
theorem ggL_law_L_dropOf : GoodIn wsL_law wsL_dropOf := goodIn_ca (goodIn_r _ [466, 143, 467, 468, 469, 2, 470, 16, 148, 149, 150, 151, 152, 153, 211, 160, 161, 25, 162, 45, 834, 835, 847, 848, 849, 850, 851, 852, 853, 854, 855, 856, 857, 858, 859, 860, 861, 862] (by decide +kernel) (by decide +kernel)) (goodIn_sub (fun _ h => List.mem_append_right _ h) (by decide +kernel))
set_option maxRecDepth 20000 in
theorem gL_law_L_dropOf : GoodIn wsL_law (va_wsS RL 166 yL_dropOf wsL_dropOf) := goodIn_app (goodIn_of _ (by decide +kernel)) ggL_law_L_dropOf
set_option maxRecDepth 20000 in
theorem ggL_law_X5_dropOf : GoodIn wsL_law wsX5_dropOf := goodIn_r _ [474, 69, 184, 185, 186, 5, 187, 106, 107, 108, 109, 188, 189, 190, 191, 105, 836, 837, 838, 839, 840, 841, 842, 843, 844, 845, 846] (by decide +kernel) (by decide +kernel)
set_option maxRecDepth 20000 in
theorem gL_law_X5_dropOf : GoodIn wsL_law (wsV RL 168 RX5 yX5_dropOf wsX5_dropOf) := goodIn_app (goodIn_of _ (by decide +kernel)) ggL_law_X5_dropOf
set_option maxRecDepth 20000 in
theorem ggL_law_L_roomOf : GoodIn wsL_law wsL_roomOf := goodIn_ca (goodIn_r _ [477, 143, 478, 479, 480, 2, 481, 16, 148, 149, 150, 151, 152, 153, 211, 160, 161, 25, 162, 45, 834, 835, 847, 848, 849, 850, 851, 852, 853, 854, 855, 856, 857, 858, 859, 860, 861, 862] (by decide +kernel) (by decide +kernel)) (goodIn_sub (fun _ h => List.mem_append_right _ h) (by decide +kernel))
set_option maxRecDepth 20000 in
theorem gL_law_L_roomOf : GoodIn wsL_law (va_wsS RL 169 yL_roomOf wsL_roomOf) := goodIn_app (goodIn_of _ (by decide +kernel)) ggL_law_L_roomOf
set_option maxRecDepth 20000 in
theorem ggL_law_X5_roomOf : GoodIn wsL_law wsX5_roomOf := goodIn_r _ [485, 184, 185, 186, 5, 187, 106, 107, 108, 109, 188, 189, 190, 191, 105, 486, 487, 488, 489, 69, 836, 837, 838, 839, 840, 841, 842, 843, 844, 845, 846] (by decide +kernel) (by decide +kernel)
set_option maxRecDepth 20000 in
theorem gL_law_X5_roomOf : GoodIn wsL_law (wsV RL 171 RX5 yX5_roomOf wsX5_roomOf) := goodIn_app (goodIn_of _ (by decide +kernel)) ggL_law_X5_roomOf
set_option maxRecDepth 20000 in
theorem ggL_law_L_isCut : GoodIn wsL_law wsL_isCut := goodIn_ca (goodIn_r _ [492, 143, 493, 494, 495, 2, 496, 16, 148, 149, 150, 151, 152, 153, 227, 228, 229, 15, 230, 30, 159, 160, 161, 25, 162, 45, 834, 835, 847, 848, 849, 850, 851, 852, 853, 854, 855, 856, 857, 858, 859, 860, 861, 862] (by decide +kernel) (by decide +kernel)) (goodIn_sub (fun _ h => List.mem_append_right _ h) (by decide +kernel))
set_option maxRecDepth 20000 in
theorem gL_law_L_isCut : GoodIn wsL_law (va_wsS RL 172 yL_isCut wsL_isCut) := goodIn_app (goodIn_of _ (by decide +kernel)) ggL_law_L_isCut
set_option maxRecDepth 20000 in
theorem ggL_law_X5_isCut : GoodIn wsL_law wsX5_isCut := goodIn_r _ [500, 71, 184, 185, 186, 5, 187, 106, 107, 108, 109, 188, 189, 190, 191, 105, 836, 837, 838, 839, 840, 841, 842, 843, 844, 845, 846] (by decide +kernel) (by decide +kernel)
set_option maxRecDepth 20000 in
theorem gL_law_X5_isCut : GoodIn wsL_law (wsV RL 174 RX5 yX5_isCut wsX5_isCut) := goodIn_app (goodIn_of _ (by decide +kernel)) ggL_law_X5_isCut
set_option maxRecDepth 20000 in
theorem ggL_law_L_waitedFor : GoodIn wsL_law wsL_waitedFor := goodIn_ca (goodIn_r _ [503, 143, 504, 505, 506, 2, 507, 16, 148, 149, 150, 151, 152, 153, 211, 160, 161, 25, 162, 45, 834, 835, 847, 848, 849, 850, 851, 852, 853, 854, 855, 856, 857, 858, 859, 860, 861, 862] (by decide +kernel) (by decide +kernel)) (goodIn_sub (fun _ h => List.mem_append_right _ h) (by decide +kernel))
set_option maxRecDepth 20000 in
theorem gL_law_L_waitedFor : GoodIn wsL_law (va_wsS RL 175 yL_waitedFor wsL_waitedFor) := goodIn_app (goodIn_of _ (by decide +kernel)) ggL_law_L_waitedFor
set_option maxRecDepth 20000 in
theorem ggL_law_X5_waitedFor : GoodIn wsL_law wsX5_waitedFor := goodIn_r _ [511, 73, 184, 185, 186, 5, 187, 106, 107, 108, 109, 188, 189, 190, 191, 105, 836, 837, 838, 839, 840, 841, 842, 843, 844, 845, 846] (by decide +kernel) (by decide +kernel)
set_option maxRecDepth 20000 in
theorem gL_law_X5_waitedFor : GoodIn wsL_law (wsV RL 177 RX5 yX5_waitedFor wsX5_waitedFor) := goodIn_app (goodIn_of _ (by decide +kernel)) ggL_law_X5_waitedFor
set_option maxRecDepth 20000 in
theorem ggL_law_X4_longestWaiting : GoodIn wsL_law wsX4_longestWaiting := goodIn_r _ [515, 16, 211, 160, 161, 25, 162, 45, 834, 835, 847, 848, 849, 850, 851, 852, 853, 854, 855, 856, 857, 858, 859, 860, 861, 862] (by decide +kernel) (by decide +kernel)
set_option maxRecDepth 20000 in
theorem gL_law_X4_longestWaiting : GoodIn wsL_law (wsV RL 178 RX4 yX4_longestWaiting wsX4_longestWaiting) := goodIn_app (goodIn_of _ (by decide +kernel)) ggL_law_X4_longestWaiting
set_option maxRecDepth 20000 in
theorem ggL_law_X5_longestWaiting : GoodIn wsL_law wsX5_longestWaiting := goodIn_r _ [519, 520, 521, 522, 5, 523, 106, 73, 404, 405, 406, 407, 105, 836, 837, 838, 839, 840, 841, 842, 843, 844, 845, 846] (by decide +kernel) (by decide +kernel)
set_option maxRecDepth 20000 in
theorem gL_law_X5_longestWaiting : GoodIn wsL_law (wsV RL 181 RX5 yX5_longestWaiting wsX5_longestWaiting) := goodIn_app (goodIn_of _ (by decide +kernel)) ggL_law_X5_longestWaiting
set_option maxRecDepth 20000 in
theorem ggL_law_X4_crossed : GoodIn wsL_law wsX4_crossed := goodIn_r _ [527, 16, 211, 160, 161, 25, 162, 45, 834, 835, 847, 848, 849, 850, 851, 852, 853, 854, 855, 856, 857, 858, 859, 860, 861, 862] (by decide +kernel) (by decide +kernel)
set_option maxRecDepth 20000 in
theorem gL_law_X4_crossed : GoodIn wsL_law (wsV RL 182 RX4 yX4_crossed wsX4_crossed) := goodIn_app (goodIn_of _ (by decide +kernel)) ggL_law_X4_crossed
set_option maxRecDepth 20000 in
theorem ggL_law_X5_crossed : GoodIn wsL_law wsX5_crossed := goodIn_r _ [531, 532, 533, 534, 5, 535, 106, 69, 404, 405, 406, 407, 105, 836, 837, 838, 839, 840, 841, 842, 843, 844, 845, 846] (by decide +kernel) (by decide +kernel)
set_option maxRecDepth 20000 in
theorem gL_law_X5_crossed : GoodIn wsL_law (wsV RL 185 RX5 yX5_crossed wsX5_crossed) := goodIn_app (goodIn_of _ (by decide +kernel)) ggL_law_X5_crossed
set_option maxRecDepth 20000 in
theorem ggL_law_X4_crossingsNeeded : GoodIn wsL_law wsX4_crossingsNeeded := goodIn_r _ [539, 16, 540, 541, 542, 15, 543, 29, 96, 159, 160, 161, 25, 162, 45, 834, 835, 847, 848, 849, 850, 851, 852, 853, 854, 855, 856, 857, 858, 859, 860, 861, 862] (by decide +kernel) (by decide +kernel)
set_option maxRecDepth 20000 in
theorem gL_law_X4_crossingsNeeded : GoodIn wsL_law (wsV RL 186 RX4 yX4_crossingsNeeded wsX4_crossingsNeeded) := goodIn_app (goodIn_of _ (by decide +kernel)) ggL_law_X4_crossingsNeeded
set_option maxRecDepth 20000 in
theorem ggL_law_X5_crossingsNeeded : GoodIn wsL_law wsX5_crossingsNeeded := goodIn_r _ [547, 548, 549, 550, 5, 551, 106, 69, 404, 405, 406, 407, 105, 836, 837, 838, 839, 840, 841, 842, 843, 844, 845, 846] (by decide +kernel) (by decide +kernel)
set_option maxRecDepth 20000 in
theorem gL_law_X5_crossingsNeeded : GoodIn wsL_law (wsV RL 189 RX5 yX5_crossingsNeeded wsX5_crossingsNeeded) := goodIn_app (goodIn_of _ (by decide +kernel)) ggL_law_X5_crossingsNeeded
set_option maxRecDepth 20000 in
theorem ggL_law_X4_fallen : GoodIn wsL_law wsX4_fallen := goodIn_r _ [555, 16, 834, 835, 847, 848, 849, 850, 851, 852, 853, 854, 855, 856, 857, 858, 859, 860, 861, 863, 864] (by decide +kernel) (by decide +kernel)
set_option maxRecDepth 20000 in
theorem gL_law_X4_fallen : GoodIn wsL_law (wsV RL 190 RX4 yX4_fallen wsX4_fallen) := goodIn_app (goodIn_of _ (by decide +kernel)) ggL_law_X4_fallen
set_option maxRecDepth 20000 in
theorem ggL_law_X5_fallen : GoodIn wsL_law wsX5_fallen := goodIn_r _ [559, 73, 404, 405, 406, 5, 407, 105, 836, 837, 838, 839, 840, 841, 842, 843, 844, 845, 846] (by decide +kernel) (by decide +kernel)
set_option maxRecDepth 20000 in
theorem gL_law_X5_fallen : GoodIn wsL_law (wsV RL 193 RX5 yX5_fallen wsX5_fallen) := goodIn_app (goodIn_of _ (by decide +kernel)) ggL_law_X5_fallen
set_option maxRecDepth 20000 in
theorem ggL_law_L_hasFallen : GoodIn wsL_law wsL_hasFallen := goodIn_ca (goodIn_r _ [562, 143, 563, 564, 565, 2, 566, 16, 148, 149, 150, 151, 152, 153, 276, 167, 168, 34, 169, 170, 50, 834, 835, 847, 848, 849, 850, 851, 852, 853, 854, 855, 856, 857, 858, 859, 860, 861, 863, 864] (by decide +kernel) (by decide +kernel)) (goodIn_sub (fun _ h => List.mem_append_right _ h) (by decide +kernel))
set_option maxRecDepth 20000 in
theorem gL_law_L_hasFallen : GoodIn wsL_law (va_wsS RL 194 yL_hasFallen wsL_hasFallen) := goodIn_app (goodIn_of _ (by decide +kernel)) ggL_law_L_hasFallen
set_option maxRecDepth 20000 in
theorem ggL_law_X5_hasFallen : GoodIn wsL_law wsX5_hasFallen := goodIn_r _ [570, 184, 185, 186, 5, 187, 106, 107, 108, 109, 188, 189, 190, 191, 105, 196, 197, 198, 199, 73, 836, 837, 838, 839, 840, 841, 842, 843, 844, 845, 846] (by decide +kernel) (by decide +kernel)
set_option maxRecDepth 20000 in
theorem gL_law_X5_hasFallen : GoodIn wsL_law (wsV RL 196 RX5 yX5_hasFallen wsX5_hasFallen) := goodIn_app (goodIn_of _ (by decide +kernel)) ggL_law_X5_hasFallen
set_option maxRecDepth 20000 in
theorem ggL_law_L_placeInLine : GoodIn wsL_law wsL_placeInLine := goodIn_ca (goodIn_r _ [573, 143, 574, 575, 576, 2, 577, 16, 148, 149, 150, 151, 152, 153, 276, 167, 168, 34, 169, 170, 50, 834, 835, 847, 848, 849, 850, 851, 852, 853, 854, 855, 856, 857, 858, 859, 860, 861, 863, 864] (by decide +kernel) (by decide +kernel)) (goodIn_sub (fun _ h => List.mem_append_right _ h) (by decide +kernel))
set_option maxRecDepth 20000 in
theorem gL_law_L_placeInLine : GoodIn wsL_law (va_wsS RL 197 yL_placeInLine wsL_placeInLine) := goodIn_app (goodIn_of _ (by decide +kernel)) ggL_law_L_placeInLine
set_option maxRecDepth 20000 in
theorem ggL_law_X5_placeInLine : GoodIn wsL_law wsX5_placeInLine := goodIn_r _ [581, 184, 185, 186, 5, 187, 106, 107, 108, 109, 188, 189, 190, 191, 105, 196, 197, 198, 199, 73, 836, 837, 838, 839, 840, 841, 842, 843, 844, 845, 846] (by decide +kernel) (by decide +kernel)
set_option maxRecDepth 20000 in
theorem gL_law_X5_placeInLine : GoodIn wsL_law (wsV RL 199 RX5 yX5_placeInLine wsX5_placeInLine) := goodIn_app (goodIn_of _ (by decide +kernel)) ggL_law_X5_placeInLine
set_option maxRecDepth 20000 in
theorem ggL_law_X4_nextDrop : GoodIn wsL_law wsX4_nextDrop := goodIn_r _ [585, 16, 586, 334, 335, 34, 336, 170, 50, 834, 835, 847, 848, 849, 850, 851, 852, 853, 854, 855, 856, 857, 858, 859, 860, 861, 863, 864] (by decide +kernel) (by decide +kernel)
set_option maxRecDepth 20000 in
theorem gL_law_X4_nextDrop : GoodIn wsL_law (wsV RL 200 RX4 yX4_nextDrop wsX4_nextDrop) := goodIn_app (goodIn_of _ (by decide +kernel)) ggL_law_X4_nextDrop
set_option maxRecDepth 20000 in
theorem ggL_law_X5_nextDrop : GoodIn wsL_law wsX5_nextDrop := goodIn_r _ [590, 591, 592, 593, 5, 594, 73, 404, 405, 406, 407, 105, 836, 837, 838, 839, 840, 841, 842, 843, 844, 845, 846] (by decide +kernel) (by decide +kernel)
set_option maxRecDepth 20000 in
theorem gL_law_X5_nextDrop : GoodIn wsL_law (wsV RL 203 RX5 yX5_nextDrop wsX5_nextDrop) := goodIn_app (goodIn_of _ (by decide +kernel)) ggL_law_X5_nextDrop
set_option maxRecDepth 20000 in
theorem ggL_law_L_ringsLeft : GoodIn wsL_law wsL_ringsLeft := goodIn_ca (goodIn_r _ [597, 143, 598, 599, 600, 2, 601, 16, 148, 149, 150, 151, 152, 153, 227, 228, 229, 15, 230, 30, 159, 160, 161, 25, 162, 45, 211, 602, 164, 165, 603, 604, 605, 834, 835, 847, 848, 849, 850, 851, 852, 853, 854, 855, 856, 857, 858, 859, 860, 861, 862] (by decide +kernel) (by decide +kernel)) (goodIn_sub (fun _ h => List.mem_append_right _ h) (by decide +kernel))
set_option maxRecDepth 20000 in
theorem gL_law_L_ringsLeft : GoodIn wsL_law (va_wsS RL 204 yL_ringsLeft wsL_ringsLeft) := goodIn_app (goodIn_of _ (by decide +kernel)) ggL_law_L_ringsLeft
set_option maxRecDepth 20000 in
theorem ggL_law_X5_ringsLeft : GoodIn wsL_law wsX5_ringsLeft := goodIn_r _ [609, 184, 185, 186, 5, 187, 106, 107, 108, 109, 188, 189, 190, 191, 105, 610, 611, 612, 613, 71, 73, 66, 836, 837, 838, 839, 840, 841, 842, 843, 844, 845, 846] (by decide +kernel) (by decide +kernel)
set_option maxRecDepth 20000 in
theorem gL_law_X5_ringsLeft : GoodIn wsL_law (wsV RL 206 RX5 yX5_ringsLeft wsX5_ringsLeft) := goodIn_app (goodIn_of _ (by decide +kernel)) ggL_law_X5_ringsLeft
set_option maxRecDepth 20000 in
theorem ggL_law_L_floorOf : GoodIn wsL_law wsL_floorOf := goodIn_ca (goodIn_r _ [616, 143, 617, 618, 619, 2, 620, 16, 621, 622, 623, 624, 152, 153, 211, 160, 161, 25, 162, 45, 834, 835, 847, 848, 849, 850, 851, 852, 853, 854, 855, 856, 857, 858, 859, 860, 861, 865, 866, 867, 868, 869, 870, 862] (by decide +kernel) (by decide +kernel)) (goodIn_sub (fun _ h => List.mem_append_right _ h) (by decide +kernel))
set_option maxRecDepth 20000 in
theorem gL_law_L_floorOf : GoodIn wsL_law (va_wsS RL 207 yL_floorOf wsL_floorOf) := goodIn_app (goodIn_of _ (by decide +kernel)) ggL_law_L_floorOf
set_option maxRecDepth 20000 in
theorem ggL_law_X5_floorOf : GoodIn wsL_law wsX5_floorOf := goodIn_r _ [628, 73, 629, 630, 631, 5, 632, 139, 107, 108, 109, 188, 189, 190, 191, 105, 836, 837, 838, 839, 840, 841, 842, 843, 844, 845, 846] (by decide +kernel) (by decide +kernel)
set_option maxRecDepth 20000 in
theorem gL_law_X5_floorOf : GoodIn wsL_law (wsV RL 209 RX5 yX5_floorOf wsX5_floorOf) := goodIn_app (goodIn_of _ (by decide +kernel)) ggL_law_X5_floorOf
set_option maxRecDepth 20000 in
theorem ggL_law_L_goesTo : GoodIn wsL_law wsL_goesTo := goodIn_ca (goodIn_r _ [635, 143, 636, 637, 638, 2, 639, 16, 621, 622, 623, 624, 152, 153, 211, 160, 161, 25, 162, 45, 834, 835, 847, 848, 849, 850, 851, 852, 853, 854, 855, 856, 857, 858, 859, 860, 861, 865, 866, 867, 868, 869, 870, 862] (by decide +kernel) (by decide +kernel)) (goodIn_sub (fun _ h => List.mem_append_right _ h) (by decide +kernel))
set_option maxRecDepth 20000 in
theorem gL_law_L_goesTo : GoodIn wsL_law (va_wsS RL 210 yL_goesTo wsL_goesTo) := goodIn_app (goodIn_of _ (by decide +kernel)) ggL_law_L_goesTo
set_option maxRecDepth 20000 in
theorem ggL_law_X5_goesTo : GoodIn wsL_law wsX5_goesTo := goodIn_r _ [643, 629, 630, 631, 5, 632, 139, 107, 108, 109, 188, 189, 190, 191, 105, 644, 645, 646, 647, 73, 836, 837, 838, 839, 840, 841, 842, 843, 844, 845, 846] (by decide +kernel) (by decide +kernel)
set_option maxRecDepth 20000 in
theorem gL_law_X5_goesTo : GoodIn wsL_law (wsV RL 212 RX5 yX5_goesTo wsX5_goesTo) := goodIn_app (goodIn_of _ (by decide +kernel)) ggL_law_X5_goesTo
set_option maxRecDepth 20000 in
theorem ggL_law_L_serves : GoodIn wsL_law wsL_serves := goodIn_ca (goodIn_r _ [650, 143, 651, 652, 653, 2, 654, 16, 621, 622, 623, 624, 152, 153, 211, 160, 161, 25, 162, 45, 834, 835, 847, 848, 849, 850, 851, 852, 853, 854, 855, 856, 857, 858, 859, 860, 861, 865, 866, 867, 868, 869, 870, 862] (by decide +kernel) (by decide +kernel)) (goodIn_sub (fun _ h => List.mem_append_right _ h) (by decide +kernel))
set_option maxRecDepth 20000 in
theorem gL_law_L_serves : GoodIn wsL_law (va_wsS RL 213 yL_serves wsL_serves) := goodIn_app (goodIn_of _ (by decide +kernel)) ggL_law_L_serves
set_option maxRecDepth 20000 in
theorem ggL_law_X5_serves : GoodIn wsL_law wsX5_serves := goodIn_r _ [658, 629, 630, 631, 5, 632, 139, 107, 108, 109, 188, 189, 190, 191, 105, 644, 645, 646, 647, 73, 836, 837, 838, 839, 840, 841, 842, 843, 844, 845, 846] (by decide +kernel) (by decide +kernel)
set_option maxRecDepth 20000 in
theorem gL_law_X5_serves : GoodIn wsL_law (wsV RL 215 RX5 yX5_serves wsX5_serves) := goodIn_app (goodIn_of _ (by decide +kernel)) ggL_law_X5_serves
set_option maxRecDepth 20000 in
theorem ggL_law_L_minutesLeft : GoodIn wsL_law wsL_minutesLeft := goodIn_ca (goodIn_r _ [661, 143, 662, 663, 664, 2, 665, 16, 621, 622, 623, 624, 152, 153, 211, 160, 161, 25, 162, 45, 834, 835, 847, 848, 849, 850, 851, 852, 853, 854, 855, 856, 857, 858, 859, 860, 861, 865, 866, 867, 868, 869, 870, 862] (by decide +kernel) (by decide +kernel)) (goodIn_sub (fun _ h => List.mem_append_right _ h) (by decide +kernel))
set_option maxRecDepth 20000 in
theorem gL_law_L_minutesLeft : GoodIn wsL_law (va_wsS RL 216 yL_minutesLeft wsL_minutesLeft) := goodIn_app (goodIn_of _ (by decide +kernel)) ggL_law_L_minutesLeft
set_option maxRecDepth 20000 in
theorem ggL_law_X5_minutesLeft : GoodIn wsL_law wsX5_minutesLeft := goodIn_r _ [669, 73, 629, 630, 631, 5, 632, 139, 107, 108, 109, 188, 189, 190, 191, 105, 836, 837, 838, 839, 840, 841, 842, 843, 844, 845, 846] (by decide +kernel) (by decide +kernel)
set_option maxRecDepth 20000 in
theorem gL_law_X5_minutesLeft : GoodIn wsL_law (wsV RL 218 RX5 yX5_minutesLeft wsX5_minutesLeft) := goodIn_app (goodIn_of _ (by decide +kernel)) ggL_law_X5_minutesLeft
set_option maxRecDepth 20000 in
theorem ggL_law_L_wayTo : GoodIn wsL_law wsL_wayTo := goodIn_ca (goodIn_r _ [672, 143, 673, 674, 675, 2, 676, 16, 621, 622, 623, 624, 152, 153, 148, 149, 150, 151, 211, 160, 161, 25, 162, 45, 677, 346, 347, 38, 348, 57, 56, 322, 341, 342, 343, 834, 835, 847, 848, 849, 850, 851, 852, 853, 854, 855, 856, 857, 858, 859, 860, 861, 865, 866, 867, 868, 869, 870, 862] (by decide +kernel) (by decide +kernel)) (goodIn_sub (fun _ h => List.mem_append_right _ h) (by decide +kernel))
set_option maxRecDepth 20000 in
theorem gL_law_L_wayTo : GoodIn wsL_law (va_wsS RL 219 yL_wayTo wsL_wayTo) := goodIn_app (goodIn_of _ (by decide +kernel)) ggL_law_L_wayTo
set_option maxRecDepth 20000 in
theorem ggL_law_X5_wayTo : GoodIn wsL_law wsX5_wayTo := goodIn_r _ [681, 629, 630, 631, 5, 632, 139, 107, 108, 109, 184, 185, 186, 187, 106, 188, 189, 190, 191, 105, 385, 386, 387, 388, 73, 66, 389, 390, 391, 392, 72, 393, 394, 395, 836, 837, 838, 839, 840, 841, 842, 843, 844, 845, 846] (by decide +kernel) (by decide +kernel)
set_option maxRecDepth 20000 in
theorem gL_law_X5_wayTo : GoodIn wsL_law (wsV RL 221 RX5 yX5_wayTo wsX5_wayTo) := goodIn_app (goodIn_of _ (by decide +kernel)) ggL_law_X5_wayTo
set_option maxRecDepth 20000 in
theorem ggL_law_L_nearestIdle : GoodIn wsL_law wsL_nearestIdle := goodIn_ca (goodIn_r _ [684, 143, 685, 686, 687, 2, 688, 16, 148, 149, 150, 151, 152, 153, 211, 160, 161, 25, 162, 45, 689, 338, 339, 38, 340, 129, 58, 59, 57, 56, 322, 341, 342, 343, 834, 835, 847, 848, 849, 850, 851, 852, 853, 854, 855, 856, 857, 858, 859, 860, 861, 862, 865, 866, 867, 868, 869, 870] (by decide +kernel) (by decide +kernel)) (goodIn_sub (fun _ h => List.mem_append_right _ h) (by decide +kernel))
set_option maxRecDepth 20000 in
theorem gL_law_L_nearestIdle : GoodIn wsL_law (va_wsS RL 222 yL_nearestIdle wsL_nearestIdle) := goodIn_app (goodIn_of _ (by decide +kernel)) ggL_law_L_nearestIdle
set_option maxRecDepth 20000 in
theorem ggL_law_X5_nearestIdle : GoodIn wsL_law wsX5_nearestIdle := goodIn_r _ [693, 184, 185, 186, 5, 187, 106, 107, 108, 109, 188, 189, 190, 191, 105, 381, 382, 383, 384, 139, 73, 385, 386, 387, 388, 66, 389, 390, 391, 392, 72, 393, 394, 395, 836, 837, 838, 839, 840, 841, 842, 843, 844, 845, 846] (by decide +kernel) (by decide +kernel)
set_option maxRecDepth 20000 in
theorem gL_law_X5_nearestIdle : GoodIn wsL_law (wsV RL 224 RX5 yX5_nearestIdle wsX5_nearestIdle) := goodIn_app (goodIn_of _ (by decide +kernel)) ggL_law_X5_nearestIdle
set_option maxRecDepth 20000 in
theorem ggL_law_L_minutesUntilServed : GoodIn wsL_law wsL_minutesUntilServed := goodIn_ca (goodIn_r _ [696, 143, 697, 698, 699, 2, 700, 17, 16, 148, 149, 150, 151, 152, 153, 701, 702, 703, 15, 704, 304, 96, 22, 303, 328, 309, 158, 26, 27, 28, 29, 30, 31, 35, 39, 705, 706, 707, 25, 708, 45, 709, 710, 711, 34, 712, 170, 50, 713, 714, 715, 38, 716, 129, 56, 57, 58, 59, 60, 717, 718, 719, 720, 721, 322, 160, 161, 162, 175, 176, 177, 178, 159, 299, 300, 301, 302, 305, 306, 307, 308, 97, 98, 99, 100, 310, 311, 312, 313, 155, 156, 157, 163, 164, 165, 166, 167, 168, 169, 171, 172, 173, 174, 314, 315, 316, 317, 318, 319, 320, 321, 323, 132, 133, 134, 130, 324, 325, 326, 327, 329, 330, 331, 332, 333, 334, 335, 336, 337, 338, 339, 340, 341, 342, 343, 344, 278, 279, 280, 345, 346, 347, 348, 834, 835, 847, 848, 849, 850, 851, 852, 853, 854, 855, 856, 857, 858, 859, 860, 861, 862, 863, 864, 865, 866, 867, 868, 869, 870] (by decide +kernel) (by decide +kernel)) (goodIn_sub (fun _ h => List.mem_append_right _ h) (by decide +kernel))
set_option maxRecDepth 20000 in
theorem gL_law_L_minutesUntilServed : GoodIn wsL_law (va_wsS RL 225 yL_minutesUntilServed wsL_minutesUntilServed) := goodIn_app (goodIn_of _ (by decide +kernel)) ggL_law_L_minutesUntilServed
set_option maxRecDepth 20000 in
theorem ggL_law_X5_minutesUntilServed : GoodIn wsL_law wsX5_minutesUntilServed := goodIn_r _ [725, 184, 185, 186, 5, 187, 106, 107, 108, 109, 188, 189, 190, 191, 105, 726, 727, 728, 729, 730, 731, 732, 733, 73, 74, 734, 735, 736, 737, 738, 739, 740, 741, 139, 644, 645, 646, 647, 357, 358, 359, 360, 361, 362, 363, 364, 67, 192, 193, 194, 195, 71, 66, 69, 196, 197, 198, 199, 365, 366, 367, 368, 369, 370, 371, 372, 68, 373, 374, 375, 376, 377, 378, 379, 380, 381, 382, 383, 384, 385, 386, 387, 388, 389, 390, 391, 392, 72, 393, 394, 395, 285, 286, 287, 288, 742, 743, 744, 745, 836, 837, 838, 839, 840, 841, 842, 843, 844, 845, 846] (by decide +kernel) (by decide +kernel)
set_option maxRecDepth 20000 in
theorem gL_law_X5_minutesUntilServed : GoodIn wsL_law (wsV RL 227 RX5 yX5_minutesUntilServed wsX5_minutesUntilServed) := goodIn_app (goodIn_of _ (by decide +kernel)) ggL_law_X5_minutesUntilServed
set_option maxRecDepth 20000 in
theorem ggL_law_L_servedIn : GoodIn wsL_law wsL_servedIn := goodIn_ca (goodIn_r _ [748, 79, 749, 750, 751, 2, 752, 17, 16, 296, 297, 298, 85, 86, 89, 90, 91, 701, 702, 703, 15, 704, 304, 96, 22, 303, 328, 309, 158, 26, 27, 28, 29, 30, 31, 35, 39, 705, 706, 707, 25, 708, 45, 709, 710, 711, 34, 712, 170, 50, 713, 714, 715, 38, 716, 129, 56, 57, 58, 59, 60, 717, 753, 754, 755, 756, 757, 758, 759, 760, 159, 160, 161, 162, 299, 300, 301, 302, 305, 306, 307, 308, 97, 98, 99, 100, 310, 311, 312, 313, 155, 156, 157, 163, 164, 165, 166, 167, 168, 169, 171, 172, 173, 174, 314, 315, 316, 317, 318, 319, 320, 321, 322, 323, 132, 133, 134, 130, 324, 325, 326, 327, 329, 330, 331, 332, 333, 334, 335, 336, 337, 338, 339, 340, 341, 342, 343, 344, 278, 279, 280, 345, 346, 347, 348, 834, 835, 847, 848, 849, 850, 851, 852, 853, 854, 855, 856, 857, 858, 859, 860, 861, 862, 863, 864, 865, 866, 867, 868, 869, 870] (by decide +kernel) (by decide +kernel)) (goodIn_sub (fun _ h => List.mem_append_left _ (List.mem_append_left _ (List.mem_append_right _ h))) (by decide +kernel))
set_option maxRecDepth 20000 in
theorem gL_law_L_servedIn : GoodIn wsL_law (va_wsS RL 228 yL_servedIn wsL_servedIn) := goodIn_app (goodIn_of _ (by decide +kernel)) ggL_law_L_servedIn
set_option maxRecDepth 20000 in
theorem ggL_law_X5_servedIn : GoodIn wsL_law wsX5_servedIn := goodIn_r _ [764, 105, 107, 108, 5, 109, 765, 766, 767, 768, 73, 730, 731, 732, 733, 74, 734, 735, 736, 737, 353, 354, 355, 356, 357, 358, 359, 360, 106, 139, 361, 362, 363, 364, 67, 192, 193, 194, 195, 71, 66, 69, 196, 197, 198, 199, 365, 366, 367, 368, 369, 370, 371, 372, 68, 373, 374, 375, 376, 377, 378, 379, 380, 381, 382, 383, 384, 385, 386, 387, 388, 389, 390, 391, 392, 72, 393, 394, 395, 285, 286, 287, 288, 742, 743, 744, 745, 110, 111, 112, 113, 836, 837, 838, 839, 840, 841, 842, 843, 844, 845, 846] (by decide +kernel) (by decide +kernel)
set_option maxRecDepth 20000 in
theorem gL_law_X5_servedIn : GoodIn wsL_law (wsV RL 230 RX5 yX5_servedIn wsX5_servedIn) := goodIn_app (goodIn_of _ (by decide +kernel)) ggL_law_X5_servedIn
set_option maxRecDepth 20000 in
theorem ggL_law_L_bestToCross : GoodIn wsL_law wsL_bestToCross := goodIn_ca (goodIn_r _ [771, 143, 772, 773, 774, 2, 775, 17, 16, 148, 149, 150, 151, 152, 153, 701, 702, 703, 15, 704, 304, 96, 22, 303, 328, 309, 158, 26, 27, 28, 29, 30, 31, 35, 39, 705, 706, 707, 25, 708, 45, 709, 710, 711, 34, 712, 170, 50, 713, 714, 715, 38, 716, 129, 56, 57, 58, 59, 60, 717, 753, 754, 755, 756, 757, 758, 759, 760, 159, 160, 161, 162, 299, 300, 301, 302, 305, 306, 307, 308, 97, 98, 99, 100, 310, 311, 312, 313, 155, 156, 157, 163, 164, 165, 166, 167, 168, 169, 171, 172, 173, 174, 314, 315, 316, 317, 318, 319, 320, 321, 322, 323, 132, 133, 134, 130, 324, 325, 326, 327, 329, 330, 331, 332, 333, 334, 335, 336, 337, 338, 339, 340, 341, 342, 343, 344, 278, 279, 280, 345, 346, 347, 348, 207, 208, 209, 210, 834, 835, 847, 848, 849, 850, 851, 852, 853, 854, 855, 856, 857, 858, 859, 860, 861, 862, 863, 864, 865, 866, 867, 868, 869, 870] (by decide +kernel) (by decide +kernel)) (goodIn_sub (fun _ h => List.mem_append_right _ h) (by decide +kernel))
set_option maxRecDepth 20000 in
theorem gL_law_L_bestToCross : GoodIn wsL_law (va_wsS RL 231 yL_bestToCross wsL_bestToCross) := goodIn_app (goodIn_of _ (by decide +kernel)) ggL_law_L_bestToCross
set_option maxRecDepth 20000 in
theorem ggL_law_X5_bestToCross : GoodIn wsL_law wsX5_bestToCross := goodIn_r _ [779, 184, 185, 186, 5, 187, 106, 107, 108, 109, 188, 189, 190, 191, 105, 780, 781, 782, 783, 765, 766, 767, 768, 73, 730, 731, 732, 733, 74, 734, 735, 736, 737, 353, 354, 355, 356, 357, 358, 359, 360, 139, 361, 362, 363, 364, 67, 192, 193, 194, 195, 71, 66, 69, 196, 197, 198, 199, 365, 366, 367, 368, 369, 370, 371, 372, 68, 373, 374, 375, 376, 377, 378, 379, 380, 381, 382, 383, 384, 385, 386, 387, 388, 389, 390, 391, 392, 72, 393, 394, 395, 285, 286, 287, 288, 742, 743, 744, 745, 216, 217, 218, 219, 836, 837, 838, 839, 840, 841, 842, 843, 844, 845, 846] (by decide +kernel) (by decide +kernel)
set_option maxRecDepth 20000 in
theorem gL_law_X5_bestToCross : GoodIn wsL_law (wsV RL 233 RX5 yX5_bestToCross wsX5_bestToCross) := goodIn_app (goodIn_of _ (by decide +kernel)) ggL_law_X5_bestToCross
set_option maxRecDepth 20000 in
theorem ggL_law_X4_meanWait : GoodIn wsL_law wsX4_meanWait := goodIn_r _ [787, 16, 175, 176, 177, 15, 178, 31, 159, 160, 161, 25, 162, 45, 211, 834, 835, 847, 848, 849, 850, 851, 852, 853, 854, 855, 856, 857, 858, 859, 860, 861, 862] (by decide +kernel) (by decide +kernel)
set_option maxRecDepth 20000 in
theorem gL_law_X4_meanWait : GoodIn wsL_law (wsV RL 234 RX4 yX4_meanWait wsX4_meanWait) := goodIn_app (goodIn_of _ (by decide +kernel)) ggL_law_X4_meanWait
set_option maxRecDepth 20000 in
theorem ggL_law_X5_meanWait : GoodIn wsL_law wsX5_meanWait := goodIn_r _ [791, 105, 106, 73, 836, 837, 838, 839, 840, 841, 842, 843, 844, 845, 846] (by decide +kernel) (by decide +kernel)
set_option maxRecDepth 20000 in
theorem gL_law_X5_meanWait : GoodIn wsL_law (wsV RL 238 RX5 yX5_meanWait wsX5_meanWait) := goodIn_app (goodIn_of _ (by decide +kernel)) ggL_law_X5_meanWait
set_option maxRecDepth 20000 in
theorem ggL_law_X4_digest : GoodIn wsL_law wsX4_digest := goodIn_ca (goodIn_ca (goodIn_r _ [795, 796, 16, 797, 397, 398, 2, 399, 798, 799, 800, 801, 802, 409, 410, 411, 803, 417, 418, 419, 804, 425, 426, 427, 805, 433, 434, 435, 806, 441, 442, 443, 807, 449, 450, 451, 808, 457, 458, 459, 809, 513, 514, 515, 211, 160, 161, 25, 162, 45, 810, 525, 526, 527, 811, 537, 538, 539, 540, 541, 542, 15, 543, 29, 96, 159, 812, 553, 554, 555, 813, 583, 584, 585, 586, 334, 335, 34, 336, 170, 50, 814, 750, 751, 752, 17, 296, 297, 298, 85, 86, 89, 90, 91, 701, 702, 703, 704, 304, 22, 303, 328, 309, 158, 26, 27, 28, 30, 31, 35, 39, 705, 706, 707, 708, 709, 710, 711, 712, 713, 714, 715, 38, 716, 129, 56, 57, 58, 59, 60, 717, 753, 754, 755, 756, 757, 758, 759, 760, 299, 300, 301, 302, 305, 306, 307, 308, 97, 98, 99, 100, 310, 311, 312, 313, 155, 156, 157, 163, 164, 165, 166, 167, 168, 169, 171, 172, 173, 174, 314, 315, 316, 317, 318, 319, 320, 321, 322, 323, 132, 133, 134, 130, 324, 325, 326, 327, 329, 330, 331, 332, 333, 337, 338, 339, 340, 341, 342, 343, 344, 278, 279, 280, 345, 346, 347, 348, 815, 468, 469, 470, 148, 149, 150, 151, 152, 153, 816, 479, 480, 481, 817, 494, 495, 496, 227, 228, 229, 230, 818, 505, 506, 507, 819, 575, 576, 577, 276, 820, 599, 600, 601, 602, 603, 604, 605, 821, 686, 687, 688, 689, 822, 698, 699, 700, 718, 719, 720, 721, 175, 176, 177, 178, 823, 773, 774, 775, 207, 208, 209, 210, 824, 618, 619, 620, 621, 622, 623, 624, 825, 637, 638, 639, 826, 652, 653, 654, 827, 663, 664, 665, 834, 835, 847, 848, 849, 850, 851, 852, 853, 854, 855, 856, 857, 858, 859, 860, 861, 865, 866, 867, 868, 869, 870, 862, 863, 864] (by decide +kernel) (by decide +kernel)) (goodIn_sub (fun _ h => List.mem_append_left _ (List.mem_append_left _ (List.mem_append_right _ h))) (by decide +kernel))) (goodIn_sub (fun _ h => List.mem_append_right _ h) (by decide +kernel))
set_option maxRecDepth 20000 in
theorem gL_law_X4_digest : GoodIn wsL_law (wsV RL 239 RX4 yX4_digest wsX4_digest) := goodIn_app (goodIn_of _ (by decide +kernel)) ggL_law_X4_digest
set_option maxRecDepth 20000 in
theorem ggL_law_X5_digest : GoodIn wsL_law wsX5_digest := goodIn_r _ [831, 105, 44, 73, 106, 139, 832, 833, 69, 71, 520, 521, 522, 5, 523, 532, 533, 534, 535, 548, 549, 550, 551, 591, 592, 593, 594, 765, 766, 767, 768, 730, 731, 732, 733, 74, 734, 735, 736, 737, 353, 354, 355, 356, 357, 358, 359, 360, 361, 362, 363, 364, 67, 192, 193, 194, 195, 66, 196, 197, 198, 199, 365, 366, 367, 368, 369, 370, 371, 372, 68, 373, 374, 375, 376, 377, 378, 379, 380, 381, 382, 383, 384, 385, 386, 387, 388, 389, 390, 391, 392, 72, 393, 394, 395, 285, 286, 287, 288, 742, 743, 744, 745, 486, 487, 488, 489, 610, 611, 612, 613, 726, 727, 728, 729, 738, 739, 740, 741, 644, 645, 646, 647, 780, 781, 782, 783, 216, 217, 218, 219, 836, 837, 838, 839, 840, 841, 842, 843, 844, 845, 846] (by decide +kernel) (by decide +kernel)
set_option maxRecDepth 20000 in
theorem gL_law_X5_digest : GoodIn wsL_law (wsV RL 243 RX5 yX5_digest wsX5_digest) := goodIn_app (goodIn_of _ (by decide +kernel)) ggL_law_X5_digest
