theorem dL_below_0 : decode cL_below 0 = .ok (.iload_n 0, 1) := by decide +kernel
theorem dL_below_1 : decode cL_below 1 = .ok (.ldc 7, 2) := by decide +kernel
theorem dL_below_3 : decode cL_below 3 = .ok (.iand, 1) := by decide +kernel
theorem dL_below_4 : decode cL_below 4 = .ok (.iload_n 1, 1) := by decide +kernel
theorem dL_below_5 : decode cL_below 5 = .ok (.irem, 1) := by decide +kernel
theorem dL_below_6 : decode cL_below 6 = .ok (.ireturn, 1) := by decide +kernel
theorem dL_cell_0 : decode cL_cell 0 = .ok (.iload_n 1, 1) := by decide +kernel
theorem dL_cell_1 : decode cL_cell 1 = .ok (.aload_n 0, 1) := by decide +kernel
theorem dL_cell_2 : decode cL_cell 2 = .ok (.arraylength, 1) := by decide +kernel
theorem dL_cell_3 : decode cL_cell 3 = .ok (.if_icmp .ge 9, 3) := by decide +kernel
theorem dL_cell_6 : decode cL_cell 6 = .ok (.aload_n 0, 1) := by decide +kernel
theorem dL_cell_7 : decode cL_cell 7 = .ok (.iload_n 1, 1) := by decide +kernel
theorem dL_cell_8 : decode cL_cell 8 = .ok (.iaload, 1) := by decide +kernel
theorem dL_cell_9 : decode cL_cell 9 = .ok (.goto 9, 3) := by decide +kernel
theorem dL_cell_12 : decode cL_cell 12 = .ok (.ldc 8, 2) := by decide +kernel
theorem dL_cell_14 : decode cL_cell 14 = .ok (.iload_n 1, 1) := by decide +kernel
theorem dL_cell_15 : decode cL_cell 15 = .ok (.iconst 3, 1) := by decide +kernel
theorem dL_cell_16 : decode cL_cell 16 = .ok (.iadd, 1) := by decide +kernel
theorem dL_cell_17 : decode cL_cell 17 = .ok (.imul, 1) := by decide +kernel
theorem dL_cell_18 : decode cL_cell 18 = .ok (.ireturn, 1) := by decide +kernel
set_option maxRecDepth 20000 in
theorem ggL_act_L_below : GoodIn wsL_act wsL_below := goodIn_r _ [10, 11] (by decide +kernel) (by decide +kernel)
set_option maxRecDepth 20000 in
theorem gL_act_L_below : GoodIn wsL_act (va_wsS RL 18 yL_below wsL_below) := goodIn_app (goodIn_of _ (by decide +kernel)) ggL_act_L_below
set_option maxRecDepth 20000 in
theorem ggL_act_X5_with : GoodIn wsL_act wsX5_with := goodIn_r _ [15, 16] (by decide +kernel) (by decide +kernel)
set_option maxRecDepth 20000 in
theorem gL_act_X5_with : GoodIn wsL_act (va_wsS RL 24 yX5_with wsX5_with) := goodIn_app (goodIn_of _ (by decide +kernel)) ggL_act_X5_with
set_option maxRecDepth 20000 in
theorem ggL_act_X4_addRoom : GoodIn wsL_act wsX4_addRoom := goodIn_ca (goodIn_ca (goodIn_r _ [21, 22, 23, 24, 25, 26, 27, 28, 20, 29, 30, 31, 32, 33, 34, 35, 36, 37, 38, 39, 40, 41, 42, 43, 44, 45, 46, 47, 275, 276, 277, 278, 279, 280, 281, 282, 283, 284, 285, 286, 287, 288, 289, 290, 291, 292] (by decide +kernel) (by decide +kernel)) (goodIn_sub (fun _ h => List.mem_cons_of_mem _ (List.mem_append_left _ (List.mem_append_left _ (List.mem_append_right _ h)))) (by decide +kernel))) (goodIn_sub (fun _ h => List.mem_cons_of_mem _ (List.mem_append_left _ (List.mem_append_right _ h))) (by decide +kernel))
set_option maxRecDepth 20000 in
theorem gL_act_X4_addRoom : GoodIn wsL_act (wsV RL 28 RX4 yX4_addRoom wsX4_addRoom) := goodIn_app (goodIn_of _ (by decide +kernel)) ggL_act_X4_addRoom
set_option maxRecDepth 20000 in
theorem ggL_act_X4_addServant : GoodIn wsL_act wsX4_addServant := goodIn_ca (goodIn_ca (goodIn_r _ [51, 22, 23, 24, 25, 26, 27, 28, 20, 29, 52, 53, 54, 55, 56, 57, 58, 59, 60, 43, 44, 45, 46, 47, 61, 62, 63, 64, 65, 66, 67, 275, 276, 277, 278, 279, 280, 281, 282, 283, 284, 285, 286, 287, 288, 289, 290, 291, 293, 294, 295, 296, 297, 298, 292] (by decide +kernel) (by decide +kernel)) (goodIn_sub (fun _ h => List.mem_cons_of_mem _ (List.mem_append_left _ (List.mem_append_left _ (List.mem_append_right _ h)))) (by decide +kernel))) (goodIn_sub (fun _ h => List.mem_cons_of_mem _ (List.mem_append_left _ (List.mem_append_right _ h))) (by decide +kernel))
set_option maxRecDepth 20000 in
theorem gL_act_X4_addServant : GoodIn wsL_act (wsV RL 34 RX4 yX4_addServant wsX4_addServant) := goodIn_app (goodIn_of _ (by decide +kernel)) ggL_act_X4_addServant
set_option maxRecDepth 20000 in
theorem ggL_act_X4_ring : GoodIn wsL_act wsX4_ring := goodIn_ca (goodIn_r _ [71, 26, 72, 73, 74, 20, 75, 76, 77, 78, 79, 80, 33, 81, 36, 40, 82, 83, 39, 84, 85, 86, 87, 45, 88, 47, 89, 90, 91, 92, 93, 94, 95, 96, 97, 98, 99, 100, 101, 102, 103, 104, 105, 106, 41, 107, 43, 44, 46, 275, 276, 277, 278, 279, 280, 281, 282, 283, 284, 285, 286, 287, 288, 289, 290, 291, 292, 299, 300] (by decide +kernel) (by decide +kernel)) (goodIn_sub (fun _ h => List.mem_cons_of_mem _ (List.mem_append_right _ h)) (by decide +kernel))
set_option maxRecDepth 20000 in
theorem gL_act_X4_ring : GoodIn wsL_act (wsV RL 38 RX4 yX4_ring wsX4_ring) := goodIn_app (goodIn_of _ (by decide +kernel)) ggL_act_X4_ring
set_option maxRecDepth 20000 in
theorem ggL_act_X5_ring : GoodIn wsL_act wsX5_ring := goodIn_r _ [111, 112, 113, 114, 115, 116, 117, 118, 119, 14, 120, 121, 122, 123, 4, 124, 125, 126, 127, 266, 267, 268, 269, 270, 271, 272, 273, 274] (by decide +kernel) (by decide +kernel)
set_option maxRecDepth 20000 in
theorem gL_act_X5_ring : GoodIn wsL_act (wsV RL 42 RX5 yX5_ring wsX5_ring) := goodIn_app (goodIn_of _ (by decide +kernel)) ggL_act_X5_ring
set_option maxRecDepth 20000 in
theorem ggL_act_X5_cross : GoodIn wsL_act wsX5_cross := goodIn_r _ [131, 112, 266, 267, 268, 269, 270, 271, 272, 273, 274] (by decide +kernel) (by decide +kernel)
set_option maxRecDepth 20000 in
theorem gL_act_X5_cross : GoodIn wsL_act (wsV RL 43 RX5 yX5_cross wsX5_cross) := goodIn_app (goodIn_of _ (by decide +kernel)) ggL_act_X5_cross
set_option maxRecDepth 20000 in
theorem ggL_act_X4_cross : GoodIn wsL_act wsX4_cross := goodIn_ca (goodIn_ca (goodIn_r _ [135, 22, 23, 26, 72, 73, 74, 20, 75, 76, 77, 136, 137, 138, 33, 139, 39, 85, 86, 87, 45, 88, 47, 42, 43, 44, 46, 140, 275, 276, 277, 278, 279, 280, 281, 282, 283, 284, 285, 286, 287, 288, 289, 290, 291, 292] (by decide +kernel) (by decide +kernel)) (goodIn_sub (fun _ h => List.mem_cons_of_mem _ (List.mem_append_left _ (List.mem_append_left _ (List.mem_append_right _ h)))) (by decide +kernel))) (goodIn_sub (fun _ h => List.mem_cons_of_mem _ (List.mem_append_right _ h)) (by decide +kernel))
set_option maxRecDepth 20000 in
theorem gL_act_X4_cross : GoodIn wsL_act (wsV RL 47 RX4 yX4_cross wsX4_cross) := goodIn_app (goodIn_of _ (by decide +kernel)) ggL_act_X4_cross
set_option maxRecDepth 20000 in
theorem ggL_act_X4_cut : GoodIn wsL_act wsX4_cut := goodIn_ca (goodIn_ca (goodIn_r _ [144, 24, 25, 26, 72, 73, 74, 20, 75, 76, 77, 145, 146, 147, 33, 148, 40, 85, 86, 87, 45, 88, 47, 107, 43, 44, 46, 149, 150, 151, 152, 35, 275, 276, 277, 278, 279, 280, 281, 282, 283, 284, 285, 286, 287, 288, 289, 290, 291, 292] (by decide +kernel) (by decide +kernel)) (goodIn_sub (fun _ h => List.mem_cons_of_mem _ (List.mem_append_left _ (List.mem_append_right _ h))) (by decide +kernel))) (goodIn_sub (fun _ h => List.mem_cons_of_mem _ (List.mem_append_right _ h)) (by decide +kernel))
set_option maxRecDepth 20000 in
theorem gL_act_X4_cut : GoodIn wsL_act (wsV RL 49 RX4 yX4_cut wsX4_cut) := goodIn_app (goodIn_of _ (by decide +kernel)) ggL_act_X4_cut
set_option maxRecDepth 20000 in
theorem ggL_act_X5_cut : GoodIn wsL_act wsX5_cut := goodIn_r _ [156, 112, 266, 267, 268, 269, 270, 271, 272, 273, 274] (by decide +kernel) (by decide +kernel)
set_option maxRecDepth 20000 in
theorem gL_act_X5_cut : GoodIn wsL_act (wsV RL 52 RX5 yX5_cut wsX5_cut) := goodIn_app (goodIn_of _ (by decide +kernel)) ggL_act_X5_cut
set_option maxRecDepth 20000 in
theorem ggL_act_X4_mend : GoodIn wsL_act wsX4_mend := goodIn_ca (goodIn_ca (goodIn_r _ [160, 24, 25, 26, 72, 73, 74, 20, 75, 76, 77, 145, 146, 147, 33, 148, 40, 85, 86, 87, 45, 88, 47, 107, 43, 44, 46, 149, 150, 151, 152, 35, 275, 276, 277, 278, 279, 280, 281, 282, 283, 284, 285, 286, 287, 288, 289, 290, 291, 292] (by decide +kernel) (by decide +kernel)) (goodIn_sub (fun _ h => List.mem_cons_of_mem _ (List.mem_append_left _ (List.mem_append_right _ h))) (by decide +kernel))) (goodIn_sub (fun _ h => List.mem_cons_of_mem _ (List.mem_append_right _ h)) (by decide +kernel))
set_option maxRecDepth 20000 in
theorem gL_act_X4_mend : GoodIn wsL_act (wsV RL 55 RX4 yX4_mend wsX4_mend) := goodIn_app (goodIn_of _ (by decide +kernel)) ggL_act_X4_mend
set_option maxRecDepth 20000 in
theorem ggL_act_X4_recharge : GoodIn wsL_act wsX4_recharge := goodIn_ca (goodIn_r _ [164, 22, 23, 26, 27, 28, 20, 29, 275, 276, 277, 278, 279, 280, 281, 282, 283, 284, 285, 286, 287, 288, 289, 290, 291] (by decide +kernel) (by decide +kernel)) (goodIn_sub (fun _ h => List.mem_cons_of_mem _ (List.mem_append_left _ (List.mem_append_left _ (List.mem_append_right _ h)))) (by decide +kernel))
set_option maxRecDepth 20000 in
theorem gL_act_X4_recharge : GoodIn wsL_act (wsV RL 62 RX4 yX4_recharge wsX4_recharge) := goodIn_app (goodIn_of _ (by decide +kernel)) ggL_act_X4_recharge
set_option maxRecDepth 20000 in
theorem ggL_act_X5_place : GoodIn wsL_act wsX5_place := goodIn_r _ [127, 123, 266, 267, 268, 269, 270, 271, 272, 273, 274] (by decide +kernel) (by decide +kernel)
set_option maxRecDepth 20000 in
theorem gL_act_X5_place : GoodIn wsL_act (wsV RL 65 RX5 yX5_place wsX5_place) := goodIn_app (goodIn_of _ (by decide +kernel)) ggL_act_X5_place
set_option maxRecDepth 20000 in
theorem ggL_act_X5_up : GoodIn wsL_act wsX5_up := goodIn_r _ [169, 123, 4, 266, 267, 268, 269, 270, 271, 272, 273, 274] (by decide +kernel) (by decide +kernel)
set_option maxRecDepth 20000 in
theorem gL_act_X5_up : GoodIn wsL_act (wsV RL 68 RX5 yX5_up wsX5_up) := goodIn_app (goodIn_of _ (by decide +kernel)) ggL_act_X5_up
set_option maxRecDepth 20000 in
theorem ggL_act_X4_putUp : GoodIn wsL_act wsX4_putUp := goodIn_ca (goodIn_ca (goodIn_r _ [173, 24, 25, 26, 72, 73, 74, 20, 75, 76, 77, 174, 93, 94, 95, 96, 97, 98, 175, 176, 177, 178, 275, 276, 277, 278, 279, 280, 281, 282, 283, 284, 285, 286, 287, 288, 289, 290, 291, 299, 300] (by decide +kernel) (by decide +kernel)) (goodIn_sub (fun _ h => List.mem_cons_of_mem _ (List.mem_append_left _ (List.mem_append_right _ h))) (by decide +kernel))) (goodIn_sub (fun _ h => List.mem_cons_of_mem _ (List.mem_append_right _ h)) (by decide +kernel))
set_option maxRecDepth 20000 in
theorem gL_act_X4_putUp : GoodIn wsL_act (wsV RL 72 RX4 yX4_putUp wsX4_putUp) := goodIn_app (goodIn_of _ (by decide +kernel)) ggL_act_X4_putUp
set_option maxRecDepth 20000 in
theorem ggL_act_X4_pass : GoodIn wsL_act wsX4_pass := goodIn_ca (goodIn_r _ [182, 26, 183, 184, 20, 185, 22, 23, 27, 28, 29, 186, 187, 188, 33, 189, 190, 191, 192, 193, 194, 195, 35, 41, 196, 37, 85, 86, 87, 45, 88, 47, 42, 43, 44, 46, 197, 198, 199, 200, 79, 80, 81, 36, 40, 82, 83, 39, 84, 89, 90, 91, 92, 93, 94, 95, 96, 97, 98, 99, 100, 101, 102, 201, 202, 203, 204, 205, 206, 207, 208, 55, 209, 65, 66, 210, 211, 62, 63, 64, 67, 60, 212, 213, 214, 215, 216, 38, 217, 218, 219, 220, 221, 222, 223, 224, 225, 226, 227, 228, 57, 59, 58, 229, 230, 231, 232, 176, 177, 178, 233, 234, 235, 236, 275, 276, 277, 278, 279, 280, 281, 282, 283, 284, 285, 286, 287, 288, 289, 290, 291, 292, 299, 300, 293, 294, 295, 296, 297, 298] (by decide +kernel) (by decide +kernel)) (goodIn_sub (fun _ h => List.mem_cons_of_mem _ (List.mem_append_left _ (List.mem_append_left _ (List.mem_append_right _ h)))) (by decide +kernel))
set_option maxRecDepth 20000 in
theorem gL_act_X4_pass : GoodIn wsL_act (wsV RL 79 RX4 yX4_pass wsX4_pass) := goodIn_app (goodIn_of _ (by decide +kernel)) ggL_act_X4_pass
set_option maxRecDepth 20000 in
theorem ggL_act_X5_pass_ : GoodIn wsL_act wsX5_pass_ := goodIn_r _ [240, 241, 242, 243, 14, 244, 245, 112, 246, 247, 248, 123, 249, 117, 118, 119, 120, 121, 122, 4, 124, 125, 126, 127, 250, 251, 252, 253, 254, 255, 256, 257, 258, 259, 260, 261, 262, 263, 115, 264, 265, 167, 168, 169, 266, 267, 268, 269, 270, 271, 272, 273, 274] (by decide +kernel) (by decide +kernel)
set_option maxRecDepth 20000 in
theorem gL_act_X5_pass_ : GoodIn wsL_act (wsV RL 82 RX5 yX5_pass_ wsX5_pass_) := goodIn_app (goodIn_of _ (by decide +kernel)) ggL_act_X5_pass_
