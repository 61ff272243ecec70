set_option maxRecDepth 20000 in
theorem ggL_addRoom_X4_addRoom : GoodIn wsL_addRoom wsX4_addRoom := goodIn_ca (goodIn_ca (goodIn_r _ [7, 8, 9, 10, 11, 12, 13, 14, 6, 15, 16, 17, 18, 19, 20, 21, 22, 23, 24, 25, 26, 27, 28, 29, 30, 31, 32, 33, 34, 35, 36, 37, 38, 39, 40, 41, 42, 43, 44, 45, 46, 47, 48, 49, 50, 51] (by decide +kernel) (by decide +kernel)) (goodIn_sub (fun _ h => List.mem_cons_of_mem _ (List.mem_append_left _ (List.mem_append_right _ h))) (by decide +kernel))) (goodIn_sub (fun _ h => List.mem_cons_of_mem _ (List.mem_append_right _ h)) (by decide +kernel))
set_option maxRecDepth 20000 in
theorem gL_addRoom_X4_addRoom : GoodIn wsL_addRoom (wsV RL 7 RX4 yX4_addRoom wsX4_addRoom) := goodIn_app (goodIn_of _ (by decide +kernel)) ggL_addRoom_X4_addRoom
theorem dL_addRoom_0 : decode cL_addRoom 0 = .ok (.aload 4, 2) := by decide +kernel
theorem dL_addRoom_2 : decode cL_addRoom 2 = .ok (.iconst 0, 1) := by decide +kernel
theorem dL_addRoom_3 : decode cL_addRoom 3 = .ok (.aload_n 0, 1) := by decide +kernel
theorem dL_addRoom_4 : decode cL_addRoom 4 = .ok (.iload_n 1, 1) := by decide +kernel
theorem dL_addRoom_5 : decode cL_addRoom 5 = .ok (.iload_n 2, 1) := by decide +kernel
theorem dL_addRoom_6 : decode cL_addRoom 6 = .ok (.iload_n 3, 1) := by decide +kernel
theorem dL_addRoom_7 : decode cL_addRoom 7 = .ok (.invokevirtual 7, 3) := by decide +kernel
theorem dL_addRoom_10 : decode cL_addRoom 10 = .ok (.i2l, 1) := by decide +kernel
theorem dL_addRoom_11 : decode cL_addRoom 11 = .ok (.lastore, 1) := by decide +kernel
theorem dL_addRoom_12 : decode cL_addRoom 12 = .ok (.goto 11, 3) := by decide +kernel
theorem dL_addRoom_15 : decode cL_addRoom 15 = .ok (.astore 5, 2) := by decide +kernel
theorem dL_addRoom_17 : decode cL_addRoom 17 = .ok (.iconst 1, 1) := by decide +kernel
theorem dL_addRoom_18 : decode cL_addRoom 18 = .ok (.ireturn, 1) := by decide +kernel
theorem dL_addRoom_19 : decode cL_addRoom 19 = .ok (.astore 5, 2) := by decide +kernel
theorem dL_addRoom_21 : decode cL_addRoom 21 = .ok (.iconst 2, 1) := by decide +kernel
theorem dL_addRoom_22 : decode cL_addRoom 22 = .ok (.ireturn, 1) := by decide +kernel
theorem dL_addRoom_23 : decode cL_addRoom 23 = .ok (.iconst 0, 1) := by decide +kernel
theorem dL_addRoom_24 : decode cL_addRoom 24 = .ok (.ireturn, 1) := by decide +kernel
set_option maxRecDepth 20000 in
theorem ggL_addServant_X4_addServant : GoodIn wsL_addServant wsX4_addServant := goodIn_ca (goodIn_ca (goodIn_r _ [7, 8, 9, 10, 11, 12, 13, 14, 6, 15, 16, 17, 18, 19, 20, 21, 22, 23, 24, 25, 26, 27, 28, 29, 30, 31, 32, 33, 34, 35, 36, 37, 38, 39, 40, 41, 42, 43, 44, 45, 46, 47, 48, 49, 50, 51, 52, 53, 54, 55, 56, 57, 58, 59, 60] (by decide +kernel) (by decide +kernel)) (goodIn_sub (fun _ h => List.mem_cons_of_mem _ (List.mem_append_left _ (List.mem_append_right _ h))) (by decide +kernel))) (goodIn_sub (fun _ h => List.mem_cons_of_mem _ (List.mem_append_right _ h)) (by decide +kernel))
set_option maxRecDepth 20000 in
theorem gL_addServant_X4_addServant : GoodIn wsL_addServant (wsV RL 17 RX4 yX4_addServant wsX4_addServant) := goodIn_app (goodIn_of _ (by decide +kernel)) ggL_addServant_X4_addServant
theorem dL_addServant_0 : decode cL_addServant 0 = .ok (.aload_n 2, 1) := by decide +kernel
theorem dL_addServant_1 : decode cL_addServant 1 = .ok (.iconst 0, 1) := by decide +kernel
theorem dL_addServant_2 : decode cL_addServant 2 = .ok (.aload_n 0, 1) := by decide +kernel
theorem dL_addServant_3 : decode cL_addServant 3 = .ok (.iload_n 1, 1) := by decide +kernel
theorem dL_addServant_4 : decode cL_addServant 4 = .ok (.invokevirtual 17, 3) := by decide +kernel
theorem dL_addServant_7 : decode cL_addServant 7 = .ok (.i2l, 1) := by decide +kernel
theorem dL_addServant_8 : decode cL_addServant 8 = .ok (.lastore, 1) := by decide +kernel
theorem dL_addServant_9 : decode cL_addServant 9 = .ok (.goto 9, 3) := by decide +kernel
theorem dL_addServant_12 : decode cL_addServant 12 = .ok (.astore_n 3, 1) := by decide +kernel
theorem dL_addServant_13 : decode cL_addServant 13 = .ok (.iconst 1, 1) := by decide +kernel
theorem dL_addServant_14 : decode cL_addServant 14 = .ok (.ireturn, 1) := by decide +kernel
theorem dL_addServant_15 : decode cL_addServant 15 = .ok (.astore_n 3, 1) := by decide +kernel
theorem dL_addServant_16 : decode cL_addServant 16 = .ok (.iconst 2, 1) := by decide +kernel
theorem dL_addServant_17 : decode cL_addServant 17 = .ok (.ireturn, 1) := by decide +kernel
theorem dL_addServant_18 : decode cL_addServant 18 = .ok (.iconst 0, 1) := by decide +kernel
theorem dL_addServant_19 : decode cL_addServant 19 = .ok (.ireturn, 1) := by decide +kernel
set_option maxRecDepth 20000 in
theorem ggL_ring_X4_ring : GoodIn wsL_ring wsX4_ring := goodIn_ca (goodIn_r _ [6, 7, 8, 9, 10, 5, 11, 12, 13, 14, 15, 16, 17, 18, 19, 20, 21, 22, 23, 24, 25, 26, 27, 28, 29, 30, 31, 32, 33, 34, 35, 36, 37, 38, 39, 40, 41, 42, 43, 44, 45, 46, 47, 48, 49, 50, 51, 52, 53, 54, 55, 56, 57, 58, 59, 60, 61, 62, 63, 64, 65, 66, 67, 68, 69, 70, 71, 72, 73] (by decide +kernel) (by decide +kernel)) (goodIn_sub (fun _ h => List.mem_cons_of_mem _ (List.mem_append_right _ h)) (by decide +kernel))
set_option maxRecDepth 20000 in
theorem gL_ring_X4_ring : GoodIn wsL_ring (wsV RL 21 RX4 yX4_ring wsX4_ring) := goodIn_app (goodIn_of _ (by decide +kernel)) ggL_ring_X4_ring
theorem dL_ring_0 : decode cL_ring 0 = .ok (.aload_n 2, 1) := by decide +kernel
theorem dL_ring_1 : decode cL_ring 1 = .ok (.iconst 0, 1) := by decide +kernel
theorem dL_ring_2 : decode cL_ring 2 = .ok (.aload_n 0, 1) := by decide +kernel
theorem dL_ring_3 : decode cL_ring 3 = .ok (.iload_n 1, 1) := by decide +kernel
theorem dL_ring_4 : decode cL_ring 4 = .ok (.invokevirtual 21, 3) := by decide +kernel
theorem dL_ring_7 : decode cL_ring 7 = .ok (.ifCond .eq 7, 3) := by decide +kernel
theorem dL_ring_10 : decode cL_ring 10 = .ok (.lconst 1, 1) := by decide +kernel
theorem dL_ring_11 : decode cL_ring 11 = .ok (.goto 4, 3) := by decide +kernel
theorem dL_ring_14 : decode cL_ring 14 = .ok (.lconst 0, 1) := by decide +kernel
theorem dL_ring_15 : decode cL_ring 15 = .ok (.lastore, 1) := by decide +kernel
theorem dL_ring_16 : decode cL_ring 16 = .ok (.goto 6, 3) := by decide +kernel
theorem dL_ring_19 : decode cL_ring 19 = .ok (.astore_n 3, 1) := by decide +kernel
theorem dL_ring_20 : decode cL_ring 20 = .ok (.iconst 1, 1) := by decide +kernel
theorem dL_ring_21 : decode cL_ring 21 = .ok (.ireturn, 1) := by decide +kernel
theorem dL_ring_22 : decode cL_ring 22 = .ok (.iconst 0, 1) := by decide +kernel
theorem dL_ring_23 : decode cL_ring 23 = .ok (.ireturn, 1) := by decide +kernel
set_option maxRecDepth 20000 in
theorem ggL_cross_X4_cross : GoodIn wsL_cross wsX4_cross := goodIn_ca (goodIn_ca (goodIn_r _ [7, 8, 9, 10, 11, 12, 13, 6, 14, 15, 16, 17, 18, 19, 20, 21, 22, 23, 24, 25, 26, 27, 28, 29, 30, 31, 32, 33, 34, 35, 36, 37, 38, 39, 40, 41, 42, 43, 44, 45, 46, 47, 48, 49, 50, 51] (by decide +kernel) (by decide +kernel)) (goodIn_sub (fun _ h => List.mem_cons_of_mem _ (List.mem_append_left _ (List.mem_append_right _ h))) (by decide +kernel))) (goodIn_sub (fun _ h => List.mem_cons_of_mem _ (List.mem_append_right _ h)) (by decide +kernel))
set_option maxRecDepth 20000 in
theorem gL_cross_X4_cross : GoodIn wsL_cross (wsV RL 27 RX4 yX4_cross wsX4_cross) := goodIn_app (goodIn_of _ (by decide +kernel)) ggL_cross_X4_cross
theorem dL_cross_0 : decode cL_cross 0 = .ok (.aload_n 3, 1) := by decide +kernel
theorem dL_cross_1 : decode cL_cross 1 = .ok (.iconst 0, 1) := by decide +kernel
theorem dL_cross_2 : decode cL_cross 2 = .ok (.aload_n 0, 1) := by decide +kernel
theorem dL_cross_3 : decode cL_cross 3 = .ok (.iload_n 1, 1) := by decide +kernel
theorem dL_cross_4 : decode cL_cross 4 = .ok (.iload_n 2, 1) := by decide +kernel
theorem dL_cross_5 : decode cL_cross 5 = .ok (.invokevirtual 27, 3) := by decide +kernel
theorem dL_cross_8 : decode cL_cross 8 = .ok (.i2l, 1) := by decide +kernel
theorem dL_cross_9 : decode cL_cross 9 = .ok (.lastore, 1) := by decide +kernel
theorem dL_cross_10 : decode cL_cross 10 = .ok (.goto 11, 3) := by decide +kernel
theorem dL_cross_13 : decode cL_cross 13 = .ok (.astore 4, 2) := by decide +kernel
theorem dL_cross_15 : decode cL_cross 15 = .ok (.iconst 1, 1) := by decide +kernel
theorem dL_cross_16 : decode cL_cross 16 = .ok (.ireturn, 1) := by decide +kernel
theorem dL_cross_17 : decode cL_cross 17 = .ok (.astore 4, 2) := by decide +kernel
theorem dL_cross_19 : decode cL_cross 19 = .ok (.iconst 2, 1) := by decide +kernel
theorem dL_cross_20 : decode cL_cross 20 = .ok (.ireturn, 1) := by decide +kernel
theorem dL_cross_21 : decode cL_cross 21 = .ok (.iconst 0, 1) := by decide +kernel
theorem dL_cross_22 : decode cL_cross 22 = .ok (.ireturn, 1) := by decide +kernel
set_option maxRecDepth 20000 in
theorem ggL_cut_X4_cut : GoodIn wsL_cut wsX4_cut := goodIn_ca (goodIn_ca (goodIn_r _ [7, 8, 9, 10, 11, 12, 13, 6, 14, 15, 16, 17, 18, 19, 20, 21, 22, 23, 24, 25, 26, 27, 28, 29, 30, 31, 32, 33, 34, 35, 36, 37, 38, 39, 40, 41, 42, 43, 44, 45, 46, 47, 48, 49, 50, 51, 52, 53, 54, 55] (by decide +kernel) (by decide +kernel)) (goodIn_sub (fun _ h => List.mem_cons_of_mem _ (List.mem_append_left _ (List.mem_append_right _ h))) (by decide +kernel))) (goodIn_sub (fun _ h => List.mem_cons_of_mem _ (List.mem_append_right _ h)) (by decide +kernel))
set_option maxRecDepth 20000 in
theorem gL_cut_X4_cut : GoodIn wsL_cut (wsV RL 31 RX4 yX4_cut wsX4_cut) := goodIn_app (goodIn_of _ (by decide +kernel)) ggL_cut_X4_cut
theorem dL_cut_0 : decode cL_cut 0 = .ok (.aload_n 2, 1) := by decide +kernel
theorem dL_cut_1 : decode cL_cut 1 = .ok (.iconst 0, 1) := by decide +kernel
theorem dL_cut_2 : decode cL_cut 2 = .ok (.aload_n 0, 1) := by decide +kernel
theorem dL_cut_3 : decode cL_cut 3 = .ok (.iload_n 1, 1) := by decide +kernel
theorem dL_cut_4 : decode cL_cut 4 = .ok (.invokevirtual 31, 3) := by decide +kernel
theorem dL_cut_7 : decode cL_cut 7 = .ok (.i2l, 1) := by decide +kernel
theorem dL_cut_8 : decode cL_cut 8 = .ok (.lastore, 1) := by decide +kernel
theorem dL_cut_9 : decode cL_cut 9 = .ok (.goto 9, 3) := by decide +kernel
theorem dL_cut_12 : decode cL_cut 12 = .ok (.astore_n 3, 1) := by decide +kernel
theorem dL_cut_13 : decode cL_cut 13 = .ok (.iconst 1, 1) := by decide +kernel
theorem dL_cut_14 : decode cL_cut 14 = .ok (.ireturn, 1) := by decide +kernel
theorem dL_cut_15 : decode cL_cut 15 = .ok (.astore_n 3, 1) := by decide +kernel
theorem dL_cut_16 : decode cL_cut 16 = .ok (.iconst 2, 1) := by decide +kernel
theorem dL_cut_17 : decode cL_cut 17 = .ok (.ireturn, 1) := by decide +kernel
theorem dL_cut_18 : decode cL_cut 18 = .ok (.iconst 0, 1) := by decide +kernel
theorem dL_cut_19 : decode cL_cut 19 = .ok (.ireturn, 1) := by decide +kernel
set_option maxRecDepth 20000 in
theorem ggL_mend_X4_mend : GoodIn wsL_mend wsX4_mend := goodIn_ca (goodIn_ca (goodIn_r _ [7, 8, 9, 10, 11, 12, 13, 6, 14, 15, 16, 17, 18, 19, 20, 21, 22, 23, 24, 25, 26, 27, 28, 29, 30, 31, 32, 33, 34, 35, 36, 37, 38, 39, 40, 41, 42, 43, 44, 45, 46, 47, 48, 49, 50, 51, 52, 53, 54, 55] (by decide +kernel) (by decide +kernel)) (goodIn_sub (fun _ h => List.mem_cons_of_mem _ (List.mem_append_left _ (List.mem_append_right _ h))) (by decide +kernel))) (goodIn_sub (fun _ h => List.mem_cons_of_mem _ (List.mem_append_right _ h)) (by decide +kernel))
set_option maxRecDepth 20000 in
theorem gL_mend_X4_mend : GoodIn wsL_mend (wsV RL 34 RX4 yX4_mend wsX4_mend) := goodIn_app (goodIn_of _ (by decide +kernel)) ggL_mend_X4_mend
theorem dL_mend_0 : decode cL_mend 0 = .ok (.aload_n 2, 1) := by decide +kernel
theorem dL_mend_1 : decode cL_mend 1 = .ok (.iconst 0, 1) := by decide +kernel
theorem dL_mend_2 : decode cL_mend 2 = .ok (.aload_n 0, 1) := by decide +kernel
theorem dL_mend_3 : decode cL_mend 3 = .ok (.iload_n 1, 1) := by decide +kernel
theorem dL_mend_4 : decode cL_mend 4 = .ok (.invokevirtual 34, 3) := by decide +kernel
theorem dL_mend_7 : decode cL_mend 7 = .ok (.i2l, 1) := by decide +kernel
theorem dL_mend_8 : decode cL_mend 8 = .ok (.lastore, 1) := by decide +kernel
theorem dL_mend_9 : decode cL_mend 9 = .ok (.goto 9, 3) := by decide +kernel
theorem dL_mend_12 : decode cL_mend 12 = .ok (.astore_n 3, 1) := by decide +kernel
theorem dL_mend_13 : decode cL_mend 13 = .ok (.iconst 1, 1) := by decide +kernel
theorem dL_mend_14 : decode cL_mend 14 = .ok (.ireturn, 1) := by decide +kernel
theorem dL_mend_15 : decode cL_mend 15 = .ok (.astore_n 3, 1) := by decide +kernel
theorem dL_mend_16 : decode cL_mend 16 = .ok (.iconst 2, 1) := by decide +kernel
theorem dL_mend_17 : decode cL_mend 17 = .ok (.ireturn, 1) := by decide +kernel
theorem dL_mend_18 : decode cL_mend 18 = .ok (.iconst 0, 1) := by decide +kernel
theorem dL_mend_19 : decode cL_mend 19 = .ok (.ireturn, 1) := by decide +kernel
set_option maxRecDepth 20000 in
theorem ggL_recharge_X4_recharge : GoodIn wsL_recharge wsX4_recharge := goodIn_ca (goodIn_r _ [6, 7, 8, 9, 10, 11, 5, 12, 13, 14, 15, 16, 17, 18, 19, 20, 21, 22, 23, 24, 25, 26, 27, 28, 29] (by decide +kernel) (by decide +kernel)) (goodIn_sub (fun _ h => List.mem_cons_of_mem _ (List.mem_append_right _ h)) (by decide +kernel))
set_option maxRecDepth 20000 in
theorem gL_recharge_X4_recharge : GoodIn wsL_recharge (wsV RL 37 RX4 yX4_recharge wsX4_recharge) := goodIn_app (goodIn_of _ (by decide +kernel)) ggL_recharge_X4_recharge
theorem dL_recharge_0 : decode cL_recharge 0 = .ok (.aload_n 2, 1) := by decide +kernel
theorem dL_recharge_1 : decode cL_recharge 1 = .ok (.iconst 0, 1) := by decide +kernel
theorem dL_recharge_2 : decode cL_recharge 2 = .ok (.aload_n 0, 1) := by decide +kernel
theorem dL_recharge_3 : decode cL_recharge 3 = .ok (.iload_n 1, 1) := by decide +kernel
theorem dL_recharge_4 : decode cL_recharge 4 = .ok (.invokevirtual 37, 3) := by decide +kernel
theorem dL_recharge_7 : decode cL_recharge 7 = .ok (.i2l, 1) := by decide +kernel
theorem dL_recharge_8 : decode cL_recharge 8 = .ok (.lastore, 1) := by decide +kernel
theorem dL_recharge_9 : decode cL_recharge 9 = .ok (.goto 6, 3) := by decide +kernel
theorem dL_recharge_12 : decode cL_recharge 12 = .ok (.astore_n 3, 1) := by decide +kernel
theorem dL_recharge_13 : decode cL_recharge 13 = .ok (.iconst 1, 1) := by decide +kernel
theorem dL_recharge_14 : decode cL_recharge 14 = .ok (.ireturn, 1) := by decide +kernel
theorem dL_recharge_15 : decode cL_recharge 15 = .ok (.iconst 0, 1) := by decide +kernel
theorem dL_recharge_16 : decode cL_recharge 16 = .ok (.ireturn, 1) := by decide +kernel
set_option maxRecDepth 20000 in
theorem ggL_putUp_X4_putUp : GoodIn wsL_putUp wsX4_putUp := goodIn_ca (goodIn_ca (goodIn_r _ [7, 8, 9, 10, 11, 12, 13, 6, 14, 15, 16, 17, 18, 19, 20, 21, 22, 23, 24, 25, 26, 27, 28, 29, 30, 31, 32, 33, 34, 35, 36, 37, 38, 39, 40, 41, 42, 43, 44, 45, 46] (by decide +kernel) (by decide +kernel)) (goodIn_sub (fun _ h => List.mem_cons_of_mem _ (List.mem_append_left _ (List.mem_append_right _ h))) (by decide +kernel))) (goodIn_sub (fun _ h => List.mem_cons_of_mem _ (List.mem_append_right _ h)) (by decide +kernel))
set_option maxRecDepth 20000 in
theorem gL_putUp_X4_putUp : GoodIn wsL_putUp (wsV RL 40 RX4 yX4_putUp wsX4_putUp) := goodIn_app (goodIn_of _ (by decide +kernel)) ggL_putUp_X4_putUp
theorem dL_putUp_0 : decode cL_putUp 0 = .ok (.aload_n 2, 1) := by decide +kernel
theorem dL_putUp_1 : decode cL_putUp 1 = .ok (.iconst 0, 1) := by decide +kernel
theorem dL_putUp_2 : decode cL_putUp 2 = .ok (.aload_n 0, 1) := by decide +kernel
theorem dL_putUp_3 : decode cL_putUp 3 = .ok (.iload_n 1, 1) := by decide +kernel
theorem dL_putUp_4 : decode cL_putUp 4 = .ok (.invokevirtual 40, 3) := by decide +kernel
theorem dL_putUp_7 : decode cL_putUp 7 = .ok (.i2l, 1) := by decide +kernel
theorem dL_putUp_8 : decode cL_putUp 8 = .ok (.lastore, 1) := by decide +kernel
theorem dL_putUp_9 : decode cL_putUp 9 = .ok (.goto 9, 3) := by decide +kernel
theorem dL_putUp_12 : decode cL_putUp 12 = .ok (.astore_n 3, 1) := by decide +kernel
theorem dL_putUp_13 : decode cL_putUp 13 = .ok (.iconst 1, 1) := by decide +kernel
theorem dL_putUp_14 : decode cL_putUp 14 = .ok (.ireturn, 1) := by decide +kernel
theorem dL_putUp_15 : decode cL_putUp 15 = .ok (.astore_n 3, 1) := by decide +kernel
theorem dL_putUp_16 : decode cL_putUp 16 = .ok (.iconst 2, 1) := by decide +kernel
theorem dL_putUp_17 : decode cL_putUp 17 = .ok (.ireturn, 1) := by decide +kernel
theorem dL_putUp_18 : decode cL_putUp 18 = .ok (.iconst 0, 1) := by decide +kernel
theorem dL_putUp_19 : decode cL_putUp 19 = .ok (.ireturn, 1) := by decide +kernel
set_option maxRecDepth 20000 in
theorem ggL_pass_X4_pass : GoodIn wsL_pass wsX4_pass := goodIn_ca (goodIn_r _ [6, 7, 8, 9, 5, 10, 11, 12, 13, 14, 15, 16, 17, 18, 19, 20, 21, 22, 23, 24, 25, 26, 27, 28, 29, 30, 31, 32, 33, 34, 35, 36, 37, 38, 39, 40, 41, 42, 43, 44, 45, 46, 47, 48, 49, 50, 51, 52, 53, 54, 55, 56, 57, 58, 59, 60, 61, 62, 63, 64, 65, 66, 67, 68, 69, 70, 71, 72, 73, 74, 75, 76, 77, 78, 79, 80, 81, 82, 83, 84, 85, 86, 87, 88, 89, 90, 91, 92, 93, 94, 95, 96, 97, 98, 99, 100, 101, 102, 103, 104, 105, 106, 107, 108, 109, 110, 111, 112, 113, 114, 115, 116, 117, 118, 119, 120, 121, 122, 123, 124, 125, 126, 127, 128, 129, 130, 131, 132, 133, 134, 135, 136, 137, 138, 139, 140, 141, 142, 143, 144] (by decide +kernel) (by decide +kernel)) (goodIn_sub (fun _ h => List.mem_cons_of_mem _ (List.mem_append_right _ h)) (by decide +kernel))
set_option maxRecDepth 20000 in
theorem gL_pass_X4_pass : GoodIn wsL_pass (wsV RL 43 RX4 yX4_pass wsX4_pass) := goodIn_app (goodIn_of _ (by decide +kernel)) ggL_pass_X4_pass
theorem dL_pass_0 : decode cL_pass 0 = .ok (.aload_n 2, 1) := by decide +kernel
theorem dL_pass_1 : decode cL_pass 1 = .ok (.iconst 0, 1) := by decide +kernel
theorem dL_pass_2 : decode cL_pass 2 = .ok (.aload_n 0, 1) := by decide +kernel
theorem dL_pass_3 : decode cL_pass 3 = .ok (.iload_n 1, 1) := by decide +kernel
theorem dL_pass_4 : decode cL_pass 4 = .ok (.invokevirtual 43, 3) := by decide +kernel
theorem dL_pass_7 : decode cL_pass 7 = .ok (.i2l, 1) := by decide +kernel
theorem dL_pass_8 : decode cL_pass 8 = .ok (.lastore, 1) := by decide +kernel
theorem dL_pass_9 : decode cL_pass 9 = .ok (.goto 6, 3) := by decide +kernel
theorem dL_pass_12 : decode cL_pass 12 = .ok (.astore_n 3, 1) := by decide +kernel
theorem dL_pass_13 : decode cL_pass 13 = .ok (.iconst 1, 1) := by decide +kernel
theorem dL_pass_14 : decode cL_pass 14 = .ok (.ireturn, 1) := by decide +kernel
theorem dL_pass_15 : decode cL_pass 15 = .ok (.iconst 0, 1) := by decide +kernel
theorem dL_pass_16 : decode cL_pass 16 = .ok (.ireturn, 1) := by decide +kernel
set_option maxRecDepth 20000 in
theorem ggL_dropOf_X4_dropOf : GoodIn wsL_dropOf wsX4_dropOf := goodIn_ca (goodIn_r _ [6, 7, 8, 9, 10, 5, 11, 12, 13, 14, 15, 16, 17, 18, 19, 20, 21, 22, 23, 24, 25, 26, 27, 28, 29, 30, 31, 32, 33, 34, 35, 36, 37] (by decide +kernel) (by decide +kernel)) (goodIn_sub (fun _ h => List.mem_cons_of_mem _ (List.mem_append_right _ h)) (by decide +kernel))
set_option maxRecDepth 20000 in
theorem gL_dropOf_X4_dropOf : GoodIn wsL_dropOf (wsV RL 46 RX4 yX4_dropOf wsX4_dropOf) := goodIn_app (goodIn_of _ (by decide +kernel)) ggL_dropOf_X4_dropOf
theorem dL_dropOf_0 : decode cL_dropOf 0 = .ok (.aload_n 2, 1) := by decide +kernel
theorem dL_dropOf_1 : decode cL_dropOf 1 = .ok (.iconst 0, 1) := by decide +kernel
theorem dL_dropOf_2 : decode cL_dropOf 2 = .ok (.aload_n 0, 1) := by decide +kernel
theorem dL_dropOf_3 : decode cL_dropOf 3 = .ok (.iload_n 1, 1) := by decide +kernel
theorem dL_dropOf_4 : decode cL_dropOf 4 = .ok (.invokevirtual 46, 3) := by decide +kernel
theorem dL_dropOf_7 : decode cL_dropOf 7 = .ok (.i2l, 1) := by decide +kernel
theorem dL_dropOf_8 : decode cL_dropOf 8 = .ok (.lastore, 1) := by decide +kernel
theorem dL_dropOf_9 : decode cL_dropOf 9 = .ok (.goto 6, 3) := by decide +kernel
theorem dL_dropOf_12 : decode cL_dropOf 12 = .ok (.astore_n 3, 1) := by decide +kernel
theorem dL_dropOf_13 : decode cL_dropOf 13 = .ok (.iconst 1, 1) := by decide +kernel
theorem dL_dropOf_14 : decode cL_dropOf 14 = .ok (.ireturn, 1) := by decide +kernel
theorem dL_dropOf_15 : decode cL_dropOf 15 = .ok (.iconst 0, 1) := by decide +kernel
theorem dL_dropOf_16 : decode cL_dropOf 16 = .ok (.ireturn, 1) := by decide +kernel
set_option maxRecDepth 20000 in
theorem ggL_roomOf_X4_roomOf : GoodIn wsL_roomOf wsX4_roomOf := goodIn_ca (goodIn_r _ [6, 7, 8, 9, 10, 5, 11, 12, 13, 14, 15, 16, 17, 18, 19, 20, 21, 22, 23, 24, 25, 26, 27, 28, 29, 30, 31, 32, 33, 34, 35, 36, 37] (by decide +kernel) (by decide +kernel)) (goodIn_sub (fun _ h => List.mem_cons_of_mem _ (List.mem_append_right _ h)) (by decide +kernel))
set_option maxRecDepth 20000 in
theorem gL_roomOf_X4_roomOf : GoodIn wsL_roomOf (wsV RL 49 RX4 yX4_roomOf wsX4_roomOf) := goodIn_app (goodIn_of _ (by decide +kernel)) ggL_roomOf_X4_roomOf
theorem dL_roomOf_0 : decode cL_roomOf 0 = .ok (.aload_n 2, 1) := by decide +kernel
theorem dL_roomOf_1 : decode cL_roomOf 1 = .ok (.iconst 0, 1) := by decide +kernel
theorem dL_roomOf_2 : decode cL_roomOf 2 = .ok (.aload_n 0, 1) := by decide +kernel
theorem dL_roomOf_3 : decode cL_roomOf 3 = .ok (.iload_n 1, 1) := by decide +kernel
theorem dL_roomOf_4 : decode cL_roomOf 4 = .ok (.invokevirtual 49, 3) := by decide +kernel
theorem dL_roomOf_7 : decode cL_roomOf 7 = .ok (.i2l, 1) := by decide +kernel
theorem dL_roomOf_8 : decode cL_roomOf 8 = .ok (.lastore, 1) := by decide +kernel
theorem dL_roomOf_9 : decode cL_roomOf 9 = .ok (.goto 6, 3) := by decide +kernel
theorem dL_roomOf_12 : decode cL_roomOf 12 = .ok (.astore_n 3, 1) := by decide +kernel
theorem dL_roomOf_13 : decode cL_roomOf 13 = .ok (.iconst 1, 1) := by decide +kernel
theorem dL_roomOf_14 : decode cL_roomOf 14 = .ok (.ireturn, 1) := by decide +kernel
theorem dL_roomOf_15 : decode cL_roomOf 15 = .ok (.iconst 0, 1) := by decide +kernel
theorem dL_roomOf_16 : decode cL_roomOf 16 = .ok (.ireturn, 1) := by decide +kernel
set_option maxRecDepth 20000 in
theorem ggL_isCut_X4_isCut : GoodIn wsL_isCut wsX4_isCut := goodIn_ca (goodIn_r _ [6, 7, 8, 9, 10, 5, 11, 12, 13, 14, 15, 16, 17, 18, 19, 20, 21, 22, 23, 24, 25, 26, 27, 28, 29, 30, 31, 32, 33, 34, 35, 36, 37, 38, 39, 40, 41, 42, 43] (by decide +kernel) (by decide +kernel)) (goodIn_sub (fun _ h => List.mem_cons_of_mem _ (List.mem_append_right _ h)) (by decide +kernel))
set_option maxRecDepth 20000 in
theorem gL_isCut_X4_isCut : GoodIn wsL_isCut (wsV RL 52 RX4 yX4_isCut wsX4_isCut) := goodIn_app (goodIn_of _ (by decide +kernel)) ggL_isCut_X4_isCut
theorem dL_isCut_0 : decode cL_isCut 0 = .ok (.aload_n 2, 1) := by decide +kernel
theorem dL_isCut_1 : decode cL_isCut 1 = .ok (.iconst 0, 1) := by decide +kernel
theorem dL_isCut_2 : decode cL_isCut 2 = .ok (.aload_n 0, 1) := by decide +kernel
theorem dL_isCut_3 : decode cL_isCut 3 = .ok (.iload_n 1, 1) := by decide +kernel
theorem dL_isCut_4 : decode cL_isCut 4 = .ok (.invokevirtual 52, 3) := by decide +kernel
theorem dL_isCut_7 : decode cL_isCut 7 = .ok (.ifCond .eq 7, 3) := by decide +kernel
theorem dL_isCut_10 : decode cL_isCut 10 = .ok (.lconst 1, 1) := by decide +kernel
theorem dL_isCut_11 : decode cL_isCut 11 = .ok (.goto 4, 3) := by decide +kernel
theorem dL_isCut_14 : decode cL_isCut 14 = .ok (.lconst 0, 1) := by decide +kernel
theorem dL_isCut_15 : decode cL_isCut 15 = .ok (.lastore, 1) := by decide +kernel
theorem dL_isCut_16 : decode cL_isCut 16 = .ok (.goto 6, 3) := by decide +kernel
theorem dL_isCut_19 : decode cL_isCut 19 = .ok (.astore_n 3, 1) := by decide +kernel
theorem dL_isCut_20 : decode cL_isCut 20 = .ok (.iconst 1, 1) := by decide +kernel
theorem dL_isCut_21 : decode cL_isCut 21 = .ok (.ireturn, 1) := by decide +kernel
theorem dL_isCut_22 : decode cL_isCut 22 = .ok (.iconst 0, 1) := by decide +kernel
theorem dL_isCut_23 : decode cL_isCut 23 = .ok (.ireturn, 1) := by decide +kernel
set_option maxRecDepth 20000 in
theorem ggL_waitedFor_X4_waitedFor : GoodIn wsL_waitedFor wsX4_waitedFor := goodIn_ca (goodIn_r _ [6, 7, 8, 9, 10, 5, 11, 12, 13, 14, 15, 16, 17, 18, 19, 20, 21, 22, 23, 24, 25, 26, 27, 28, 29, 30, 31, 32, 33, 34, 35, 36, 37] (by decide +kernel) (by decide +kernel)) (goodIn_sub (fun _ h => List.mem_cons_of_mem _ (List.mem_append_right _ h)) (by decide +kernel))
set_option maxRecDepth 20000 in
theorem gL_waitedFor_X4_waitedFor : GoodIn wsL_waitedFor (wsV RL 55 RX4 yX4_waitedFor wsX4_waitedFor) := goodIn_app (goodIn_of _ (by decide +kernel)) ggL_waitedFor_X4_waitedFor
theorem dL_waitedFor_0 : decode cL_waitedFor 0 = .ok (.aload_n 2, 1) := by decide +kernel
theorem dL_waitedFor_1 : decode cL_waitedFor 1 = .ok (.iconst 0, 1) := by decide +kernel
theorem dL_waitedFor_2 : decode cL_waitedFor 2 = .ok (.aload_n 0, 1) := by decide +kernel
theorem dL_waitedFor_3 : decode cL_waitedFor 3 = .ok (.iload_n 1, 1) := by decide +kernel
theorem dL_waitedFor_4 : decode cL_waitedFor 4 = .ok (.invokevirtual 55, 3) := by decide +kernel
theorem dL_waitedFor_7 : decode cL_waitedFor 7 = .ok (.i2l, 1) := by decide +kernel
theorem dL_waitedFor_8 : decode cL_waitedFor 8 = .ok (.lastore, 1) := by decide +kernel
theorem dL_waitedFor_9 : decode cL_waitedFor 9 = .ok (.goto 6, 3) := by decide +kernel
theorem dL_waitedFor_12 : decode cL_waitedFor 12 = .ok (.astore_n 3, 1) := by decide +kernel
theorem dL_waitedFor_13 : decode cL_waitedFor 13 = .ok (.iconst 1, 1) := by decide +kernel
theorem dL_waitedFor_14 : decode cL_waitedFor 14 = .ok (.ireturn, 1) := by decide +kernel
theorem dL_waitedFor_15 : decode cL_waitedFor 15 = .ok (.iconst 0, 1) := by decide +kernel
theorem dL_waitedFor_16 : decode cL_waitedFor 16 = .ok (.ireturn, 1) := by decide +kernel
set_option maxRecDepth 20000 in
theorem ggL_hasFallen_X4_hasFallen : GoodIn wsL_hasFallen wsX4_hasFallen := goodIn_ca (goodIn_r _ [6, 7, 8, 9, 10, 5, 11, 12, 13, 14, 15, 16, 17, 18, 19, 20, 21, 22, 23, 24, 25, 26, 27, 28, 29, 30, 31, 32, 33, 34, 35, 36, 37, 38, 39] (by decide +kernel) (by decide +kernel)) (goodIn_sub (fun _ h => List.mem_cons_of_mem _ (List.mem_append_right _ h)) (by decide +kernel))
set_option maxRecDepth 20000 in
theorem gL_hasFallen_X4_hasFallen : GoodIn wsL_hasFallen (wsV RL 58 RX4 yX4_hasFallen wsX4_hasFallen) := goodIn_app (goodIn_of _ (by decide +kernel)) ggL_hasFallen_X4_hasFallen
theorem dL_hasFallen_0 : decode cL_hasFallen 0 = .ok (.aload_n 2, 1) := by decide +kernel
theorem dL_hasFallen_1 : decode cL_hasFallen 1 = .ok (.iconst 0, 1) := by decide +kernel
theorem dL_hasFallen_2 : decode cL_hasFallen 2 = .ok (.aload_n 0, 1) := by decide +kernel
theorem dL_hasFallen_3 : decode cL_hasFallen 3 = .ok (.iload_n 1, 1) := by decide +kernel
theorem dL_hasFallen_4 : decode cL_hasFallen 4 = .ok (.invokevirtual 58, 3) := by decide +kernel
theorem dL_hasFallen_7 : decode cL_hasFallen 7 = .ok (.ifCond .eq 7, 3) := by decide +kernel
theorem dL_hasFallen_10 : decode cL_hasFallen 10 = .ok (.lconst 1, 1) := by decide +kernel
theorem dL_hasFallen_11 : decode cL_hasFallen 11 = .ok (.goto 4, 3) := by decide +kernel
theorem dL_hasFallen_14 : decode cL_hasFallen 14 = .ok (.lconst 0, 1) := by decide +kernel
theorem dL_hasFallen_15 : decode cL_hasFallen 15 = .ok (.lastore, 1) := by decide +kernel
theorem dL_hasFallen_16 : decode cL_hasFallen 16 = .ok (.goto 6, 3) := by decide +kernel
theorem dL_hasFallen_19 : decode cL_hasFallen 19 = .ok (.astore_n 3, 1) := by decide +kernel
theorem dL_hasFallen_20 : decode cL_hasFallen 20 = .ok (.iconst 1, 1) := by decide +kernel
theorem dL_hasFallen_21 : decode cL_hasFallen 21 = .ok (.ireturn, 1) := by decide +kernel
theorem dL_hasFallen_22 : decode cL_hasFallen 22 = .ok (.iconst 0, 1) := by decide +kernel
theorem dL_hasFallen_23 : decode cL_hasFallen 23 = .ok (.ireturn, 1) := by decide +kernel
set_option maxRecDepth 20000 in
theorem ggL_placeInLine_X4_placeInLine : GoodIn wsL_placeInLine wsX4_placeInLine := goodIn_ca (goodIn_r _ [6, 7, 8, 9, 10, 5, 11, 12, 13, 14, 15, 16, 17, 18, 19, 20, 21, 22, 23, 24, 25, 26, 27, 28, 29, 30, 31, 32, 33, 34, 35, 36, 37, 38, 39] (by decide +kernel) (by decide +kernel)) (goodIn_sub (fun _ h => List.mem_cons_of_mem _ (List.mem_append_right _ h)) (by decide +kernel))
set_option maxRecDepth 20000 in
theorem gL_placeInLine_X4_placeInLine : GoodIn wsL_placeInLine (wsV RL 61 RX4 yX4_placeInLine wsX4_placeInLine) := goodIn_app (goodIn_of _ (by decide +kernel)) ggL_placeInLine_X4_placeInLine
theorem dL_placeInLine_0 : decode cL_placeInLine 0 = .ok (.aload_n 2, 1) := by decide +kernel
theorem dL_placeInLine_1 : decode cL_placeInLine 1 = .ok (.iconst 0, 1) := by decide +kernel
theorem dL_placeInLine_2 : decode cL_placeInLine 2 = .ok (.aload_n 0, 1) := by decide +kernel
theorem dL_placeInLine_3 : decode cL_placeInLine 3 = .ok (.iload_n 1, 1) := by decide +kernel
theorem dL_placeInLine_4 : decode cL_placeInLine 4 = .ok (.invokevirtual 61, 3) := by decide +kernel
theorem dL_placeInLine_7 : decode cL_placeInLine 7 = .ok (.i2l, 1) := by decide +kernel
theorem dL_placeInLine_8 : decode cL_placeInLine 8 = .ok (.lastore, 1) := by decide +kernel
theorem dL_placeInLine_9 : decode cL_placeInLine 9 = .ok (.goto 6, 3) := by decide +kernel
theorem dL_placeInLine_12 : decode cL_placeInLine 12 = .ok (.astore_n 3, 1) := by decide +kernel
theorem dL_placeInLine_13 : decode cL_placeInLine 13 = .ok (.iconst 1, 1) := by decide +kernel
theorem dL_placeInLine_14 : decode cL_placeInLine 14 = .ok (.ireturn, 1) := by decide +kernel
theorem dL_placeInLine_15 : decode cL_placeInLine 15 = .ok (.iconst 0, 1) := by decide +kernel
theorem dL_placeInLine_16 : decode cL_placeInLine 16 = .ok (.ireturn, 1) := by decide +kernel
set_option maxRecDepth 20000 in
theorem ggL_ringsLeft_X4_ringsLeft : GoodIn wsL_ringsLeft wsX4_ringsLeft := goodIn_ca (goodIn_r _ [6, 7, 8, 9, 10, 5, 11, 12, 13, 14, 15, 16, 17, 18, 19, 20, 21, 22, 23, 24, 25, 26, 27, 28, 29, 30, 31, 32, 33, 34, 35, 36, 37, 38, 39, 40, 41, 42, 43, 44, 45, 46, 47, 48, 49, 50] (by decide +kernel) (by decide +kernel)) (goodIn_sub (fun _ h => List.mem_cons_of_mem _ (List.mem_append_right _ h)) (by decide +kernel))
set_option maxRecDepth 20000 in
theorem gL_ringsLeft_X4_ringsLeft : GoodIn wsL_ringsLeft (wsV RL 64 RX4 yX4_ringsLeft wsX4_ringsLeft) := goodIn_app (goodIn_of _ (by decide +kernel)) ggL_ringsLeft_X4_ringsLeft
theorem dL_ringsLeft_0 : decode cL_ringsLeft 0 = .ok (.aload_n 2, 1) := by decide +kernel
theorem dL_ringsLeft_1 : decode cL_ringsLeft 1 = .ok (.iconst 0, 1) := by decide +kernel
theorem dL_ringsLeft_2 : decode cL_ringsLeft 2 = .ok (.aload_n 0, 1) := by decide +kernel
theorem dL_ringsLeft_3 : decode cL_ringsLeft 3 = .ok (.iload_n 1, 1) := by decide +kernel
theorem dL_ringsLeft_4 : decode cL_ringsLeft 4 = .ok (.invokevirtual 64, 3) := by decide +kernel
theorem dL_ringsLeft_7 : decode cL_ringsLeft 7 = .ok (.i2l, 1) := by decide +kernel
theorem dL_ringsLeft_8 : decode cL_ringsLeft 8 = .ok (.lastore, 1) := by decide +kernel
theorem dL_ringsLeft_9 : decode cL_ringsLeft 9 = .ok (.goto 6, 3) := by decide +kernel
theorem dL_ringsLeft_12 : decode cL_ringsLeft 12 = .ok (.astore_n 3, 1) := by decide +kernel
theorem dL_ringsLeft_13 : decode cL_ringsLeft 13 = .ok (.iconst 1, 1) := by decide +kernel
theorem dL_ringsLeft_14 : decode cL_ringsLeft 14 = .ok (.ireturn, 1) := by decide +kernel
theorem dL_ringsLeft_15 : decode cL_ringsLeft 15 = .ok (.iconst 0, 1) := by decide +kernel
theorem dL_ringsLeft_16 : decode cL_ringsLeft 16 = .ok (.ireturn, 1) := by decide +kernel
set_option maxRecDepth 20000 in
theorem ggL_floorOf_X4_floorOf : GoodIn wsL_floorOf wsX4_floorOf := goodIn_ca (goodIn_r _ [6, 7, 8, 9, 10, 5, 11, 12, 13, 14, 15, 16, 17, 18, 19, 20, 21, 22, 23, 24, 25, 26, 27, 28, 29, 30, 31, 32, 33, 34, 35, 36, 37, 38, 39, 40, 41, 42, 43] (by decide +kernel) (by decide +kernel)) (goodIn_sub (fun _ h => List.mem_cons_of_mem _ (List.mem_append_right _ h)) (by decide +kernel))
set_option maxRecDepth 20000 in
theorem gL_floorOf_X4_floorOf : GoodIn wsL_floorOf (wsV RL 67 RX4 yX4_floorOf wsX4_floorOf) := goodIn_app (goodIn_of _ (by decide +kernel)) ggL_floorOf_X4_floorOf
theorem dL_floorOf_0 : decode cL_floorOf 0 = .ok (.aload_n 2, 1) := by decide +kernel
theorem dL_floorOf_1 : decode cL_floorOf 1 = .ok (.iconst 0, 1) := by decide +kernel
theorem dL_floorOf_2 : decode cL_floorOf 2 = .ok (.aload_n 0, 1) := by decide +kernel
theorem dL_floorOf_3 : decode cL_floorOf 3 = .ok (.iload_n 1, 1) := by decide +kernel
theorem dL_floorOf_4 : decode cL_floorOf 4 = .ok (.invokevirtual 67, 3) := by decide +kernel
theorem dL_floorOf_7 : decode cL_floorOf 7 = .ok (.i2l, 1) := by decide +kernel
theorem dL_floorOf_8 : decode cL_floorOf 8 = .ok (.lastore, 1) := by decide +kernel
theorem dL_floorOf_9 : decode cL_floorOf 9 = .ok (.goto 6, 3) := by decide +kernel
theorem dL_floorOf_12 : decode cL_floorOf 12 = .ok (.astore_n 3, 1) := by decide +kernel
theorem dL_floorOf_13 : decode cL_floorOf 13 = .ok (.iconst 1, 1) := by decide +kernel
theorem dL_floorOf_14 : decode cL_floorOf 14 = .ok (.ireturn, 1) := by decide +kernel
theorem dL_floorOf_15 : decode cL_floorOf 15 = .ok (.iconst 0, 1) := by decide +kernel
theorem dL_floorOf_16 : decode cL_floorOf 16 = .ok (.ireturn, 1) := by decide +kernel
set_option maxRecDepth 20000 in
theorem ggL_goesTo_X4_goesTo : GoodIn wsL_goesTo wsX4_goesTo := goodIn_ca (goodIn_r _ [6, 7, 8, 9, 10, 5, 11, 12, 13, 14, 15, 16, 17, 18, 19, 20, 21, 22, 23, 24, 25, 26, 27, 28, 29, 30, 31, 32, 33, 34, 35, 36, 37, 38, 39, 40, 41, 42, 43] (by decide +kernel) (by decide +kernel)) (goodIn_sub (fun _ h => List.mem_cons_of_mem _ (List.mem_append_right _ h)) (by decide +kernel))
set_option maxRecDepth 20000 in
theorem gL_goesTo_X4_goesTo : GoodIn wsL_goesTo (wsV RL 70 RX4 yX4_goesTo wsX4_goesTo) := goodIn_app (goodIn_of _ (by decide +kernel)) ggL_goesTo_X4_goesTo
theorem dL_goesTo_0 : decode cL_goesTo 0 = .ok (.aload_n 2, 1) := by decide +kernel
theorem dL_goesTo_1 : decode cL_goesTo 1 = .ok (.iconst 0, 1) := by decide +kernel
theorem dL_goesTo_2 : decode cL_goesTo 2 = .ok (.aload_n 0, 1) := by decide +kernel
theorem dL_goesTo_3 : decode cL_goesTo 3 = .ok (.iload_n 1, 1) := by decide +kernel
theorem dL_goesTo_4 : decode cL_goesTo 4 = .ok (.invokevirtual 70, 3) := by decide +kernel
theorem dL_goesTo_7 : decode cL_goesTo 7 = .ok (.i2l, 1) := by decide +kernel
theorem dL_goesTo_8 : decode cL_goesTo 8 = .ok (.lastore, 1) := by decide +kernel
theorem dL_goesTo_9 : decode cL_goesTo 9 = .ok (.goto 6, 3) := by decide +kernel
theorem dL_goesTo_12 : decode cL_goesTo 12 = .ok (.astore_n 3, 1) := by decide +kernel
theorem dL_goesTo_13 : decode cL_goesTo 13 = .ok (.iconst 1, 1) := by decide +kernel
theorem dL_goesTo_14 : decode cL_goesTo 14 = .ok (.ireturn, 1) := by decide +kernel
theorem dL_goesTo_15 : decode cL_goesTo 15 = .ok (.iconst 0, 1) := by decide +kernel
theorem dL_goesTo_16 : decode cL_goesTo 16 = .ok (.ireturn, 1) := by decide +kernel
set_option maxRecDepth 20000 in
theorem ggL_serves_X4_serves : GoodIn wsL_serves wsX4_serves := goodIn_ca (goodIn_r _ [6, 7, 8, 9, 10, 5, 11, 12, 13, 14, 15, 16, 17, 18, 19, 20, 21, 22, 23, 24, 25, 26, 27, 28, 29, 30, 31, 32, 33, 34, 35, 36, 37, 38, 39, 40, 41, 42, 43] (by decide +kernel) (by decide +kernel)) (goodIn_sub (fun _ h => List.mem_cons_of_mem _ (List.mem_append_right _ h)) (by decide +kernel))
set_option maxRecDepth 20000 in
theorem gL_serves_X4_serves : GoodIn wsL_serves (wsV RL 73 RX4 yX4_serves wsX4_serves) := goodIn_app (goodIn_of _ (by decide +kernel)) ggL_serves_X4_serves
theorem dL_serves_0 : decode cL_serves 0 = .ok (.aload_n 2, 1) := by decide +kernel
theorem dL_serves_1 : decode cL_serves 1 = .ok (.iconst 0, 1) := by decide +kernel
theorem dL_serves_2 : decode cL_serves 2 = .ok (.aload_n 0, 1) := by decide +kernel
theorem dL_serves_3 : decode cL_serves 3 = .ok (.iload_n 1, 1) := by decide +kernel
theorem dL_serves_4 : decode cL_serves 4 = .ok (.invokevirtual 73, 3) := by decide +kernel
theorem dL_serves_7 : decode cL_serves 7 = .ok (.i2l, 1) := by decide +kernel
theorem dL_serves_8 : decode cL_serves 8 = .ok (.lastore, 1) := by decide +kernel
theorem dL_serves_9 : decode cL_serves 9 = .ok (.goto 6, 3) := by decide +kernel
theorem dL_serves_12 : decode cL_serves 12 = .ok (.astore_n 3, 1) := by decide +kernel
theorem dL_serves_13 : decode cL_serves 13 = .ok (.iconst 1, 1) := by decide +kernel
theorem dL_serves_14 : decode cL_serves 14 = .ok (.ireturn, 1) := by decide +kernel
theorem dL_serves_15 : decode cL_serves 15 = .ok (.iconst 0, 1) := by decide +kernel
theorem dL_serves_16 : decode cL_serves 16 = .ok (.ireturn, 1) := by decide +kernel
set_option maxRecDepth 20000 in
theorem ggL_minutesLeft_X4_minutesLeft : GoodIn wsL_minutesLeft wsX4_minutesLeft := goodIn_ca (goodIn_r _ [6, 7, 8, 9, 10, 5, 11, 12, 13, 14, 15, 16, 17, 18, 19, 20, 21, 22, 23, 24, 25, 26, 27, 28, 29, 30, 31, 32, 33, 34, 35, 36, 37, 38, 39, 40, 41, 42, 43] (by decide +kernel) (by decide +kernel)) (goodIn_sub (fun _ h => List.mem_cons_of_mem _ (List.mem_append_right _ h)) (by decide +kernel))
set_option maxRecDepth 20000 in
theorem gL_minutesLeft_X4_minutesLeft : GoodIn wsL_minutesLeft (wsV RL 76 RX4 yX4_minutesLeft wsX4_minutesLeft) := goodIn_app (goodIn_of _ (by decide +kernel)) ggL_minutesLeft_X4_minutesLeft
theorem dL_minutesLeft_0 : decode cL_minutesLeft 0 = .ok (.aload_n 2, 1) := by decide +kernel
theorem dL_minutesLeft_1 : decode cL_minutesLeft 1 = .ok (.iconst 0, 1) := by decide +kernel
theorem dL_minutesLeft_2 : decode cL_minutesLeft 2 = .ok (.aload_n 0, 1) := by decide +kernel
theorem dL_minutesLeft_3 : decode cL_minutesLeft 3 = .ok (.iload_n 1, 1) := by decide +kernel
theorem dL_minutesLeft_4 : decode cL_minutesLeft 4 = .ok (.invokevirtual 76, 3) := by decide +kernel
theorem dL_minutesLeft_7 : decode cL_minutesLeft 7 = .ok (.i2l, 1) := by decide +kernel
theorem dL_minutesLeft_8 : decode cL_minutesLeft 8 = .ok (.lastore, 1) := by decide +kernel
theorem dL_minutesLeft_9 : decode cL_minutesLeft 9 = .ok (.goto 6, 3) := by decide +kernel
theorem dL_minutesLeft_12 : decode cL_minutesLeft 12 = .ok (.astore_n 3, 1) := by decide +kernel
theorem dL_minutesLeft_13 : decode cL_minutesLeft 13 = .ok (.iconst 1, 1) := by decide +kernel
theorem dL_minutesLeft_14 : decode cL_minutesLeft 14 = .ok (.ireturn, 1) := by decide +kernel
theorem dL_minutesLeft_15 : decode cL_minutesLeft 15 = .ok (.iconst 0, 1) := by decide +kernel
theorem dL_minutesLeft_16 : decode cL_minutesLeft 16 = .ok (.ireturn, 1) := by decide +kernel
set_option maxRecDepth 20000 in
theorem ggL_wayTo_X4_wayTo : GoodIn wsL_wayTo wsX4_wayTo := goodIn_ca (goodIn_r _ [6, 7, 8, 9, 10, 5, 11, 12, 13, 14, 15, 16, 17, 18, 19, 20, 21, 22, 23, 24, 25, 26, 27, 28, 29, 30, 31, 32, 33, 34, 35, 36, 37, 38, 39, 40, 41, 42, 43, 44, 45, 46, 47, 48, 49, 50, 51, 52, 53, 54, 55, 56, 57, 58] (by decide +kernel) (by decide +kernel)) (goodIn_sub (fun _ h => List.mem_cons_of_mem _ (List.mem_append_right _ h)) (by decide +kernel))
set_option maxRecDepth 20000 in
theorem gL_wayTo_X4_wayTo : GoodIn wsL_wayTo (wsV RL 79 RX4 yX4_wayTo wsX4_wayTo) := goodIn_app (goodIn_of _ (by decide +kernel)) ggL_wayTo_X4_wayTo
theorem dL_wayTo_0 : decode cL_wayTo 0 = .ok (.aload_n 3, 1) := by decide +kernel
theorem dL_wayTo_1 : decode cL_wayTo 1 = .ok (.iconst 0, 1) := by decide +kernel
theorem dL_wayTo_2 : decode cL_wayTo 2 = .ok (.aload_n 0, 1) := by decide +kernel
theorem dL_wayTo_3 : decode cL_wayTo 3 = .ok (.iload_n 1, 1) := by decide +kernel
theorem dL_wayTo_4 : decode cL_wayTo 4 = .ok (.iload_n 2, 1) := by decide +kernel
theorem dL_wayTo_5 : decode cL_wayTo 5 = .ok (.invokevirtual 79, 3) := by decide +kernel
theorem dL_wayTo_8 : decode cL_wayTo 8 = .ok (.i2l, 1) := by decide +kernel
theorem dL_wayTo_9 : decode cL_wayTo 9 = .ok (.lastore, 1) := by decide +kernel
theorem dL_wayTo_10 : decode cL_wayTo 10 = .ok (.goto 7, 3) := by decide +kernel
theorem dL_wayTo_13 : decode cL_wayTo 13 = .ok (.astore 4, 2) := by decide +kernel
theorem dL_wayTo_15 : decode cL_wayTo 15 = .ok (.iconst 1, 1) := by decide +kernel
theorem dL_wayTo_16 : decode cL_wayTo 16 = .ok (.ireturn, 1) := by decide +kernel
theorem dL_wayTo_17 : decode cL_wayTo 17 = .ok (.iconst 0, 1) := by decide +kernel
theorem dL_wayTo_18 : decode cL_wayTo 18 = .ok (.ireturn, 1) := by decide +kernel
set_option maxRecDepth 20000 in
theorem ggL_nearestIdle_X4_nearestIdle : GoodIn wsL_nearestIdle wsX4_nearestIdle := goodIn_ca (goodIn_r _ [6, 7, 8, 9, 10, 5, 11, 12, 13, 14, 15, 16, 17, 18, 19, 20, 21, 22, 23, 24, 25, 26, 27, 28, 29, 30, 31, 32, 33, 34, 35, 36, 37, 38, 39, 40, 41, 42, 43, 44, 45, 46, 47, 48, 49, 50, 51, 52, 53, 54, 55, 56, 57] (by decide +kernel) (by decide +kernel)) (goodIn_sub (fun _ h => List.mem_cons_of_mem _ (List.mem_append_right _ h)) (by decide +kernel))
set_option maxRecDepth 20000 in
theorem gL_nearestIdle_X4_nearestIdle : GoodIn wsL_nearestIdle (wsV RL 82 RX4 yX4_nearestIdle wsX4_nearestIdle) := goodIn_app (goodIn_of _ (by decide +kernel)) ggL_nearestIdle_X4_nearestIdle
theorem dL_nearestIdle_0 : decode cL_nearestIdle 0 = .ok (.aload_n 2, 1) := by decide +kernel
theorem dL_nearestIdle_1 : decode cL_nearestIdle 1 = .ok (.iconst 0, 1) := by decide +kernel
theorem dL_nearestIdle_2 : decode cL_nearestIdle 2 = .ok (.aload_n 0, 1) := by decide +kernel
theorem dL_nearestIdle_3 : decode cL_nearestIdle 3 = .ok (.iload_n 1, 1) := by decide +kernel
theorem dL_nearestIdle_4 : decode cL_nearestIdle 4 = .ok (.invokevirtual 82, 3) := by decide +kernel
theorem dL_nearestIdle_7 : decode cL_nearestIdle 7 = .ok (.i2l, 1) := by decide +kernel
theorem dL_nearestIdle_8 : decode cL_nearestIdle 8 = .ok (.lastore, 1) := by decide +kernel
theorem dL_nearestIdle_9 : decode cL_nearestIdle 9 = .ok (.goto 6, 3) := by decide +kernel
theorem dL_nearestIdle_12 : decode cL_nearestIdle 12 = .ok (.astore_n 3, 1) := by decide +kernel
theorem dL_nearestIdle_13 : decode cL_nearestIdle 13 = .ok (.iconst 1, 1) := by decide +kernel
theorem dL_nearestIdle_14 : decode cL_nearestIdle 14 = .ok (.ireturn, 1) := by decide +kernel
theorem dL_nearestIdle_15 : decode cL_nearestIdle 15 = .ok (.iconst 0, 1) := by decide +kernel
theorem dL_nearestIdle_16 : decode cL_nearestIdle 16 = .ok (.ireturn, 1) := by decide +kernel
set_option maxRecDepth 20000 in
theorem ggL_minutesUntilServed_X4_minutesUntilServed : GoodIn wsL_minutesUntilServed wsX4_minutesUntilServed := goodIn_ca (goodIn_r _ [6, 7, 8, 9, 10, 11, 5, 12, 13, 14, 15, 16, 17, 18, 19, 20, 21, 22, 23, 24, 25, 26, 27, 28, 29, 30, 31, 32, 33, 34, 35, 36, 37, 38, 39, 40, 41, 42, 43, 44, 45, 46, 47, 48, 49, 50, 51, 52, 53, 54, 55, 56, 57, 58, 59, 60, 61, 62, 63, 64, 65, 66, 67, 68, 69, 70, 71, 72, 73, 74, 75, 76, 77, 78, 79, 80, 81, 82, 83, 84, 85, 86, 87, 88, 89, 90, 91, 92, 93, 94, 95, 96, 97, 98, 99, 100, 101, 102, 103, 104, 105, 106, 107, 108, 109, 110, 111, 112, 113, 114, 115, 116, 117, 118, 119, 120, 121, 122, 123, 124, 125, 126, 127, 128, 129, 130, 131, 132, 133, 134, 135, 136, 137, 138, 139, 140, 141, 142, 143, 144, 145, 146, 147, 148, 149, 150, 151, 152, 153, 154, 155, 156, 157, 158, 159, 160, 161, 162, 163, 164, 165, 166, 167, 168] (by decide +kernel) (by decide +kernel)) (goodIn_sub (fun _ h => List.mem_cons_of_mem _ (List.mem_append_right _ h)) (by decide +kernel))
set_option maxRecDepth 20000 in
theorem gL_minutesUntilServed_X4_minutesUntilServed : GoodIn wsL_minutesUntilServed (wsV RL 85 RX4 yX4_minutesUntilServed wsX4_minutesUntilServed) := goodIn_app (goodIn_of _ (by decide +kernel)) ggL_minutesUntilServed_X4_minutesUntilServed
theorem dL_minutesUntilServed_0 : decode cL_minutesUntilServed 0 = .ok (.aload_n 2, 1) := by decide +kernel
theorem dL_minutesUntilServed_1 : decode cL_minutesUntilServed 1 = .ok (.iconst 0, 1) := by decide +kernel
theorem dL_minutesUntilServed_2 : decode cL_minutesUntilServed 2 = .ok (.aload_n 0, 1) := by decide +kernel
theorem dL_minutesUntilServed_3 : decode cL_minutesUntilServed 3 = .ok (.iload_n 1, 1) := by decide +kernel
theorem dL_minutesUntilServed_4 : decode cL_minutesUntilServed 4 = .ok (.invokevirtual 85, 3) := by decide +kernel
theorem dL_minutesUntilServed_7 : decode cL_minutesUntilServed 7 = .ok (.i2l, 1) := by decide +kernel
theorem dL_minutesUntilServed_8 : decode cL_minutesUntilServed 8 = .ok (.lastore, 1) := by decide +kernel
theorem dL_minutesUntilServed_9 : decode cL_minutesUntilServed 9 = .ok (.goto 6, 3) := by decide +kernel
theorem dL_minutesUntilServed_12 : decode cL_minutesUntilServed 12 = .ok (.astore_n 3, 1) := by decide +kernel
theorem dL_minutesUntilServed_13 : decode cL_minutesUntilServed 13 = .ok (.iconst 1, 1) := by decide +kernel
theorem dL_minutesUntilServed_14 : decode cL_minutesUntilServed 14 = .ok (.ireturn, 1) := by decide +kernel
theorem dL_minutesUntilServed_15 : decode cL_minutesUntilServed 15 = .ok (.iconst 0, 1) := by decide +kernel
theorem dL_minutesUntilServed_16 : decode cL_minutesUntilServed 16 = .ok (.ireturn, 1) := by decide +kernel
set_option maxRecDepth 20000 in
theorem ggL_servedIn_X4_servedIn : GoodIn wsL_servedIn wsX4_servedIn := goodIn_ca (goodIn_r _ [6, 7, 8, 9, 10, 5, 11, 12, 13, 14, 15, 16, 17, 18, 19, 20, 21, 22, 23, 24, 25, 26, 27, 28, 29, 30, 31, 32, 33, 34, 35, 36, 37, 38, 39, 40, 41, 42, 43, 44, 45, 46, 47, 48, 49, 50, 51, 52, 53, 54, 55, 56, 57, 58, 59, 60, 61, 62, 63, 64, 65, 66, 67, 68, 69, 70, 71, 72, 73, 74, 75, 76, 77, 78, 79, 80, 81, 82, 83, 84, 85, 86, 87, 88, 89, 90, 91, 92, 93, 94, 95, 96, 97, 98, 99, 100, 101, 102, 103, 104, 105, 106, 107, 108, 109, 110, 111, 112, 113, 114, 115, 116, 117, 118, 119, 120, 121, 122, 123, 124, 125, 126, 127, 128, 129, 130, 131, 132, 133, 134, 135, 136, 137, 138, 139, 140, 141, 142, 143, 144, 145, 146, 147, 148, 149, 150, 151, 152, 153, 154, 155, 156, 157, 158, 159, 160, 161, 162, 163, 164, 165, 166, 167, 168, 169, 170] (by decide +kernel) (by decide +kernel)) (goodIn_sub (fun _ h => List.mem_cons_of_mem _ (List.mem_append_right _ h)) (by decide +kernel))
set_option maxRecDepth 20000 in
theorem gL_servedIn_X4_servedIn : GoodIn wsL_servedIn (wsV RL 88 RX4 yX4_servedIn wsX4_servedIn) := goodIn_app (goodIn_of _ (by decide +kernel)) ggL_servedIn_X4_servedIn
theorem dL_servedIn_0 : decode cL_servedIn 0 = .ok (.aload_n 2, 1) := by decide +kernel
theorem dL_servedIn_1 : decode cL_servedIn 1 = .ok (.iconst 0, 1) := by decide +kernel
theorem dL_servedIn_2 : decode cL_servedIn 2 = .ok (.aload_n 0, 1) := by decide +kernel
theorem dL_servedIn_3 : decode cL_servedIn 3 = .ok (.iload_n 1, 1) := by decide +kernel
theorem dL_servedIn_4 : decode cL_servedIn 4 = .ok (.invokevirtual 88, 3) := by decide +kernel
theorem dL_servedIn_7 : decode cL_servedIn 7 = .ok (.i2l, 1) := by decide +kernel
theorem dL_servedIn_8 : decode cL_servedIn 8 = .ok (.lastore, 1) := by decide +kernel
theorem dL_servedIn_9 : decode cL_servedIn 9 = .ok (.goto 6, 3) := by decide +kernel
theorem dL_servedIn_12 : decode cL_servedIn 12 = .ok (.astore_n 3, 1) := by decide +kernel
theorem dL_servedIn_13 : decode cL_servedIn 13 = .ok (.iconst 1, 1) := by decide +kernel
theorem dL_servedIn_14 : decode cL_servedIn 14 = .ok (.ireturn, 1) := by decide +kernel
theorem dL_servedIn_15 : decode cL_servedIn 15 = .ok (.iconst 0, 1) := by decide +kernel
theorem dL_servedIn_16 : decode cL_servedIn 16 = .ok (.ireturn, 1) := by decide +kernel
set_option maxRecDepth 20000 in
theorem ggL_bestToCross_X4_bestToCross : GoodIn wsL_bestToCross wsX4_bestToCross := goodIn_ca (goodIn_r _ [6, 7, 8, 9, 10, 11, 5, 12, 13, 14, 15, 16, 17, 18, 19, 20, 21, 22, 23, 24, 25, 26, 27, 28, 29, 30, 31, 32, 33, 34, 35, 36, 37, 38, 39, 40, 41, 42, 43, 44, 45, 46, 47, 48, 49, 50, 51, 52, 53, 54, 55, 56, 57, 58, 59, 60, 61, 62, 63, 64, 65, 66, 67, 68, 69, 70, 71, 72, 73, 74, 75, 76, 77, 78, 79, 80, 81, 82, 83, 84, 85, 86, 87, 88, 89, 90, 91, 92, 93, 94, 95, 96, 97, 98, 99, 100, 101, 102, 103, 104, 105, 106, 107, 108, 109, 110, 111, 112, 113, 114, 115, 116, 117, 118, 119, 120, 121, 122, 123, 124, 125, 126, 127, 128, 129, 130, 131, 132, 133, 134, 135, 136, 137, 138, 139, 140, 141, 142, 143, 144, 145, 146, 147, 148, 149, 150, 151, 152, 153, 154, 155, 156, 157, 158, 159, 160, 161, 162, 163, 164, 165, 166, 167, 168, 169, 170, 171, 172] (by decide +kernel) (by decide +kernel)) (goodIn_sub (fun _ h => List.mem_cons_of_mem _ (List.mem_append_right _ h)) (by decide +kernel))
set_option maxRecDepth 20000 in
theorem gL_bestToCross_X4_bestToCross : GoodIn wsL_bestToCross (wsV RL 91 RX4 yX4_bestToCross wsX4_bestToCross) := goodIn_app (goodIn_of _ (by decide +kernel)) ggL_bestToCross_X4_bestToCross
theorem dL_bestToCross_0 : decode cL_bestToCross 0 = .ok (.aload_n 2, 1) := by decide +kernel
theorem dL_bestToCross_1 : decode cL_bestToCross 1 = .ok (.iconst 0, 1) := by decide +kernel
theorem dL_bestToCross_2 : decode cL_bestToCross 2 = .ok (.aload_n 0, 1) := by decide +kernel
theorem dL_bestToCross_3 : decode cL_bestToCross 3 = .ok (.iload_n 1, 1) := by decide +kernel
theorem dL_bestToCross_4 : decode cL_bestToCross 4 = .ok (.invokevirtual 91, 3) := by decide +kernel
theorem dL_bestToCross_7 : decode cL_bestToCross 7 = .ok (.i2l, 1) := by decide +kernel
theorem dL_bestToCross_8 : decode cL_bestToCross 8 = .ok (.lastore, 1) := by decide +kernel
theorem dL_bestToCross_9 : decode cL_bestToCross 9 = .ok (.goto 6, 3) := by decide +kernel
theorem dL_bestToCross_12 : decode cL_bestToCross 12 = .ok (.astore_n 3, 1) := by decide +kernel
theorem dL_bestToCross_13 : decode cL_bestToCross 13 = .ok (.iconst 1, 1) := by decide +kernel
theorem dL_bestToCross_14 : decode cL_bestToCross 14 = .ok (.ireturn, 1) := by decide +kernel
theorem dL_bestToCross_15 : decode cL_bestToCross 15 = .ok (.iconst 0, 1) := by decide +kernel
theorem dL_bestToCross_16 : decode cL_bestToCross 16 = .ok (.ireturn, 1) := by decide +kernel
