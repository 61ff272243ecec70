set_option maxRecDepth 20000 in
theorem ggX4_init_X0_init : GoodIn wsX4_init wsX0_init := goodIn_r _ [11, 12, 2, 3, 13, 14, 15, 16, 17, 18, 19, 20, 21, 22, 23, 24, 25, 26, 27, 28, 29, 30, 31, 32, 33, 34, 35, 36, 37, 38, 39, 40, 41, 42, 43, 44, 45, 46, 47, 48, 49, 50, 51, 52, 53, 54, 55, 56, 57, 58, 59, 60, 61, 62, 63, 64, 65, 66, 67, 70, 71, 72, 73, 74, 75, 76, 77, 78] (by decide +kernel) (by decide +kernel)
set_option maxRecDepth 20000 in
theorem gX4_init_X0_init : GoodIn wsX4_init (wsX0_init) := ggX4_init_X0_init
theorem dX4_init_0 : decode cX4_init 0 = .ok (.aload_n 0, 1) := by decide +kernel
theorem dX4_init_1 : decode cX4_init 1 = .ok (.invokespecial 1, 3) := by decide +kernel
theorem dX4_init_4 : decode cX4_init 4 = .ok (.aload_n 0, 1) := by decide +kernel
theorem dX4_init_5 : decode cX4_init 5 = .ok (.new 7, 3) := by decide +kernel
theorem dX4_init_8 : decode cX4_init 8 = .ok (.dup, 1) := by decide +kernel
theorem dX4_init_9 : decode cX4_init 9 = .ok (.invokespecial 9, 3) := by decide +kernel
theorem dX4_init_12 : decode cX4_init 12 = .ok (.putfield 10, 3) := by decide +kernel
theorem dX4_init_15 : decode cX4_init 15 = .ok (.aload_n 0, 1) := by decide +kernel
theorem dX4_init_16 : decode cX4_init 16 = .ok (.new 7, 3) := by decide +kernel
theorem dX4_init_19 : decode cX4_init 19 = .ok (.dup, 1) := by decide +kernel
theorem dX4_init_20 : decode cX4_init 20 = .ok (.invokespecial 9, 3) := by decide +kernel
theorem dX4_init_23 : decode cX4_init 23 = .ok (.putfield 16, 3) := by decide +kernel
theorem dX4_init_26 : decode cX4_init 26 = .ok (.return_, 1) := by decide +kernel
set_option maxRecDepth 20000 in
theorem ggX4_addRoom_X4_isWithin : GoodIn wsX4_addRoom wsX4_isWithin := goodIn_r _ [9] (by decide +kernel) (by decide +kernel)
set_option maxRecDepth 20000 in
theorem gX4_addRoom_X4_isWithin : GoodIn wsX4_addRoom (va_wsS RX4 19 yX4_isWithin wsX4_isWithin) := goodIn_app (goodIn_of _ (by decide +kernel)) ggX4_addRoom_X4_isWithin
set_option maxRecDepth 20000 in
theorem ggX4_addRoom_X0_openRoom : GoodIn wsX4_addRoom wsX0_openRoom := goodIn_r _ [14, 15, 16, 17, 18, 19, 20, 21, 22, 23, 24, 25, 26, 27, 30, 31, 32, 33, 34, 35, 36, 37, 38, 39, 40, 41, 42, 43, 44, 45] (by decide +kernel) (by decide +kernel)
set_option maxRecDepth 20000 in
theorem gX4_addRoom_X0_openRoom : GoodIn wsX4_addRoom (wsV RX4 39 RX0 yX0_openRoom wsX0_openRoom) := goodIn_app (goodIn_of _ (by decide +kernel)) ggX4_addRoom_X0_openRoom
theorem dX4_addRoom_0 : decode cX4_addRoom 0 = .ok (.iload_n 1, 1) := by decide +kernel
theorem dX4_addRoom_1 : decode cX4_addRoom 1 = .ok (.iconst 0, 1) := by decide +kernel
theorem dX4_addRoom_2 : decode cX4_addRoom 2 = .ok (.iconst 5, 1) := by decide +kernel
theorem dX4_addRoom_3 : decode cX4_addRoom 3 = .ok (.invokestatic 19, 3) := by decide +kernel
theorem dX4_addRoom_6 : decode cX4_addRoom 6 = .ok (.ifCond .eq 23, 3) := by decide +kernel
theorem dX4_addRoom_9 : decode cX4_addRoom 9 = .ok (.iload_n 2, 1) := by decide +kernel
theorem dX4_addRoom_10 : decode cX4_addRoom 10 = .ok (.iconst 1, 1) := by decide +kernel
theorem dX4_addRoom_11 : decode cX4_addRoom 11 = .ok (.bipush 9, 2) := by decide +kernel
theorem dX4_addRoom_13 : decode cX4_addRoom 13 = .ok (.invokestatic 19, 3) := by decide +kernel
theorem dX4_addRoom_16 : decode cX4_addRoom 16 = .ok (.ifCond .eq 13, 3) := by decide +kernel
theorem dX4_addRoom_19 : decode cX4_addRoom 19 = .ok (.iload_n 3, 1) := by decide +kernel
theorem dX4_addRoom_20 : decode cX4_addRoom 20 = .ok (.iconst 1, 1) := by decide +kernel
theorem dX4_addRoom_21 : decode cX4_addRoom 21 = .ok (.bipush 9, 2) := by decide +kernel
theorem dX4_addRoom_23 : decode cX4_addRoom 23 = .ok (.invokestatic 19, 3) := by decide +kernel
theorem dX4_addRoom_26 : decode cX4_addRoom 26 = .ok (.ifCond .ne 13, 3) := by decide +kernel
theorem dX4_addRoom_29 : decode cX4_addRoom 29 = .ok (.new 23, 3) := by decide +kernel
theorem dX4_addRoom_32 : decode cX4_addRoom 32 = .ok (.dup, 1) := by decide +kernel
theorem dX4_addRoom_33 : decode cX4_addRoom 33 = .ok (.ldc 25, 2) := by decide +kernel
theorem dX4_addRoom_35 : decode cX4_addRoom 35 = .ok (.invokespecial 27, 3) := by decide +kernel
theorem dX4_addRoom_38 : decode cX4_addRoom 38 = .ok (.athrow, 1) := by decide +kernel
theorem dX4_addRoom_39 : decode cX4_addRoom 39 = .ok (.aload_n 0, 1) := by decide +kernel
theorem dX4_addRoom_40 : decode cX4_addRoom 40 = .ok (.getfield 10, 3) := by decide +kernel
theorem dX4_addRoom_43 : decode cX4_addRoom 43 = .ok (.getfield 30, 3) := by decide +kernel
theorem dX4_addRoom_46 : decode cX4_addRoom 46 = .ok (.bipush 12, 2) := by decide +kernel
theorem dX4_addRoom_48 : decode cX4_addRoom 48 = .ok (.if_icmp .lt 13, 3) := by decide +kernel
theorem dX4_addRoom_51 : decode cX4_addRoom 51 = .ok (.new 34, 3) := by decide +kernel
theorem dX4_addRoom_54 : decode cX4_addRoom 54 = .ok (.dup, 1) := by decide +kernel
theorem dX4_addRoom_55 : decode cX4_addRoom 55 = .ok (.ldc 36, 2) := by decide +kernel
theorem dX4_addRoom_57 : decode cX4_addRoom 57 = .ok (.invokespecial 38, 3) := by decide +kernel
theorem dX4_addRoom_60 : decode cX4_addRoom 60 = .ok (.athrow, 1) := by decide +kernel
theorem dX4_addRoom_61 : decode cX4_addRoom 61 = .ok (.aload_n 0, 1) := by decide +kernel
theorem dX4_addRoom_62 : decode cX4_addRoom 62 = .ok (.getfield 10, 3) := by decide +kernel
theorem dX4_addRoom_65 : decode cX4_addRoom 65 = .ok (.iload_n 1, 1) := by decide +kernel
theorem dX4_addRoom_66 : decode cX4_addRoom 66 = .ok (.iload_n 2, 1) := by decide +kernel
theorem dX4_addRoom_67 : decode cX4_addRoom 67 = .ok (.iload_n 3, 1) := by decide +kernel
theorem dX4_addRoom_68 : decode cX4_addRoom 68 = .ok (.invokevirtual 39, 3) := by decide +kernel
theorem dX4_addRoom_71 : decode cX4_addRoom 71 = .ok (.ireturn, 1) := by decide +kernel
set_option maxRecDepth 20000 in
theorem ggX4_addServant_X4_isWithin : GoodIn wsX4_addServant wsX4_isWithin := goodIn_r _ [9] (by decide +kernel) (by decide +kernel)
set_option maxRecDepth 20000 in
theorem gX4_addServant_X4_isWithin : GoodIn wsX4_addServant (va_wsS RX4 19 yX4_isWithin wsX4_isWithin) := goodIn_app (goodIn_of _ (by decide +kernel)) ggX4_addServant_X4_isWithin
set_option maxRecDepth 20000 in
theorem ggX4_addServant_X3_hire : GoodIn wsX4_addServant wsX3_hire := goodIn_r _ [14, 15, 16, 17, 18, 19, 20, 21, 22, 23, 24, 25, 26, 13, 27, 28, 29, 30, 48, 49, 50, 51, 52, 53, 54] (by decide +kernel) (by decide +kernel)
set_option maxRecDepth 20000 in
theorem gX4_addServant_X3_hire : GoodIn wsX4_addServant (wsV RX4 56 RX3 yX3_hire wsX3_hire) := goodIn_app (goodIn_of _ (by decide +kernel)) ggX4_addServant_X3_hire
theorem dX4_addServant_0 : decode cX4_addServant 0 = .ok (.iload_n 1, 1) := by decide +kernel
theorem dX4_addServant_1 : decode cX4_addServant 1 = .ok (.iconst 1, 1) := by decide +kernel
theorem dX4_addServant_2 : decode cX4_addServant 2 = .ok (.iconst 4, 1) := by decide +kernel
theorem dX4_addServant_3 : decode cX4_addServant 3 = .ok (.invokestatic 19, 3) := by decide +kernel
theorem dX4_addServant_6 : decode cX4_addServant 6 = .ok (.ifCond .ne 13, 3) := by decide +kernel
theorem dX4_addServant_9 : decode cX4_addServant 9 = .ok (.new 23, 3) := by decide +kernel
theorem dX4_addServant_12 : decode cX4_addServant 12 = .ok (.dup, 1) := by decide +kernel
theorem dX4_addServant_13 : decode cX4_addServant 13 = .ok (.ldc 43, 2) := by decide +kernel
theorem dX4_addServant_15 : decode cX4_addServant 15 = .ok (.invokespecial 27, 3) := by decide +kernel
theorem dX4_addServant_18 : decode cX4_addServant 18 = .ok (.athrow, 1) := by decide +kernel
theorem dX4_addServant_19 : decode cX4_addServant 19 = .ok (.aload_n 0, 1) := by decide +kernel
theorem dX4_addServant_20 : decode cX4_addServant 20 = .ok (.getfield 10, 3) := by decide +kernel
theorem dX4_addServant_23 : decode cX4_addServant 23 = .ok (.getfield 45, 3) := by decide +kernel
theorem dX4_addServant_26 : decode cX4_addServant 26 = .ok (.getfield 49, 3) := by decide +kernel
theorem dX4_addServant_29 : decode cX4_addServant 29 = .ok (.bipush 6, 2) := by decide +kernel
theorem dX4_addServant_31 : decode cX4_addServant 31 = .ok (.if_icmp .lt 13, 3) := by decide +kernel
theorem dX4_addServant_34 : decode cX4_addServant 34 = .ok (.new 34, 3) := by decide +kernel
theorem dX4_addServant_37 : decode cX4_addServant 37 = .ok (.dup, 1) := by decide +kernel
theorem dX4_addServant_38 : decode cX4_addServant 38 = .ok (.ldc 54, 2) := by decide +kernel
theorem dX4_addServant_40 : decode cX4_addServant 40 = .ok (.invokespecial 38, 3) := by decide +kernel
theorem dX4_addServant_43 : decode cX4_addServant 43 = .ok (.athrow, 1) := by decide +kernel
theorem dX4_addServant_44 : decode cX4_addServant 44 = .ok (.aload_n 0, 1) := by decide +kernel
theorem dX4_addServant_45 : decode cX4_addServant 45 = .ok (.getfield 10, 3) := by decide +kernel
theorem dX4_addServant_48 : decode cX4_addServant 48 = .ok (.getfield 45, 3) := by decide +kernel
theorem dX4_addServant_51 : decode cX4_addServant 51 = .ok (.iload_n 1, 1) := by decide +kernel
theorem dX4_addServant_52 : decode cX4_addServant 52 = .ok (.invokevirtual 56, 3) := by decide +kernel
theorem dX4_addServant_55 : decode cX4_addServant 55 = .ok (.ireturn, 1) := by decide +kernel
set_option maxRecDepth 20000 in
theorem ggX4_ring_X4_requireRoom : GoodIn wsX4_ring wsX4_requireRoom := goodIn_ca (goodIn_r _ [6, 7, 8, 1, 49, 50, 51, 52, 53, 54, 55, 56, 57, 58, 59, 60, 61, 62, 63, 64, 65] (by decide +kernel) (by decide +kernel)) (goodIn_sub (fun _ h => List.mem_cons_of_mem _ (List.mem_append_right _ h)) (by decide +kernel))
set_option maxRecDepth 20000 in
theorem gX4_ring_X4_requireRoom : GoodIn wsX4_ring (wsV RX4 60 RX4 yX4_requireRoom wsX4_requireRoom) := goodIn_app (goodIn_of _ (by decide +kernel)) ggX4_ring_X4_requireRoom
set_option maxRecDepth 20000 in
theorem ggX4_ring_X0_pullBell : GoodIn wsX4_ring wsX0_pullBell := goodIn_r _ [13, 14, 15, 16, 17, 18, 19, 20, 21, 22, 23, 24, 25, 26, 27, 12, 28, 29, 30, 31, 32, 33, 34, 35, 36, 37, 38, 39, 51, 52, 53, 54, 55, 56, 57, 58, 59, 60, 61, 62, 63, 64, 65, 66, 67, 68] (by decide +kernel) (by decide +kernel)
set_option maxRecDepth 20000 in
theorem gX4_ring_X0_pullBell : GoodIn wsX4_ring (wsV RX4 64 RX0 yX0_pullBell wsX0_pullBell) := goodIn_app (goodIn_of _ (by decide +kernel)) ggX4_ring_X0_pullBell
set_option maxRecDepth 20000 in
theorem ggX4_ring_X0_isWaiting : GoodIn wsX4_ring wsX0_isWaiting := goodIn_r _ [43, 44, 20, 21, 22, 23, 24, 25, 51, 52, 53, 54, 55, 56, 57, 58, 59, 60, 61, 62, 63, 64, 65, 66] (by decide +kernel) (by decide +kernel)
set_option maxRecDepth 20000 in
theorem gX4_ring_X0_isWaiting : GoodIn wsX4_ring (wsV RX4 68 RX0 yX0_isWaiting wsX0_isWaiting) := goodIn_app (goodIn_of _ (by decide +kernel)) ggX4_ring_X0_isWaiting
set_option maxRecDepth 20000 in
theorem ggX4_ring_X2_set : GoodIn wsX4_ring wsX2_set := goodIn_r _ [48, 25, 66] (by decide +kernel) (by decide +kernel)
set_option maxRecDepth 20000 in
theorem gX4_ring_X2_set : GoodIn wsX4_ring (wsV RX4 75 RX2 yX2_set wsX2_set) := goodIn_app (goodIn_of _ (by decide +kernel)) ggX4_ring_X2_set
theorem dX4_ring_0 : decode cX4_ring 0 = .ok (.aload_n 0, 1) := by decide +kernel
theorem dX4_ring_1 : decode cX4_ring 1 = .ok (.iload_n 1, 1) := by decide +kernel
theorem dX4_ring_2 : decode cX4_ring 2 = .ok (.invokevirtual 60, 3) := by decide +kernel
theorem dX4_ring_5 : decode cX4_ring 5 = .ok (.aload_n 0, 1) := by decide +kernel
theorem dX4_ring_6 : decode cX4_ring 6 = .ok (.getfield 10, 3) := by decide +kernel
theorem dX4_ring_9 : decode cX4_ring 9 = .ok (.iload_n 1, 1) := by decide +kernel
theorem dX4_ring_10 : decode cX4_ring 10 = .ok (.invokevirtual 64, 3) := by decide +kernel
theorem dX4_ring_13 : decode cX4_ring 13 = .ok (.istore_n 2, 1) := by decide +kernel
theorem dX4_ring_14 : decode cX4_ring 14 = .ok (.aload_n 0, 1) := by decide +kernel
theorem dX4_ring_15 : decode cX4_ring 15 = .ok (.getfield 10, 3) := by decide +kernel
theorem dX4_ring_18 : decode cX4_ring 18 = .ok (.iload_n 1, 1) := by decide +kernel
theorem dX4_ring_19 : decode cX4_ring 19 = .ok (.invokevirtual 68, 3) := by decide +kernel
theorem dX4_ring_22 : decode cX4_ring 22 = .ok (.ifCond .ne 15, 3) := by decide +kernel
theorem dX4_ring_25 : decode cX4_ring 25 = .ok (.aload_n 0, 1) := by decide +kernel
theorem dX4_ring_26 : decode cX4_ring 26 = .ok (.getfield 10, 3) := by decide +kernel
theorem dX4_ring_29 : decode cX4_ring 29 = .ok (.getfield 71, 3) := by decide +kernel
theorem dX4_ring_32 : decode cX4_ring 32 = .ok (.iload_n 1, 1) := by decide +kernel
theorem dX4_ring_33 : decode cX4_ring 33 = .ok (.iconst 0, 1) := by decide +kernel
theorem dX4_ring_34 : decode cX4_ring 34 = .ok (.invokevirtual 75, 3) := by decide +kernel
theorem dX4_ring_37 : decode cX4_ring 37 = .ok (.iload_n 2, 1) := by decide +kernel
theorem dX4_ring_38 : decode cX4_ring 38 = .ok (.ireturn, 1) := by decide +kernel
set_option maxRecDepth 20000 in
theorem ggX4_cross_X4_requireRoom : GoodIn wsX4_cross wsX4_requireRoom := goodIn_ca (goodIn_r _ [8, 9, 10, 3, 28, 29, 30, 31, 32, 33, 34, 35, 36, 37, 38, 39, 40, 41, 42, 43, 44] (by decide +kernel) (by decide +kernel)) (goodIn_sub (fun _ h => List.mem_cons_of_mem _ (List.mem_append_right _ h)) (by decide +kernel))
set_option maxRecDepth 20000 in
theorem gX4_cross_X4_requireRoom : GoodIn wsX4_cross (wsV RX4 60 RX4 yX4_requireRoom wsX4_requireRoom) := goodIn_app (goodIn_of _ (by decide +kernel)) ggX4_cross_X4_requireRoom
set_option maxRecDepth 20000 in
theorem ggX4_cross_X0_swapWires : GoodIn wsX4_cross wsX0_swapWires := goodIn_r _ [15, 16, 17, 18, 19, 20, 21, 22, 23, 24, 25, 26, 30, 31, 32, 33, 34, 35, 36, 37, 38, 39, 40, 41, 42, 43, 44, 45] (by decide +kernel) (by decide +kernel)
set_option maxRecDepth 20000 in
theorem gX4_cross_X0_swapWires : GoodIn wsX4_cross (wsV RX4 83 RX0 yX0_swapWires wsX0_swapWires) := goodIn_app (goodIn_of _ (by decide +kernel)) ggX4_cross_X0_swapWires
set_option maxRecDepth 20000 in
theorem ggX4_cross_X2_get : GoodIn wsX4_cross wsX2_get := goodIn_r _ [21, 22, 45] (by decide +kernel) (by decide +kernel)
set_option maxRecDepth 20000 in
theorem gX4_cross_X2_get : GoodIn wsX4_cross (wsV RX4 89 RX2 yX2_get wsX2_get) := goodIn_app (goodIn_of _ (by decide +kernel)) ggX4_cross_X2_get
theorem dX4_cross_0 : decode cX4_cross 0 = .ok (.aload_n 0, 1) := by decide +kernel
theorem dX4_cross_1 : decode cX4_cross 1 = .ok (.iload_n 1, 1) := by decide +kernel
theorem dX4_cross_2 : decode cX4_cross 2 = .ok (.invokevirtual 60, 3) := by decide +kernel
theorem dX4_cross_5 : decode cX4_cross 5 = .ok (.aload_n 0, 1) := by decide +kernel
theorem dX4_cross_6 : decode cX4_cross 6 = .ok (.iload_n 2, 1) := by decide +kernel
theorem dX4_cross_7 : decode cX4_cross 7 = .ok (.invokevirtual 60, 3) := by decide +kernel
theorem dX4_cross_10 : decode cX4_cross 10 = .ok (.iload_n 1, 1) := by decide +kernel
theorem dX4_cross_11 : decode cX4_cross 11 = .ok (.iload_n 2, 1) := by decide +kernel
theorem dX4_cross_12 : decode cX4_cross 12 = .ok (.if_icmp .ne 13, 3) := by decide +kernel
theorem dX4_cross_15 : decode cX4_cross 15 = .ok (.new 23, 3) := by decide +kernel
theorem dX4_cross_18 : decode cX4_cross 18 = .ok (.dup, 1) := by decide +kernel
theorem dX4_cross_19 : decode cX4_cross 19 = .ok (.ldc 81, 2) := by decide +kernel
theorem dX4_cross_21 : decode cX4_cross 21 = .ok (.invokespecial 27, 3) := by decide +kernel
theorem dX4_cross_24 : decode cX4_cross 24 = .ok (.athrow, 1) := by decide +kernel
theorem dX4_cross_25 : decode cX4_cross 25 = .ok (.aload_n 0, 1) := by decide +kernel
theorem dX4_cross_26 : decode cX4_cross 26 = .ok (.getfield 10, 3) := by decide +kernel
theorem dX4_cross_29 : decode cX4_cross 29 = .ok (.iload_n 1, 1) := by decide +kernel
theorem dX4_cross_30 : decode cX4_cross 30 = .ok (.iload_n 2, 1) := by decide +kernel
theorem dX4_cross_31 : decode cX4_cross 31 = .ok (.invokevirtual 83, 3) := by decide +kernel
theorem dX4_cross_34 : decode cX4_cross 34 = .ok (.aload_n 0, 1) := by decide +kernel
theorem dX4_cross_35 : decode cX4_cross 35 = .ok (.getfield 10, 3) := by decide +kernel
theorem dX4_cross_38 : decode cX4_cross 38 = .ok (.getfield 86, 3) := by decide +kernel
theorem dX4_cross_41 : decode cX4_cross 41 = .ok (.iload_n 1, 1) := by decide +kernel
theorem dX4_cross_42 : decode cX4_cross 42 = .ok (.invokevirtual 89, 3) := by decide +kernel
theorem dX4_cross_45 : decode cX4_cross 45 = .ok (.ireturn, 1) := by decide +kernel
set_option maxRecDepth 20000 in
theorem ggX4_cut_X4_requireRoom : GoodIn wsX4_cut wsX4_requireRoom := goodIn_ca (goodIn_r _ [8, 9, 10, 3, 32, 33, 34, 35, 36, 37, 38, 39, 40, 41, 42, 43, 44, 45, 46, 47, 48] (by decide +kernel) (by decide +kernel)) (goodIn_sub (fun _ h => List.mem_cons_of_mem _ (List.mem_append_right _ h)) (by decide +kernel))
set_option maxRecDepth 20000 in
theorem gX4_cut_X4_requireRoom : GoodIn wsX4_cut (wsV RX4 60 RX4 yX4_requireRoom wsX4_requireRoom) := goodIn_app (goodIn_of _ (by decide +kernel)) ggX4_cut_X4_requireRoom
set_option maxRecDepth 20000 in
theorem ggX4_cut_X0_isWireCut : GoodIn wsX4_cut wsX0_isWireCut := goodIn_r _ [15, 16, 17, 18, 19, 20, 21, 22, 34, 35, 36, 37, 38, 39, 40, 41, 42, 43, 44, 45, 46, 47, 48, 49] (by decide +kernel) (by decide +kernel)
set_option maxRecDepth 20000 in
theorem gX4_cut_X0_isWireCut : GoodIn wsX4_cut (wsV RX4 92 RX0 yX0_isWireCut wsX0_isWireCut) := goodIn_app (goodIn_of _ (by decide +kernel)) ggX4_cut_X0_isWireCut
set_option maxRecDepth 20000 in
theorem ggX4_cut_X2_set : GoodIn wsX4_cut wsX2_set := goodIn_r _ [26, 22, 49] (by decide +kernel) (by decide +kernel)
set_option maxRecDepth 20000 in
theorem gX4_cut_X2_set : GoodIn wsX4_cut (wsV RX4 75 RX2 yX2_set wsX2_set) := goodIn_app (goodIn_of _ (by decide +kernel)) ggX4_cut_X2_set
set_option maxRecDepth 20000 in
theorem ggX4_cut_X0_countCutWires : GoodIn wsX4_cut wsX0_countCutWires := goodIn_r _ [30, 31, 16, 17, 18, 19, 20, 21, 22, 34, 35, 36, 37, 38, 39, 40, 41, 42, 43, 44, 45, 46, 47, 48, 49] (by decide +kernel) (by decide +kernel)
set_option maxRecDepth 20000 in
theorem gX4_cut_X0_countCutWires : GoodIn wsX4_cut (wsV RX4 100 RX0 yX0_countCutWires wsX0_countCutWires) := goodIn_app (goodIn_of _ (by decide +kernel)) ggX4_cut_X0_countCutWires
theorem dX4_cut_0 : decode cX4_cut 0 = .ok (.aload_n 0, 1) := by decide +kernel
theorem dX4_cut_1 : decode cX4_cut 1 = .ok (.iload_n 1, 1) := by decide +kernel
theorem dX4_cut_2 : decode cX4_cut 2 = .ok (.invokevirtual 60, 3) := by decide +kernel
theorem dX4_cut_5 : decode cX4_cut 5 = .ok (.aload_n 0, 1) := by decide +kernel
theorem dX4_cut_6 : decode cX4_cut 6 = .ok (.getfield 10, 3) := by decide +kernel
theorem dX4_cut_9 : decode cX4_cut 9 = .ok (.iload_n 1, 1) := by decide +kernel
theorem dX4_cut_10 : decode cX4_cut 10 = .ok (.invokevirtual 92, 3) := by decide +kernel
theorem dX4_cut_13 : decode cX4_cut 13 = .ok (.ifCond .eq 13, 3) := by decide +kernel
theorem dX4_cut_16 : decode cX4_cut 16 = .ok (.new 34, 3) := by decide +kernel
theorem dX4_cut_19 : decode cX4_cut 19 = .ok (.dup, 1) := by decide +kernel
theorem dX4_cut_20 : decode cX4_cut 20 = .ok (.ldc 95, 2) := by decide +kernel
theorem dX4_cut_22 : decode cX4_cut 22 = .ok (.invokespecial 38, 3) := by decide +kernel
theorem dX4_cut_25 : decode cX4_cut 25 = .ok (.athrow, 1) := by decide +kernel
theorem dX4_cut_26 : decode cX4_cut 26 = .ok (.aload_n 0, 1) := by decide +kernel
theorem dX4_cut_27 : decode cX4_cut 27 = .ok (.getfield 10, 3) := by decide +kernel
theorem dX4_cut_30 : decode cX4_cut 30 = .ok (.getfield 97, 3) := by decide +kernel
theorem dX4_cut_33 : decode cX4_cut 33 = .ok (.iload_n 1, 1) := by decide +kernel
theorem dX4_cut_34 : decode cX4_cut 34 = .ok (.iconst 1, 1) := by decide +kernel
theorem dX4_cut_35 : decode cX4_cut 35 = .ok (.invokevirtual 75, 3) := by decide +kernel
theorem dX4_cut_38 : decode cX4_cut 38 = .ok (.aload_n 0, 1) := by decide +kernel
theorem dX4_cut_39 : decode cX4_cut 39 = .ok (.getfield 10, 3) := by decide +kernel
theorem dX4_cut_42 : decode cX4_cut 42 = .ok (.invokevirtual 100, 3) := by decide +kernel
theorem dX4_cut_45 : decode cX4_cut 45 = .ok (.ireturn, 1) := by decide +kernel
set_option maxRecDepth 20000 in
theorem ggX4_mend_X4_requireRoom : GoodIn wsX4_mend wsX4_requireRoom := goodIn_ca (goodIn_r _ [8, 9, 10, 3, 32, 33, 34, 35, 36, 37, 38, 39, 40, 41, 42, 43, 44, 45, 46, 47, 48] (by decide +kernel) (by decide +kernel)) (goodIn_sub (fun _ h => List.mem_cons_of_mem _ (List.mem_append_right _ h)) (by decide +kernel))
set_option maxRecDepth 20000 in
theorem gX4_mend_X4_requireRoom : GoodIn wsX4_mend (wsV RX4 60 RX4 yX4_requireRoom wsX4_requireRoom) := goodIn_app (goodIn_of _ (by decide +kernel)) ggX4_mend_X4_requireRoom
set_option maxRecDepth 20000 in
theorem ggX4_mend_X0_isWireCut : GoodIn wsX4_mend wsX0_isWireCut := goodIn_r _ [15, 16, 17, 18, 19, 20, 21, 22, 34, 35, 36, 37, 38, 39, 40, 41, 42, 43, 44, 45, 46, 47, 48, 49] (by decide +kernel) (by decide +kernel)
set_option maxRecDepth 20000 in
theorem gX4_mend_X0_isWireCut : GoodIn wsX4_mend (wsV RX4 92 RX0 yX0_isWireCut wsX0_isWireCut) := goodIn_app (goodIn_of _ (by decide +kernel)) ggX4_mend_X0_isWireCut
set_option maxRecDepth 20000 in
theorem ggX4_mend_X2_set : GoodIn wsX4_mend wsX2_set := goodIn_r _ [26, 22, 49] (by decide +kernel) (by decide +kernel)
set_option maxRecDepth 20000 in
theorem gX4_mend_X2_set : GoodIn wsX4_mend (wsV RX4 75 RX2 yX2_set wsX2_set) := goodIn_app (goodIn_of _ (by decide +kernel)) ggX4_mend_X2_set
set_option maxRecDepth 20000 in
theorem ggX4_mend_X0_countCutWires : GoodIn wsX4_mend wsX0_countCutWires := goodIn_r _ [30, 31, 16, 17, 18, 19, 20, 21, 22, 34, 35, 36, 37, 38, 39, 40, 41, 42, 43, 44, 45, 46, 47, 48, 49] (by decide +kernel) (by decide +kernel)
set_option maxRecDepth 20000 in
theorem gX4_mend_X0_countCutWires : GoodIn wsX4_mend (wsV RX4 100 RX0 yX0_countCutWires wsX0_countCutWires) := goodIn_app (goodIn_of _ (by decide +kernel)) ggX4_mend_X0_countCutWires
theorem dX4_mend_0 : decode cX4_mend 0 = .ok (.aload_n 0, 1) := by decide +kernel
theorem dX4_mend_1 : decode cX4_mend 1 = .ok (.iload_n 1, 1) := by decide +kernel
theorem dX4_mend_2 : decode cX4_mend 2 = .ok (.invokevirtual 60, 3) := by decide +kernel
theorem dX4_mend_5 : decode cX4_mend 5 = .ok (.aload_n 0, 1) := by decide +kernel
theorem dX4_mend_6 : decode cX4_mend 6 = .ok (.getfield 10, 3) := by decide +kernel
theorem dX4_mend_9 : decode cX4_mend 9 = .ok (.iload_n 1, 1) := by decide +kernel
theorem dX4_mend_10 : decode cX4_mend 10 = .ok (.invokevirtual 92, 3) := by decide +kernel
theorem dX4_mend_13 : decode cX4_mend 13 = .ok (.ifCond .ne 13, 3) := by decide +kernel
theorem dX4_mend_16 : decode cX4_mend 16 = .ok (.new 34, 3) := by decide +kernel
theorem dX4_mend_19 : decode cX4_mend 19 = .ok (.dup, 1) := by decide +kernel
theorem dX4_mend_20 : decode cX4_mend 20 = .ok (.ldc 104, 2) := by decide +kernel
theorem dX4_mend_22 : decode cX4_mend 22 = .ok (.invokespecial 38, 3) := by decide +kernel
theorem dX4_mend_25 : decode cX4_mend 25 = .ok (.athrow, 1) := by decide +kernel
theorem dX4_mend_26 : decode cX4_mend 26 = .ok (.aload_n 0, 1) := by decide +kernel
theorem dX4_mend_27 : decode cX4_mend 27 = .ok (.getfield 10, 3) := by decide +kernel
theorem dX4_mend_30 : decode cX4_mend 30 = .ok (.getfield 97, 3) := by decide +kernel
theorem dX4_mend_33 : decode cX4_mend 33 = .ok (.iload_n 1, 1) := by decide +kernel
theorem dX4_mend_34 : decode cX4_mend 34 = .ok (.iconst 0, 1) := by decide +kernel
theorem dX4_mend_35 : decode cX4_mend 35 = .ok (.invokevirtual 75, 3) := by decide +kernel
theorem dX4_mend_38 : decode cX4_mend 38 = .ok (.aload_n 0, 1) := by decide +kernel
theorem dX4_mend_39 : decode cX4_mend 39 = .ok (.getfield 10, 3) := by decide +kernel
theorem dX4_mend_42 : decode cX4_mend 42 = .ok (.invokevirtual 100, 3) := by decide +kernel
theorem dX4_mend_45 : decode cX4_mend 45 = .ok (.ireturn, 1) := by decide +kernel
set_option maxRecDepth 20000 in
theorem ggX4_recharge_X4_isWithin : GoodIn wsX4_recharge wsX4_isWithin := goodIn_r _ [7] (by decide +kernel) (by decide +kernel)
set_option maxRecDepth 20000 in
theorem gX4_recharge_X4_isWithin : GoodIn wsX4_recharge (va_wsS RX4 19 yX4_isWithin wsX4_isWithin) := goodIn_app (goodIn_of _ (by decide +kernel)) ggX4_recharge_X4_isWithin
theorem dX4_recharge_0 : decode cX4_recharge 0 = .ok (.iload_n 1, 1) := by decide +kernel
theorem dX4_recharge_1 : decode cX4_recharge 1 = .ok (.iconst 0, 1) := by decide +kernel
theorem dX4_recharge_2 : decode cX4_recharge 2 = .ok (.sipush 500, 3) := by decide +kernel
theorem dX4_recharge_5 : decode cX4_recharge 5 = .ok (.invokestatic 19, 3) := by decide +kernel
theorem dX4_recharge_8 : decode cX4_recharge 8 = .ok (.ifCond .ne 13, 3) := by decide +kernel
theorem dX4_recharge_11 : decode cX4_recharge 11 = .ok (.new 23, 3) := by decide +kernel
theorem dX4_recharge_14 : decode cX4_recharge 14 = .ok (.dup, 1) := by decide +kernel
theorem dX4_recharge_15 : decode cX4_recharge 15 = .ok (.ldc 106, 2) := by decide +kernel
theorem dX4_recharge_17 : decode cX4_recharge 17 = .ok (.invokespecial 27, 3) := by decide +kernel
theorem dX4_recharge_20 : decode cX4_recharge 20 = .ok (.athrow, 1) := by decide +kernel
theorem dX4_recharge_21 : decode cX4_recharge 21 = .ok (.aload_n 0, 1) := by decide +kernel
theorem dX4_recharge_22 : decode cX4_recharge 22 = .ok (.getfield 10, 3) := by decide +kernel
theorem dX4_recharge_25 : decode cX4_recharge 25 = .ok (.getfield 108, 3) := by decide +kernel
theorem dX4_recharge_28 : decode cX4_recharge 28 = .ok (.istore_n 2, 1) := by decide +kernel
theorem dX4_recharge_29 : decode cX4_recharge 29 = .ok (.aload_n 0, 1) := by decide +kernel
theorem dX4_recharge_30 : decode cX4_recharge 30 = .ok (.getfield 10, 3) := by decide +kernel
theorem dX4_recharge_33 : decode cX4_recharge 33 = .ok (.iload_n 1, 1) := by decide +kernel
theorem dX4_recharge_34 : decode cX4_recharge 34 = .ok (.putfield 108, 3) := by decide +kernel
theorem dX4_recharge_37 : decode cX4_recharge 37 = .ok (.iload_n 2, 1) := by decide +kernel
theorem dX4_recharge_38 : decode cX4_recharge 38 = .ok (.ireturn, 1) := by decide +kernel
set_option maxRecDepth 20000 in
theorem ggX4_putUp_X4_requireRoom : GoodIn wsX4_putUp wsX4_requireRoom := goodIn_ca (goodIn_r _ [8, 9, 10, 3, 22, 23, 24, 25, 26, 27, 28, 29, 30, 31, 32, 33, 34, 35, 36, 37, 38] (by decide +kernel) (by decide +kernel)) (goodIn_sub (fun _ h => List.mem_cons_of_mem _ (List.mem_append_right _ h)) (by decide +kernel))
set_option maxRecDepth 20000 in
theorem gX4_putUp_X4_requireRoom : GoodIn wsX4_putUp (wsV RX4 60 RX4 yX4_requireRoom wsX4_requireRoom) := goodIn_app (goodIn_of _ (by decide +kernel)) ggX4_putUp_X4_requireRoom
set_option maxRecDepth 20000 in
theorem ggX4_putUp_X1_placeOf : GoodIn wsX4_putUp wsX1_placeOf := goodIn_r _ [15, 16, 17, 39, 40] (by decide +kernel) (by decide +kernel)
set_option maxRecDepth 20000 in
theorem gX4_putUp_X1_placeOf : GoodIn wsX4_putUp (wsV RX4 115 RX1 yX1_placeOf wsX1_placeOf) := goodIn_app (goodIn_of _ (by decide +kernel)) ggX4_putUp_X1_placeOf
set_option maxRecDepth 20000 in
theorem ggX4_putUp_X1_remove : GoodIn wsX4_putUp wsX1_remove := goodIn_r _ [21, 16, 17, 39, 40] (by decide +kernel) (by decide +kernel)
set_option maxRecDepth 20000 in
theorem gX4_putUp_X1_remove : GoodIn wsX4_putUp (wsV RX4 122 RX1 yX1_remove wsX1_remove) := goodIn_app (goodIn_of _ (by decide +kernel)) ggX4_putUp_X1_remove
theorem dX4_putUp_0 : decode cX4_putUp 0 = .ok (.aload_n 0, 1) := by decide +kernel
theorem dX4_putUp_1 : decode cX4_putUp 1 = .ok (.iload_n 1, 1) := by decide +kernel
theorem dX4_putUp_2 : decode cX4_putUp 2 = .ok (.invokevirtual 60, 3) := by decide +kernel
theorem dX4_putUp_5 : decode cX4_putUp 5 = .ok (.aload_n 0, 1) := by decide +kernel
theorem dX4_putUp_6 : decode cX4_putUp 6 = .ok (.getfield 10, 3) := by decide +kernel
theorem dX4_putUp_9 : decode cX4_putUp 9 = .ok (.getfield 111, 3) := by decide +kernel
theorem dX4_putUp_12 : decode cX4_putUp 12 = .ok (.iload_n 1, 1) := by decide +kernel
theorem dX4_putUp_13 : decode cX4_putUp 13 = .ok (.invokevirtual 115, 3) := by decide +kernel
theorem dX4_putUp_16 : decode cX4_putUp 16 = .ok (.iconst (-1), 1) := by decide +kernel
theorem dX4_putUp_17 : decode cX4_putUp 17 = .ok (.if_icmp .ne 13, 3) := by decide +kernel
theorem dX4_putUp_20 : decode cX4_putUp 20 = .ok (.new 34, 3) := by decide +kernel
theorem dX4_putUp_23 : decode cX4_putUp 23 = .ok (.dup, 1) := by decide +kernel
theorem dX4_putUp_24 : decode cX4_putUp 24 = .ok (.ldc 120, 2) := by decide +kernel
theorem dX4_putUp_26 : decode cX4_putUp 26 = .ok (.invokespecial 38, 3) := by decide +kernel
theorem dX4_putUp_29 : decode cX4_putUp 29 = .ok (.athrow, 1) := by decide +kernel
theorem dX4_putUp_30 : decode cX4_putUp 30 = .ok (.aload_n 0, 1) := by decide +kernel
theorem dX4_putUp_31 : decode cX4_putUp 31 = .ok (.getfield 10, 3) := by decide +kernel
theorem dX4_putUp_34 : decode cX4_putUp 34 = .ok (.getfield 111, 3) := by decide +kernel
theorem dX4_putUp_37 : decode cX4_putUp 37 = .ok (.iload_n 1, 1) := by decide +kernel
theorem dX4_putUp_38 : decode cX4_putUp 38 = .ok (.invokevirtual 122, 3) := by decide +kernel
theorem dX4_putUp_41 : decode cX4_putUp 41 = .ok (.aload_n 0, 1) := by decide +kernel
theorem dX4_putUp_42 : decode cX4_putUp 42 = .ok (.getfield 10, 3) := by decide +kernel
theorem dX4_putUp_45 : decode cX4_putUp 45 = .ok (.getfield 111, 3) := by decide +kernel
theorem dX4_putUp_48 : decode cX4_putUp 48 = .ok (.getfield 125, 3) := by decide +kernel
theorem dX4_putUp_51 : decode cX4_putUp 51 = .ok (.ireturn, 1) := by decide +kernel
set_option maxRecDepth 20000 in
theorem ggX4_pass_X4_requireMinutes : GoodIn wsX4_pass wsX4_requireMinutes := goodIn_ca (goodIn_r _ [5, 6, 7, 8, 9, 4, 10] (by decide +kernel) (by decide +kernel)) (goodIn_sub (fun _ h => List.mem_cons_of_mem _ (List.mem_append_right _ h)) (by decide +kernel))
set_option maxRecDepth 20000 in
theorem gX4_pass_X4_requireMinutes : GoodIn wsX4_pass (va_wsS RX4 126 yX4_requireMinutes wsX4_requireMinutes) := goodIn_app (goodIn_of _ (by decide +kernel)) ggX4_pass_X4_requireMinutes
set_option maxRecDepth 20000 in
theorem ggX4_pass_X0_letMinuteGoBy : GoodIn wsX4_pass wsX0_letMinuteGoBy := goodIn_r _ [15, 16, 17, 18, 19, 20, 14, 21, 22, 23, 24, 25, 26, 27, 28, 29, 30, 31, 32, 33, 34, 35, 36, 37, 38, 39, 40, 41, 42, 43, 44, 45, 46, 47, 48, 49, 50, 51, 52, 53, 54, 55, 56, 57, 58, 59, 60, 61, 62, 63, 64, 65, 66, 67, 68, 69, 70, 71, 72, 73, 74, 75, 76, 77, 78, 79, 80, 81, 82, 83, 84, 85, 86, 87, 88, 89, 90, 91, 92, 93, 94, 95, 96, 97, 98, 99, 100, 101, 102, 103, 104, 105, 106, 107, 108, 109, 110, 111, 112, 113, 116, 117, 118, 119, 120, 121, 122, 123, 124, 125, 126, 127, 128, 129, 130, 131, 132, 133, 134, 135, 136, 137, 138, 139] (by decide +kernel) (by decide +kernel)
set_option maxRecDepth 20000 in
theorem gX4_pass_X0_letMinuteGoBy : GoodIn wsX4_pass (wsV RX4 129 RX0 yX0_letMinuteGoBy wsX0_letMinuteGoBy) := goodIn_app (goodIn_of _ (by decide +kernel)) ggX4_pass_X0_letMinuteGoBy
theorem dX4_pass_0 : decode cX4_pass 0 = .ok (.iload_n 1, 1) := by decide +kernel
theorem dX4_pass_1 : decode cX4_pass 1 = .ok (.invokestatic 126, 3) := by decide +kernel
theorem dX4_pass_4 : decode cX4_pass 4 = .ok (.iconst 0, 1) := by decide +kernel
theorem dX4_pass_5 : decode cX4_pass 5 = .ok (.istore_n 2, 1) := by decide +kernel
theorem dX4_pass_6 : decode cX4_pass 6 = .ok (.iconst 0, 1) := by decide +kernel
theorem dX4_pass_7 : decode cX4_pass 7 = .ok (.istore_n 3, 1) := by decide +kernel
theorem dX4_pass_8 : decode cX4_pass 8 = .ok (.iload_n 3, 1) := by decide +kernel
theorem dX4_pass_9 : decode cX4_pass 9 = .ok (.iload_n 1, 1) := by decide +kernel
theorem dX4_pass_10 : decode cX4_pass 10 = .ok (.if_icmp .ge 19, 3) := by decide +kernel
theorem dX4_pass_13 : decode cX4_pass 13 = .ok (.iload_n 2, 1) := by decide +kernel
theorem dX4_pass_14 : decode cX4_pass 14 = .ok (.aload_n 0, 1) := by decide +kernel
theorem dX4_pass_15 : decode cX4_pass 15 = .ok (.getfield 10, 3) := by decide +kernel
theorem dX4_pass_18 : decode cX4_pass 18 = .ok (.invokevirtual 129, 3) := by decide +kernel
theorem dX4_pass_21 : decode cX4_pass 21 = .ok (.iadd, 1) := by decide +kernel
theorem dX4_pass_22 : decode cX4_pass 22 = .ok (.istore_n 2, 1) := by decide +kernel
theorem dX4_pass_23 : decode cX4_pass 23 = .ok (.iinc 3 1, 3) := by decide +kernel
theorem dX4_pass_26 : decode cX4_pass 26 = .ok (.goto (-18), 3) := by decide +kernel
theorem dX4_pass_29 : decode cX4_pass 29 = .ok (.iload_n 2, 1) := by decide +kernel
theorem dX4_pass_30 : decode cX4_pass 30 = .ok (.ireturn, 1) := by decide +kernel
theorem dX4_minute_0 : decode cX4_minute 0 = .ok (.aload_n 0, 1) := by decide +kernel
theorem dX4_minute_1 : decode cX4_minute 1 = .ok (.getfield 10, 3) := by decide +kernel
theorem dX4_minute_4 : decode cX4_minute 4 = .ok (.getfield 132, 3) := by decide +kernel
theorem dX4_minute_7 : decode cX4_minute 7 = .ok (.ireturn, 1) := by decide +kernel
theorem dX4_rooms_0 : decode cX4_rooms 0 = .ok (.aload_n 0, 1) := by decide +kernel
theorem dX4_rooms_1 : decode cX4_rooms 1 = .ok (.getfield 10, 3) := by decide +kernel
theorem dX4_rooms_4 : decode cX4_rooms 4 = .ok (.getfield 30, 3) := by decide +kernel
theorem dX4_rooms_7 : decode cX4_rooms 7 = .ok (.ireturn, 1) := by decide +kernel
theorem dX4_servants_0 : decode cX4_servants 0 = .ok (.aload_n 0, 1) := by decide +kernel
theorem dX4_servants_1 : decode cX4_servants 1 = .ok (.getfield 10, 3) := by decide +kernel
theorem dX4_servants_4 : decode cX4_servants 4 = .ok (.getfield 45, 3) := by decide +kernel
theorem dX4_servants_7 : decode cX4_servants 7 = .ok (.getfield 49, 3) := by decide +kernel
theorem dX4_servants_10 : decode cX4_servants 10 = .ok (.ireturn, 1) := by decide +kernel
theorem dX4_charge_0 : decode cX4_charge 0 = .ok (.aload_n 0, 1) := by decide +kernel
theorem dX4_charge_1 : decode cX4_charge 1 = .ok (.getfield 10, 3) := by decide +kernel
theorem dX4_charge_4 : decode cX4_charge 4 = .ok (.getfield 108, 3) := by decide +kernel
theorem dX4_charge_7 : decode cX4_charge 7 = .ok (.ireturn, 1) := by decide +kernel
theorem dX4_served_0 : decode cX4_served 0 = .ok (.aload_n 0, 1) := by decide +kernel
theorem dX4_served_1 : decode cX4_served 1 = .ok (.getfield 10, 3) := by decide +kernel
theorem dX4_served_4 : decode cX4_served 4 = .ok (.getfield 135, 3) := by decide +kernel
theorem dX4_served_7 : decode cX4_served 7 = .ok (.ireturn, 1) := by decide +kernel
theorem dX4_inVain_0 : decode cX4_inVain 0 = .ok (.aload_n 0, 1) := by decide +kernel
theorem dX4_inVain_1 : decode cX4_inVain 1 = .ok (.getfield 10, 3) := by decide +kernel
theorem dX4_inVain_4 : decode cX4_inVain 4 = .ok (.getfield 138, 3) := by decide +kernel
theorem dX4_inVain_7 : decode cX4_inVain 7 = .ok (.ireturn, 1) := by decide +kernel
theorem dX4_gaveUp_0 : decode cX4_gaveUp 0 = .ok (.aload_n 0, 1) := by decide +kernel
theorem dX4_gaveUp_1 : decode cX4_gaveUp 1 = .ok (.getfield 10, 3) := by decide +kernel
theorem dX4_gaveUp_4 : decode cX4_gaveUp 4 = .ok (.getfield 141, 3) := by decide +kernel
theorem dX4_gaveUp_7 : decode cX4_gaveUp 7 = .ok (.ireturn, 1) := by decide +kernel
theorem dX4_unheard_0 : decode cX4_unheard 0 = .ok (.aload_n 0, 1) := by decide +kernel
theorem dX4_unheard_1 : decode cX4_unheard 1 = .ok (.getfield 10, 3) := by decide +kernel
theorem dX4_unheard_4 : decode cX4_unheard 4 = .ok (.getfield 144, 3) := by decide +kernel
theorem dX4_unheard_7 : decode cX4_unheard 7 = .ok (.ireturn, 1) := by decide +kernel
set_option maxRecDepth 20000 in
theorem ggX4_dropOf_X4_requireRoom : GoodIn wsX4_dropOf wsX4_requireRoom := goodIn_ca (goodIn_r _ [6, 7, 8, 1, 15, 16, 17, 18, 19, 20, 21, 22, 23, 24, 25, 26, 27, 28, 29, 30, 31] (by decide +kernel) (by decide +kernel)) (goodIn_sub (fun _ h => List.mem_cons_of_mem _ (List.mem_append_right _ h)) (by decide +kernel))
set_option maxRecDepth 20000 in
theorem gX4_dropOf_X4_requireRoom : GoodIn wsX4_dropOf (wsV RX4 60 RX4 yX4_requireRoom wsX4_requireRoom) := goodIn_app (goodIn_of _ (by decide +kernel)) ggX4_dropOf_X4_requireRoom
set_option maxRecDepth 20000 in
theorem ggX4_dropOf_X2_get : GoodIn wsX4_dropOf wsX2_get := goodIn_r _ [13, 14, 32] (by decide +kernel) (by decide +kernel)
set_option maxRecDepth 20000 in
theorem gX4_dropOf_X2_get : GoodIn wsX4_dropOf (wsV RX4 89 RX2 yX2_get wsX2_get) := goodIn_app (goodIn_of _ (by decide +kernel)) ggX4_dropOf_X2_get
theorem dX4_dropOf_0 : decode cX4_dropOf 0 = .ok (.aload_n 0, 1) := by decide +kernel
theorem dX4_dropOf_1 : decode cX4_dropOf 1 = .ok (.iload_n 1, 1) := by decide +kernel
theorem dX4_dropOf_2 : decode cX4_dropOf 2 = .ok (.invokevirtual 60, 3) := by decide +kernel
theorem dX4_dropOf_5 : decode cX4_dropOf 5 = .ok (.aload_n 0, 1) := by decide +kernel
theorem dX4_dropOf_6 : decode cX4_dropOf 6 = .ok (.getfield 10, 3) := by decide +kernel
theorem dX4_dropOf_9 : decode cX4_dropOf 9 = .ok (.getfield 86, 3) := by decide +kernel
theorem dX4_dropOf_12 : decode cX4_dropOf 12 = .ok (.iload_n 1, 1) := by decide +kernel
theorem dX4_dropOf_13 : decode cX4_dropOf 13 = .ok (.invokevirtual 89, 3) := by decide +kernel
theorem dX4_dropOf_16 : decode cX4_dropOf 16 = .ok (.ireturn, 1) := by decide +kernel
set_option maxRecDepth 20000 in
theorem ggX4_roomOf_X4_requireRoom : GoodIn wsX4_roomOf wsX4_requireRoom := goodIn_ca (goodIn_r _ [6, 7, 8, 1, 15, 16, 17, 18, 19, 20, 21, 22, 23, 24, 25, 26, 27, 28, 29, 30, 31] (by decide +kernel) (by decide +kernel)) (goodIn_sub (fun _ h => List.mem_cons_of_mem _ (List.mem_append_right _ h)) (by decide +kernel))
set_option maxRecDepth 20000 in
theorem gX4_roomOf_X4_requireRoom : GoodIn wsX4_roomOf (wsV RX4 60 RX4 yX4_requireRoom wsX4_requireRoom) := goodIn_app (goodIn_of _ (by decide +kernel)) ggX4_roomOf_X4_requireRoom
set_option maxRecDepth 20000 in
theorem ggX4_roomOf_X2_get : GoodIn wsX4_roomOf wsX2_get := goodIn_r _ [13, 14, 32] (by decide +kernel) (by decide +kernel)
set_option maxRecDepth 20000 in
theorem gX4_roomOf_X2_get : GoodIn wsX4_roomOf (wsV RX4 89 RX2 yX2_get wsX2_get) := goodIn_app (goodIn_of _ (by decide +kernel)) ggX4_roomOf_X2_get
theorem dX4_roomOf_0 : decode cX4_roomOf 0 = .ok (.aload_n 0, 1) := by decide +kernel
theorem dX4_roomOf_1 : decode cX4_roomOf 1 = .ok (.iload_n 1, 1) := by decide +kernel
theorem dX4_roomOf_2 : decode cX4_roomOf 2 = .ok (.invokevirtual 60, 3) := by decide +kernel
theorem dX4_roomOf_5 : decode cX4_roomOf 5 = .ok (.iconst 0, 1) := by decide +kernel
theorem dX4_roomOf_6 : decode cX4_roomOf 6 = .ok (.istore_n 2, 1) := by decide +kernel
theorem dX4_roomOf_7 : decode cX4_roomOf 7 = .ok (.iload_n 2, 1) := by decide +kernel
theorem dX4_roomOf_8 : decode cX4_roomOf 8 = .ok (.aload_n 0, 1) := by decide +kernel
theorem dX4_roomOf_9 : decode cX4_roomOf 9 = .ok (.getfield 10, 3) := by decide +kernel
theorem dX4_roomOf_12 : decode cX4_roomOf 12 = .ok (.getfield 30, 3) := by decide +kernel
theorem dX4_roomOf_15 : decode cX4_roomOf 15 = .ok (.if_icmp .ge 26, 3) := by decide +kernel
theorem dX4_roomOf_18 : decode cX4_roomOf 18 = .ok (.aload_n 0, 1) := by decide +kernel
theorem dX4_roomOf_19 : decode cX4_roomOf 19 = .ok (.getfield 10, 3) := by decide +kernel
theorem dX4_roomOf_22 : decode cX4_roomOf 22 = .ok (.getfield 86, 3) := by decide +kernel
theorem dX4_roomOf_25 : decode cX4_roomOf 25 = .ok (.iload_n 2, 1) := by decide +kernel
theorem dX4_roomOf_26 : decode cX4_roomOf 26 = .ok (.invokevirtual 89, 3) := by decide +kernel
theorem dX4_roomOf_29 : decode cX4_roomOf 29 = .ok (.iload_n 1, 1) := by decide +kernel
theorem dX4_roomOf_30 : decode cX4_roomOf 30 = .ok (.if_icmp .ne 5, 3) := by decide +kernel
theorem dX4_roomOf_33 : decode cX4_roomOf 33 = .ok (.iload_n 2, 1) := by decide +kernel
theorem dX4_roomOf_34 : decode cX4_roomOf 34 = .ok (.ireturn, 1) := by decide +kernel
theorem dX4_roomOf_35 : decode cX4_roomOf 35 = .ok (.iinc 2 1, 3) := by decide +kernel
theorem dX4_roomOf_38 : decode cX4_roomOf 38 = .ok (.goto (-31), 3) := by decide +kernel
theorem dX4_roomOf_41 : decode cX4_roomOf 41 = .ok (.iconst (-1), 1) := by decide +kernel
theorem dX4_roomOf_42 : decode cX4_roomOf 42 = .ok (.ireturn, 1) := by decide +kernel
set_option maxRecDepth 20000 in
theorem ggX4_isCut_X4_requireRoom : GoodIn wsX4_isCut wsX4_requireRoom := goodIn_ca (goodIn_r _ [6, 7, 8, 1, 21, 22, 23, 24, 25, 26, 27, 28, 29, 30, 31, 32, 33, 34, 35, 36, 37] (by decide +kernel) (by decide +kernel)) (goodIn_sub (fun _ h => List.mem_cons_of_mem _ (List.mem_append_right _ h)) (by decide +kernel))
set_option maxRecDepth 20000 in
theorem gX4_isCut_X4_requireRoom : GoodIn wsX4_isCut (wsV RX4 60 RX4 yX4_requireRoom wsX4_requireRoom) := goodIn_app (goodIn_of _ (by decide +kernel)) ggX4_isCut_X4_requireRoom
set_option maxRecDepth 20000 in
theorem ggX4_isCut_X0_isWireCut : GoodIn wsX4_isCut wsX0_isWireCut := goodIn_r _ [13, 14, 15, 16, 17, 18, 19, 20, 23, 24, 25, 26, 27, 28, 29, 30, 31, 32, 33, 34, 35, 36, 37, 38] (by decide +kernel) (by decide +kernel)
set_option maxRecDepth 20000 in
theorem gX4_isCut_X0_isWireCut : GoodIn wsX4_isCut (wsV RX4 92 RX0 yX0_isWireCut wsX0_isWireCut) := goodIn_app (goodIn_of _ (by decide +kernel)) ggX4_isCut_X0_isWireCut
theorem dX4_isCut_0 : decode cX4_isCut 0 = .ok (.aload_n 0, 1) := by decide +kernel
theorem dX4_isCut_1 : decode cX4_isCut 1 = .ok (.iload_n 1, 1) := by decide +kernel
theorem dX4_isCut_2 : decode cX4_isCut 2 = .ok (.invokevirtual 60, 3) := by decide +kernel
theorem dX4_isCut_5 : decode cX4_isCut 5 = .ok (.aload_n 0, 1) := by decide +kernel
theorem dX4_isCut_6 : decode cX4_isCut 6 = .ok (.getfield 10, 3) := by decide +kernel
theorem dX4_isCut_9 : decode cX4_isCut 9 = .ok (.iload_n 1, 1) := by decide +kernel
theorem dX4_isCut_10 : decode cX4_isCut 10 = .ok (.invokevirtual 92, 3) := by decide +kernel
theorem dX4_isCut_13 : decode cX4_isCut 13 = .ok (.ireturn, 1) := by decide +kernel
set_option maxRecDepth 20000 in
theorem ggX4_waitedFor_X4_requireRoom : GoodIn wsX4_waitedFor wsX4_requireRoom := goodIn_ca (goodIn_r _ [6, 7, 8, 1, 15, 16, 17, 18, 19, 20, 21, 22, 23, 24, 25, 26, 27, 28, 29, 30, 31] (by decide +kernel) (by decide +kernel)) (goodIn_sub (fun _ h => List.mem_cons_of_mem _ (List.mem_append_right _ h)) (by decide +kernel))
set_option maxRecDepth 20000 in
theorem gX4_waitedFor_X4_requireRoom : GoodIn wsX4_waitedFor (wsV RX4 60 RX4 yX4_requireRoom wsX4_requireRoom) := goodIn_app (goodIn_of _ (by decide +kernel)) ggX4_waitedFor_X4_requireRoom
set_option maxRecDepth 20000 in
theorem ggX4_waitedFor_X2_get : GoodIn wsX4_waitedFor wsX2_get := goodIn_r _ [13, 14, 32] (by decide +kernel) (by decide +kernel)
set_option maxRecDepth 20000 in
theorem gX4_waitedFor_X2_get : GoodIn wsX4_waitedFor (wsV RX4 89 RX2 yX2_get wsX2_get) := goodIn_app (goodIn_of _ (by decide +kernel)) ggX4_waitedFor_X2_get
theorem dX4_waitedFor_0 : decode cX4_waitedFor 0 = .ok (.aload_n 0, 1) := by decide +kernel
theorem dX4_waitedFor_1 : decode cX4_waitedFor 1 = .ok (.iload_n 1, 1) := by decide +kernel
theorem dX4_waitedFor_2 : decode cX4_waitedFor 2 = .ok (.invokevirtual 60, 3) := by decide +kernel
theorem dX4_waitedFor_5 : decode cX4_waitedFor 5 = .ok (.aload_n 0, 1) := by decide +kernel
theorem dX4_waitedFor_6 : decode cX4_waitedFor 6 = .ok (.getfield 10, 3) := by decide +kernel
theorem dX4_waitedFor_9 : decode cX4_waitedFor 9 = .ok (.getfield 71, 3) := by decide +kernel
theorem dX4_waitedFor_12 : decode cX4_waitedFor 12 = .ok (.iload_n 1, 1) := by decide +kernel
theorem dX4_waitedFor_13 : decode cX4_waitedFor 13 = .ok (.invokevirtual 89, 3) := by decide +kernel
theorem dX4_waitedFor_16 : decode cX4_waitedFor 16 = .ok (.ireturn, 1) := by decide +kernel
set_option maxRecDepth 20000 in
theorem ggX4_longestWaiting_X2_get : GoodIn wsX4_longestWaiting wsX2_get := goodIn_r _ [6, 7, 25] (by decide +kernel) (by decide +kernel)
set_option maxRecDepth 20000 in
theorem gX4_longestWaiting_X2_get : GoodIn wsX4_longestWaiting (wsV RX4 89 RX2 yX2_get wsX2_get) := goodIn_app (goodIn_of _ (by decide +kernel)) ggX4_longestWaiting_X2_get
theorem dX4_longestWaiting_0 : decode cX4_longestWaiting 0 = .ok (.iconst (-1), 1) := by decide +kernel
theorem dX4_longestWaiting_1 : decode cX4_longestWaiting 1 = .ok (.istore_n 1, 1) := by decide +kernel
theorem dX4_longestWaiting_2 : decode cX4_longestWaiting 2 = .ok (.iconst (-1), 1) := by decide +kernel
theorem dX4_longestWaiting_3 : decode cX4_longestWaiting 3 = .ok (.istore_n 2, 1) := by decide +kernel
theorem dX4_longestWaiting_4 : decode cX4_longestWaiting 4 = .ok (.iconst 0, 1) := by decide +kernel
theorem dX4_longestWaiting_5 : decode cX4_longestWaiting 5 = .ok (.istore_n 3, 1) := by decide +kernel
theorem dX4_longestWaiting_6 : decode cX4_longestWaiting 6 = .ok (.iload_n 3, 1) := by decide +kernel
theorem dX4_longestWaiting_7 : decode cX4_longestWaiting 7 = .ok (.aload_n 0, 1) := by decide +kernel
theorem dX4_longestWaiting_8 : decode cX4_longestWaiting 8 = .ok (.getfield 10, 3) := by decide +kernel
theorem dX4_longestWaiting_11 : decode cX4_longestWaiting 11 = .ok (.getfield 30, 3) := by decide +kernel
theorem dX4_longestWaiting_14 : decode cX4_longestWaiting 14 = .ok (.if_icmp .ge 38, 3) := by decide +kernel
theorem dX4_longestWaiting_17 : decode cX4_longestWaiting 17 = .ok (.aload_n 0, 1) := by decide +kernel
theorem dX4_longestWaiting_18 : decode cX4_longestWaiting 18 = .ok (.getfield 10, 3) := by decide +kernel
theorem dX4_longestWaiting_21 : decode cX4_longestWaiting 21 = .ok (.getfield 71, 3) := by decide +kernel
theorem dX4_longestWaiting_24 : decode cX4_longestWaiting 24 = .ok (.iload_n 3, 1) := by decide +kernel
theorem dX4_longestWaiting_25 : decode cX4_longestWaiting 25 = .ok (.invokevirtual 89, 3) := by decide +kernel
theorem dX4_longestWaiting_28 : decode cX4_longestWaiting 28 = .ok (.iload_n 2, 1) := by decide +kernel
theorem dX4_longestWaiting_29 : decode cX4_longestWaiting 29 = .ok (.if_icmp .le 17, 3) := by decide +kernel
theorem dX4_longestWaiting_32 : decode cX4_longestWaiting 32 = .ok (.aload_n 0, 1) := by decide +kernel
theorem dX4_longestWaiting_33 : decode cX4_longestWaiting 33 = .ok (.getfield 10, 3) := by decide +kernel
theorem dX4_longestWaiting_36 : decode cX4_longestWaiting 36 = .ok (.getfield 71, 3) := by decide +kernel
theorem dX4_longestWaiting_39 : decode cX4_longestWaiting 39 = .ok (.iload_n 3, 1) := by decide +kernel
theorem dX4_longestWaiting_40 : decode cX4_longestWaiting 40 = .ok (.invokevirtual 89, 3) := by decide +kernel
theorem dX4_longestWaiting_43 : decode cX4_longestWaiting 43 = .ok (.istore_n 2, 1) := by decide +kernel
theorem dX4_longestWaiting_44 : decode cX4_longestWaiting 44 = .ok (.iload_n 3, 1) := by decide +kernel
theorem dX4_longestWaiting_45 : decode cX4_longestWaiting 45 = .ok (.istore_n 1, 1) := by decide +kernel
theorem dX4_longestWaiting_46 : decode cX4_longestWaiting 46 = .ok (.iinc 3 1, 3) := by decide +kernel
theorem dX4_longestWaiting_49 : decode cX4_longestWaiting 49 = .ok (.goto (-43), 3) := by decide +kernel
theorem dX4_longestWaiting_52 : decode cX4_longestWaiting 52 = .ok (.iload_n 1, 1) := by decide +kernel
theorem dX4_longestWaiting_53 : decode cX4_longestWaiting 53 = .ok (.ireturn, 1) := by decide +kernel
set_option maxRecDepth 20000 in
theorem ggX4_crossed_X2_get : GoodIn wsX4_crossed wsX2_get := goodIn_r _ [6, 7, 25] (by decide +kernel) (by decide +kernel)
set_option maxRecDepth 20000 in
theorem gX4_crossed_X2_get : GoodIn wsX4_crossed (wsV RX4 89 RX2 yX2_get wsX2_get) := goodIn_app (goodIn_of _ (by decide +kernel)) ggX4_crossed_X2_get
theorem dX4_crossed_0 : decode cX4_crossed 0 = .ok (.iconst 0, 1) := by decide +kernel
theorem dX4_crossed_1 : decode cX4_crossed 1 = .ok (.istore_n 1, 1) := by decide +kernel
theorem dX4_crossed_2 : decode cX4_crossed 2 = .ok (.iconst 0, 1) := by decide +kernel
theorem dX4_crossed_3 : decode cX4_crossed 3 = .ok (.istore_n 2, 1) := by decide +kernel
theorem dX4_crossed_4 : decode cX4_crossed 4 = .ok (.iload_n 2, 1) := by decide +kernel
theorem dX4_crossed_5 : decode cX4_crossed 5 = .ok (.aload_n 0, 1) := by decide +kernel
theorem dX4_crossed_6 : decode cX4_crossed 6 = .ok (.getfield 10, 3) := by decide +kernel
theorem dX4_crossed_9 : decode cX4_crossed 9 = .ok (.getfield 30, 3) := by decide +kernel
theorem dX4_crossed_12 : decode cX4_crossed 12 = .ok (.if_icmp .ge 27, 3) := by decide +kernel
theorem dX4_crossed_15 : decode cX4_crossed 15 = .ok (.aload_n 0, 1) := by decide +kernel
theorem dX4_crossed_16 : decode cX4_crossed 16 = .ok (.getfield 10, 3) := by decide +kernel
theorem dX4_crossed_19 : decode cX4_crossed 19 = .ok (.getfield 86, 3) := by decide +kernel
theorem dX4_crossed_22 : decode cX4_crossed 22 = .ok (.iload_n 2, 1) := by decide +kernel
theorem dX4_crossed_23 : decode cX4_crossed 23 = .ok (.invokevirtual 89, 3) := by decide +kernel
theorem dX4_crossed_26 : decode cX4_crossed 26 = .ok (.iload_n 2, 1) := by decide +kernel
theorem dX4_crossed_27 : decode cX4_crossed 27 = .ok (.if_icmp .eq 6, 3) := by decide +kernel
theorem dX4_crossed_30 : decode cX4_crossed 30 = .ok (.iinc 1 1, 3) := by decide +kernel
theorem dX4_crossed_33 : decode cX4_crossed 33 = .ok (.iinc 2 1, 3) := by decide +kernel
theorem dX4_crossed_36 : decode cX4_crossed 36 = .ok (.goto (-32), 3) := by decide +kernel
theorem dX4_crossed_39 : decode cX4_crossed 39 = .ok (.iload_n 1, 1) := by decide +kernel
theorem dX4_crossed_40 : decode cX4_crossed 40 = .ok (.ireturn, 1) := by decide +kernel
set_option maxRecDepth 20000 in
theorem ggX4_crossingsNeeded_X0_isFirstOfItsCircle : GoodIn wsX4_crossingsNeeded wsX0_isFirstOfItsCircle := goodIn_r _ [6, 7, 8, 9, 10, 11, 12, 13, 14, 17, 18, 19, 20, 21, 22, 23, 24, 25, 26, 27, 28, 29, 30, 31, 32] (by decide +kernel) (by decide +kernel)
set_option maxRecDepth 20000 in
theorem gX4_crossingsNeeded_X0_isFirstOfItsCircle : GoodIn wsX4_crossingsNeeded (wsV RX4 147 RX0 yX0_isFirstOfItsCircle wsX0_isFirstOfItsCircle) := goodIn_app (goodIn_of _ (by decide +kernel)) ggX4_crossingsNeeded_X0_isFirstOfItsCircle
theorem dX4_crossingsNeeded_0 : decode cX4_crossingsNeeded 0 = .ok (.iconst 0, 1) := by decide +kernel
theorem dX4_crossingsNeeded_1 : decode cX4_crossingsNeeded 1 = .ok (.istore_n 1, 1) := by decide +kernel
theorem dX4_crossingsNeeded_2 : decode cX4_crossingsNeeded 2 = .ok (.iconst 0, 1) := by decide +kernel
theorem dX4_crossingsNeeded_3 : decode cX4_crossingsNeeded 3 = .ok (.istore_n 2, 1) := by decide +kernel
theorem dX4_crossingsNeeded_4 : decode cX4_crossingsNeeded 4 = .ok (.iload_n 2, 1) := by decide +kernel
theorem dX4_crossingsNeeded_5 : decode cX4_crossingsNeeded 5 = .ok (.aload_n 0, 1) := by decide +kernel
theorem dX4_crossingsNeeded_6 : decode cX4_crossingsNeeded 6 = .ok (.getfield 10, 3) := by decide +kernel
theorem dX4_crossingsNeeded_9 : decode cX4_crossingsNeeded 9 = .ok (.getfield 30, 3) := by decide +kernel
theorem dX4_crossingsNeeded_12 : decode cX4_crossingsNeeded 12 = .ok (.if_icmp .ge 23, 3) := by decide +kernel
theorem dX4_crossingsNeeded_15 : decode cX4_crossingsNeeded 15 = .ok (.aload_n 0, 1) := by decide +kernel
theorem dX4_crossingsNeeded_16 : decode cX4_crossingsNeeded 16 = .ok (.getfield 10, 3) := by decide +kernel
theorem dX4_crossingsNeeded_19 : decode cX4_crossingsNeeded 19 = .ok (.iload_n 2, 1) := by decide +kernel
theorem dX4_crossingsNeeded_20 : decode cX4_crossingsNeeded 20 = .ok (.invokevirtual 147, 3) := by decide +kernel
theorem dX4_crossingsNeeded_23 : decode cX4_crossingsNeeded 23 = .ok (.ifCond .ne 6, 3) := by decide +kernel
theorem dX4_crossingsNeeded_26 : decode cX4_crossingsNeeded 26 = .ok (.iinc 1 1, 3) := by decide +kernel
theorem dX4_crossingsNeeded_29 : decode cX4_crossingsNeeded 29 = .ok (.iinc 2 1, 3) := by decide +kernel
theorem dX4_crossingsNeeded_32 : decode cX4_crossingsNeeded 32 = .ok (.goto (-28), 3) := by decide +kernel
theorem dX4_crossingsNeeded_35 : decode cX4_crossingsNeeded 35 = .ok (.iload_n 1, 1) := by decide +kernel
theorem dX4_crossingsNeeded_36 : decode cX4_crossingsNeeded 36 = .ok (.ireturn, 1) := by decide +kernel
theorem dX4_fallen_0 : decode cX4_fallen 0 = .ok (.aload_n 0, 1) := by decide +kernel
theorem dX4_fallen_1 : decode cX4_fallen 1 = .ok (.getfield 10, 3) := by decide +kernel
theorem dX4_fallen_4 : decode cX4_fallen 4 = .ok (.getfield 111, 3) := by decide +kernel
theorem dX4_fallen_7 : decode cX4_fallen 7 = .ok (.getfield 125, 3) := by decide +kernel
theorem dX4_fallen_10 : decode cX4_fallen 10 = .ok (.ireturn, 1) := by decide +kernel
set_option maxRecDepth 20000 in
theorem ggX4_hasFallen_X4_requireRoom : GoodIn wsX4_hasFallen wsX4_requireRoom := goodIn_ca (goodIn_r _ [6, 7, 8, 1, 16, 17, 18, 19, 20, 21, 22, 23, 24, 25, 26, 27, 28, 29, 30, 31, 32] (by decide +kernel) (by decide +kernel)) (goodIn_sub (fun _ h => List.mem_cons_of_mem _ (List.mem_append_right _ h)) (by decide +kernel))
set_option maxRecDepth 20000 in
theorem gX4_hasFallen_X4_requireRoom : GoodIn wsX4_hasFallen (wsV RX4 60 RX4 yX4_requireRoom wsX4_requireRoom) := goodIn_app (goodIn_of _ (by decide +kernel)) ggX4_hasFallen_X4_requireRoom
set_option maxRecDepth 20000 in
theorem ggX4_hasFallen_X1_placeOf : GoodIn wsX4_hasFallen wsX1_placeOf := goodIn_r _ [13, 14, 15, 33, 34] (by decide +kernel) (by decide +kernel)
set_option maxRecDepth 20000 in
theorem gX4_hasFallen_X1_placeOf : GoodIn wsX4_hasFallen (wsV RX4 115 RX1 yX1_placeOf wsX1_placeOf) := goodIn_app (goodIn_of _ (by decide +kernel)) ggX4_hasFallen_X1_placeOf
theorem dX4_hasFallen_0 : decode cX4_hasFallen 0 = .ok (.aload_n 0, 1) := by decide +kernel
theorem dX4_hasFallen_1 : decode cX4_hasFallen 1 = .ok (.iload_n 1, 1) := by decide +kernel
theorem dX4_hasFallen_2 : decode cX4_hasFallen 2 = .ok (.invokevirtual 60, 3) := by decide +kernel
theorem dX4_hasFallen_5 : decode cX4_hasFallen 5 = .ok (.aload_n 0, 1) := by decide +kernel
theorem dX4_hasFallen_6 : decode cX4_hasFallen 6 = .ok (.getfield 10, 3) := by decide +kernel
theorem dX4_hasFallen_9 : decode cX4_hasFallen 9 = .ok (.getfield 111, 3) := by decide +kernel
theorem dX4_hasFallen_12 : decode cX4_hasFallen 12 = .ok (.iload_n 1, 1) := by decide +kernel
theorem dX4_hasFallen_13 : decode cX4_hasFallen 13 = .ok (.invokevirtual 115, 3) := by decide +kernel
theorem dX4_hasFallen_16 : decode cX4_hasFallen 16 = .ok (.iconst (-1), 1) := by decide +kernel
theorem dX4_hasFallen_17 : decode cX4_hasFallen 17 = .ok (.if_icmp .eq 7, 3) := by decide +kernel
theorem dX4_hasFallen_20 : decode cX4_hasFallen 20 = .ok (.iconst 1, 1) := by decide +kernel
theorem dX4_hasFallen_21 : decode cX4_hasFallen 21 = .ok (.goto 4, 3) := by decide +kernel
theorem dX4_hasFallen_24 : decode cX4_hasFallen 24 = .ok (.iconst 0, 1) := by decide +kernel
theorem dX4_hasFallen_25 : decode cX4_hasFallen 25 = .ok (.ireturn, 1) := by decide +kernel
set_option maxRecDepth 20000 in
theorem ggX4_placeInLine_X4_requireRoom : GoodIn wsX4_placeInLine wsX4_requireRoom := goodIn_ca (goodIn_r _ [6, 7, 8, 1, 16, 17, 18, 19, 20, 21, 22, 23, 24, 25, 26, 27, 28, 29, 30, 31, 32] (by decide +kernel) (by decide +kernel)) (goodIn_sub (fun _ h => List.mem_cons_of_mem _ (List.mem_append_right _ h)) (by decide +kernel))
set_option maxRecDepth 20000 in
theorem gX4_placeInLine_X4_requireRoom : GoodIn wsX4_placeInLine (wsV RX4 60 RX4 yX4_requireRoom wsX4_requireRoom) := goodIn_app (goodIn_of _ (by decide +kernel)) ggX4_placeInLine_X4_requireRoom
set_option maxRecDepth 20000 in
theorem ggX4_placeInLine_X1_placeOf : GoodIn wsX4_placeInLine wsX1_placeOf := goodIn_r _ [13, 14, 15, 33, 34] (by decide +kernel) (by decide +kernel)
set_option maxRecDepth 20000 in
theorem gX4_placeInLine_X1_placeOf : GoodIn wsX4_placeInLine (wsV RX4 115 RX1 yX1_placeOf wsX1_placeOf) := goodIn_app (goodIn_of _ (by decide +kernel)) ggX4_placeInLine_X1_placeOf
theorem dX4_placeInLine_0 : decode cX4_placeInLine 0 = .ok (.aload_n 0, 1) := by decide +kernel
theorem dX4_placeInLine_1 : decode cX4_placeInLine 1 = .ok (.iload_n 1, 1) := by decide +kernel
theorem dX4_placeInLine_2 : decode cX4_placeInLine 2 = .ok (.invokevirtual 60, 3) := by decide +kernel
theorem dX4_placeInLine_5 : decode cX4_placeInLine 5 = .ok (.aload_n 0, 1) := by decide +kernel
theorem dX4_placeInLine_6 : decode cX4_placeInLine 6 = .ok (.getfield 10, 3) := by decide +kernel
theorem dX4_placeInLine_9 : decode cX4_placeInLine 9 = .ok (.getfield 111, 3) := by decide +kernel
theorem dX4_placeInLine_12 : decode cX4_placeInLine 12 = .ok (.iload_n 1, 1) := by decide +kernel
theorem dX4_placeInLine_13 : decode cX4_placeInLine 13 = .ok (.invokevirtual 115, 3) := by decide +kernel
theorem dX4_placeInLine_16 : decode cX4_placeInLine 16 = .ok (.ireturn, 1) := by decide +kernel
set_option maxRecDepth 20000 in
theorem ggX4_nextDrop_X1_first : GoodIn wsX4_nextDrop wsX1_first := goodIn_r _ [6, 7, 8, 26, 27] (by decide +kernel) (by decide +kernel)
set_option maxRecDepth 20000 in
theorem gX4_nextDrop_X1_first : GoodIn wsX4_nextDrop (wsV RX4 150 RX1 yX1_first wsX1_first) := goodIn_app (goodIn_of _ (by decide +kernel)) ggX4_nextDrop_X1_first
theorem dX4_nextDrop_0 : decode cX4_nextDrop 0 = .ok (.aload_n 0, 1) := by decide +kernel
theorem dX4_nextDrop_1 : decode cX4_nextDrop 1 = .ok (.getfield 10, 3) := by decide +kernel
theorem dX4_nextDrop_4 : decode cX4_nextDrop 4 = .ok (.getfield 111, 3) := by decide +kernel
theorem dX4_nextDrop_7 : decode cX4_nextDrop 7 = .ok (.invokevirtual 150, 3) := by decide +kernel
theorem dX4_nextDrop_10 : decode cX4_nextDrop 10 = .ok (.ireturn, 1) := by decide +kernel
set_option maxRecDepth 20000 in
theorem ggX4_ringsLeft_X4_requireRoom : GoodIn wsX4_ringsLeft wsX4_requireRoom := goodIn_ca (goodIn_r _ [6, 7, 8, 1, 28, 29, 30, 31, 32, 33, 34, 35, 36, 37, 38, 39, 40, 41, 42, 43, 44] (by decide +kernel) (by decide +kernel)) (goodIn_sub (fun _ h => List.mem_cons_of_mem _ (List.mem_append_right _ h)) (by decide +kernel))
set_option maxRecDepth 20000 in
theorem gX4_ringsLeft_X4_requireRoom : GoodIn wsX4_ringsLeft (wsV RX4 60 RX4 yX4_requireRoom wsX4_requireRoom) := goodIn_app (goodIn_of _ (by decide +kernel)) ggX4_ringsLeft_X4_requireRoom
set_option maxRecDepth 20000 in
theorem ggX4_ringsLeft_X0_isWireCut : GoodIn wsX4_ringsLeft wsX0_isWireCut := goodIn_r _ [13, 14, 15, 16, 17, 18, 19, 20, 30, 31, 32, 33, 34, 35, 36, 37, 38, 39, 40, 41, 42, 43, 44, 45] (by decide +kernel) (by decide +kernel)
set_option maxRecDepth 20000 in
theorem gX4_ringsLeft_X0_isWireCut : GoodIn wsX4_ringsLeft (wsV RX4 92 RX0 yX0_isWireCut wsX0_isWireCut) := goodIn_app (goodIn_of _ (by decide +kernel)) ggX4_ringsLeft_X0_isWireCut
set_option maxRecDepth 20000 in
theorem ggX4_ringsLeft_X2_get : GoodIn wsX4_ringsLeft wsX2_get := goodIn_r _ [19, 20, 45] (by decide +kernel) (by decide +kernel)
set_option maxRecDepth 20000 in
theorem gX4_ringsLeft_X2_get : GoodIn wsX4_ringsLeft (wsV RX4 89 RX2 yX2_get wsX2_get) := goodIn_app (goodIn_of _ (by decide +kernel)) ggX4_ringsLeft_X2_get
set_option maxRecDepth 20000 in
theorem ggX4_ringsLeft_X0_costFrom : GoodIn wsX4_ringsLeft wsX0_costFrom := goodIn_r _ [24] (by decide +kernel) (by decide +kernel)
set_option maxRecDepth 20000 in
theorem gX4_ringsLeft_X0_costFrom : GoodIn wsX4_ringsLeft (va_wsS RX4 156 yX0_costFrom wsX0_costFrom) := goodIn_app (goodIn_of _ (by decide +kernel)) ggX4_ringsLeft_X0_costFrom
set_option maxRecDepth 20000 in
theorem ggX4_ringsLeft_X4_quotient : GoodIn wsX4_ringsLeft wsX4_quotient := goodIn_r _ [27] (by decide +kernel) (by decide +kernel)
set_option maxRecDepth 20000 in
theorem gX4_ringsLeft_X4_quotient : GoodIn wsX4_ringsLeft (va_wsS RX4 159 yX4_quotient wsX4_quotient) := goodIn_app (goodIn_of _ (by decide +kernel)) ggX4_ringsLeft_X4_quotient
theorem dX4_ringsLeft_0 : decode cX4_ringsLeft 0 = .ok (.aload_n 0, 1) := by decide +kernel
theorem dX4_ringsLeft_1 : decode cX4_ringsLeft 1 = .ok (.iload_n 1, 1) := by decide +kernel
theorem dX4_ringsLeft_2 : decode cX4_ringsLeft 2 = .ok (.invokevirtual 60, 3) := by decide +kernel
theorem dX4_ringsLeft_5 : decode cX4_ringsLeft 5 = .ok (.aload_n 0, 1) := by decide +kernel
theorem dX4_ringsLeft_6 : decode cX4_ringsLeft 6 = .ok (.getfield 10, 3) := by decide +kernel
theorem dX4_ringsLeft_9 : decode cX4_ringsLeft 9 = .ok (.iload_n 1, 1) := by decide +kernel
theorem dX4_ringsLeft_10 : decode cX4_ringsLeft 10 = .ok (.invokevirtual 92, 3) := by decide +kernel
theorem dX4_ringsLeft_13 : decode cX4_ringsLeft 13 = .ok (.ifCond .eq 7, 3) := by decide +kernel
theorem dX4_ringsLeft_16 : decode cX4_ringsLeft 16 = .ok (.iconst 0, 1) := by decide +kernel
theorem dX4_ringsLeft_17 : decode cX4_ringsLeft 17 = .ok (.goto 27, 3) := by decide +kernel
theorem dX4_ringsLeft_20 : decode cX4_ringsLeft 20 = .ok (.aload_n 0, 1) := by decide +kernel
theorem dX4_ringsLeft_21 : decode cX4_ringsLeft 21 = .ok (.getfield 10, 3) := by decide +kernel
theorem dX4_ringsLeft_24 : decode cX4_ringsLeft 24 = .ok (.getfield 108, 3) := by decide +kernel
theorem dX4_ringsLeft_27 : decode cX4_ringsLeft 27 = .ok (.aload_n 0, 1) := by decide +kernel
theorem dX4_ringsLeft_28 : decode cX4_ringsLeft 28 = .ok (.getfield 10, 3) := by decide +kernel
theorem dX4_ringsLeft_31 : decode cX4_ringsLeft 31 = .ok (.getfield 153, 3) := by decide +kernel
theorem dX4_ringsLeft_34 : decode cX4_ringsLeft 34 = .ok (.iload_n 1, 1) := by decide +kernel
theorem dX4_ringsLeft_35 : decode cX4_ringsLeft 35 = .ok (.invokevirtual 89, 3) := by decide +kernel
theorem dX4_ringsLeft_38 : decode cX4_ringsLeft 38 = .ok (.invokestatic 156, 3) := by decide +kernel
theorem dX4_ringsLeft_41 : decode cX4_ringsLeft 41 = .ok (.invokestatic 159, 3) := by decide +kernel
theorem dX4_ringsLeft_44 : decode cX4_ringsLeft 44 = .ok (.ireturn, 1) := by decide +kernel
set_option maxRecDepth 20000 in
theorem ggX4_floorOf_X4_requireServant : GoodIn wsX4_floorOf wsX4_requireServant := goodIn_ca (goodIn_r _ [6, 7, 8, 1, 15, 16, 17, 18, 19, 20, 21, 22, 23, 24, 25, 26, 27, 28, 29, 30, 31, 32, 33, 34, 35, 36, 37] (by decide +kernel) (by decide +kernel)) (goodIn_sub (fun _ h => List.mem_cons_of_mem _ (List.mem_append_right _ h)) (by decide +kernel))
set_option maxRecDepth 20000 in
theorem gX4_floorOf_X4_requireServant : GoodIn wsX4_floorOf (wsV RX4 163 RX4 yX4_requireServant wsX4_requireServant) := goodIn_app (goodIn_of _ (by decide +kernel)) ggX4_floorOf_X4_requireServant
set_option maxRecDepth 20000 in
theorem ggX4_floorOf_X2_get : GoodIn wsX4_floorOf wsX2_get := goodIn_r _ [13, 14, 38] (by decide +kernel) (by decide +kernel)
set_option maxRecDepth 20000 in
theorem gX4_floorOf_X2_get : GoodIn wsX4_floorOf (wsV RX4 89 RX2 yX2_get wsX2_get) := goodIn_app (goodIn_of _ (by decide +kernel)) ggX4_floorOf_X2_get
theorem dX4_floorOf_0 : decode cX4_floorOf 0 = .ok (.aload_n 0, 1) := by decide +kernel
theorem dX4_floorOf_1 : decode cX4_floorOf 1 = .ok (.iload_n 1, 1) := by decide +kernel
theorem dX4_floorOf_2 : decode cX4_floorOf 2 = .ok (.invokevirtual 163, 3) := by decide +kernel
theorem dX4_floorOf_5 : decode cX4_floorOf 5 = .ok (.aload_n 0, 1) := by decide +kernel
theorem dX4_floorOf_6 : decode cX4_floorOf 6 = .ok (.getfield 10, 3) := by decide +kernel
theorem dX4_floorOf_9 : decode cX4_floorOf 9 = .ok (.getfield 45, 3) := by decide +kernel
theorem dX4_floorOf_12 : decode cX4_floorOf 12 = .ok (.getfield 166, 3) := by decide +kernel
theorem dX4_floorOf_15 : decode cX4_floorOf 15 = .ok (.iload_n 1, 1) := by decide +kernel
theorem dX4_floorOf_16 : decode cX4_floorOf 16 = .ok (.invokevirtual 89, 3) := by decide +kernel
theorem dX4_floorOf_19 : decode cX4_floorOf 19 = .ok (.ireturn, 1) := by decide +kernel
set_option maxRecDepth 20000 in
theorem ggX4_goesTo_X4_requireServant : GoodIn wsX4_goesTo wsX4_requireServant := goodIn_ca (goodIn_r _ [6, 7, 8, 1, 15, 16, 17, 18, 19, 20, 21, 22, 23, 24, 25, 26, 27, 28, 29, 30, 31, 32, 33, 34, 35, 36, 37] (by decide +kernel) (by decide +kernel)) (goodIn_sub (fun _ h => List.mem_cons_of_mem _ (List.mem_append_right _ h)) (by decide +kernel))
set_option maxRecDepth 20000 in
theorem gX4_goesTo_X4_requireServant : GoodIn wsX4_goesTo (wsV RX4 163 RX4 yX4_requireServant wsX4_requireServant) := goodIn_app (goodIn_of _ (by decide +kernel)) ggX4_goesTo_X4_requireServant
set_option maxRecDepth 20000 in
theorem ggX4_goesTo_X2_get : GoodIn wsX4_goesTo wsX2_get := goodIn_r _ [13, 14, 38] (by decide +kernel) (by decide +kernel)
set_option maxRecDepth 20000 in
theorem gX4_goesTo_X2_get : GoodIn wsX4_goesTo (wsV RX4 89 RX2 yX2_get wsX2_get) := goodIn_app (goodIn_of _ (by decide +kernel)) ggX4_goesTo_X2_get
theorem dX4_goesTo_0 : decode cX4_goesTo 0 = .ok (.aload_n 0, 1) := by decide +kernel
theorem dX4_goesTo_1 : decode cX4_goesTo 1 = .ok (.iload_n 1, 1) := by decide +kernel
theorem dX4_goesTo_2 : decode cX4_goesTo 2 = .ok (.invokevirtual 163, 3) := by decide +kernel
theorem dX4_goesTo_5 : decode cX4_goesTo 5 = .ok (.aload_n 0, 1) := by decide +kernel
theorem dX4_goesTo_6 : decode cX4_goesTo 6 = .ok (.getfield 10, 3) := by decide +kernel
theorem dX4_goesTo_9 : decode cX4_goesTo 9 = .ok (.getfield 45, 3) := by decide +kernel
theorem dX4_goesTo_12 : decode cX4_goesTo 12 = .ok (.getfield 167, 3) := by decide +kernel
theorem dX4_goesTo_15 : decode cX4_goesTo 15 = .ok (.iload_n 1, 1) := by decide +kernel
theorem dX4_goesTo_16 : decode cX4_goesTo 16 = .ok (.invokevirtual 89, 3) := by decide +kernel
theorem dX4_goesTo_19 : decode cX4_goesTo 19 = .ok (.ireturn, 1) := by decide +kernel
set_option maxRecDepth 20000 in
theorem ggX4_serves_X4_requireServant : GoodIn wsX4_serves wsX4_requireServant := goodIn_ca (goodIn_r _ [6, 7, 8, 1, 15, 16, 17, 18, 19, 20, 21, 22, 23, 24, 25, 26, 27, 28, 29, 30, 31, 32, 33, 34, 35, 36, 37] (by decide +kernel) (by decide +kernel)) (goodIn_sub (fun _ h => List.mem_cons_of_mem _ (List.mem_append_right _ h)) (by decide +kernel))
set_option maxRecDepth 20000 in
theorem gX4_serves_X4_requireServant : GoodIn wsX4_serves (wsV RX4 163 RX4 yX4_requireServant wsX4_requireServant) := goodIn_app (goodIn_of _ (by decide +kernel)) ggX4_serves_X4_requireServant
set_option maxRecDepth 20000 in
theorem ggX4_serves_X2_get : GoodIn wsX4_serves wsX2_get := goodIn_r _ [13, 14, 38] (by decide +kernel) (by decide +kernel)
set_option maxRecDepth 20000 in
theorem gX4_serves_X2_get : GoodIn wsX4_serves (wsV RX4 89 RX2 yX2_get wsX2_get) := goodIn_app (goodIn_of _ (by decide +kernel)) ggX4_serves_X2_get
theorem dX4_serves_0 : decode cX4_serves 0 = .ok (.aload_n 0, 1) := by decide +kernel
theorem dX4_serves_1 : decode cX4_serves 1 = .ok (.iload_n 1, 1) := by decide +kernel
theorem dX4_serves_2 : decode cX4_serves 2 = .ok (.invokevirtual 163, 3) := by decide +kernel
theorem dX4_serves_5 : decode cX4_serves 5 = .ok (.aload_n 0, 1) := by decide +kernel
theorem dX4_serves_6 : decode cX4_serves 6 = .ok (.getfield 10, 3) := by decide +kernel
theorem dX4_serves_9 : decode cX4_serves 9 = .ok (.getfield 45, 3) := by decide +kernel
theorem dX4_serves_12 : decode cX4_serves 12 = .ok (.getfield 170, 3) := by decide +kernel
theorem dX4_serves_15 : decode cX4_serves 15 = .ok (.iload_n 1, 1) := by decide +kernel
theorem dX4_serves_16 : decode cX4_serves 16 = .ok (.invokevirtual 89, 3) := by decide +kernel
theorem dX4_serves_19 : decode cX4_serves 19 = .ok (.ireturn, 1) := by decide +kernel
set_option maxRecDepth 20000 in
theorem ggX4_minutesLeft_X4_requireServant : GoodIn wsX4_minutesLeft wsX4_requireServant := goodIn_ca (goodIn_r _ [6, 7, 8, 1, 15, 16, 17, 18, 19, 20, 21, 22, 23, 24, 25, 26, 27, 28, 29, 30, 31, 32, 33, 34, 35, 36, 37] (by decide +kernel) (by decide +kernel)) (goodIn_sub (fun _ h => List.mem_cons_of_mem _ (List.mem_append_right _ h)) (by decide +kernel))
set_option maxRecDepth 20000 in
theorem gX4_minutesLeft_X4_requireServant : GoodIn wsX4_minutesLeft (wsV RX4 163 RX4 yX4_requireServant wsX4_requireServant) := goodIn_app (goodIn_of _ (by decide +kernel)) ggX4_minutesLeft_X4_requireServant
set_option maxRecDepth 20000 in
theorem ggX4_minutesLeft_X2_get : GoodIn wsX4_minutesLeft wsX2_get := goodIn_r _ [13, 14, 38] (by decide +kernel) (by decide +kernel)
set_option maxRecDepth 20000 in
theorem gX4_minutesLeft_X2_get : GoodIn wsX4_minutesLeft (wsV RX4 89 RX2 yX2_get wsX2_get) := goodIn_app (goodIn_of _ (by decide +kernel)) ggX4_minutesLeft_X2_get
theorem dX4_minutesLeft_0 : decode cX4_minutesLeft 0 = .ok (.aload_n 0, 1) := by decide +kernel
theorem dX4_minutesLeft_1 : decode cX4_minutesLeft 1 = .ok (.iload_n 1, 1) := by decide +kernel
theorem dX4_minutesLeft_2 : decode cX4_minutesLeft 2 = .ok (.invokevirtual 163, 3) := by decide +kernel
theorem dX4_minutesLeft_5 : decode cX4_minutesLeft 5 = .ok (.aload_n 0, 1) := by decide +kernel
theorem dX4_minutesLeft_6 : decode cX4_minutesLeft 6 = .ok (.getfield 10, 3) := by decide +kernel
theorem dX4_minutesLeft_9 : decode cX4_minutesLeft 9 = .ok (.getfield 45, 3) := by decide +kernel
theorem dX4_minutesLeft_12 : decode cX4_minutesLeft 12 = .ok (.getfield 173, 3) := by decide +kernel
theorem dX4_minutesLeft_15 : decode cX4_minutesLeft 15 = .ok (.iload_n 1, 1) := by decide +kernel
theorem dX4_minutesLeft_16 : decode cX4_minutesLeft 16 = .ok (.invokevirtual 89, 3) := by decide +kernel
theorem dX4_minutesLeft_19 : decode cX4_minutesLeft 19 = .ok (.ireturn, 1) := by decide +kernel
set_option maxRecDepth 20000 in
theorem ggX4_wayTo_X4_requireServant : GoodIn wsX4_wayTo wsX4_requireServant := goodIn_ca (goodIn_r _ [6, 7, 8, 1, 30, 31, 32, 33, 34, 35, 36, 37, 38, 39, 40, 41, 42, 43, 44, 45, 46, 47, 48, 49, 50, 51, 52] (by decide +kernel) (by decide +kernel)) (goodIn_sub (fun _ h => List.mem_cons_of_mem _ (List.mem_append_right _ h)) (by decide +kernel))
set_option maxRecDepth 20000 in
theorem gX4_wayTo_X4_requireServant : GoodIn wsX4_wayTo (wsV RX4 163 RX4 yX4_requireServant wsX4_requireServant) := goodIn_app (goodIn_of _ (by decide +kernel)) ggX4_wayTo_X4_requireServant
set_option maxRecDepth 20000 in
theorem ggX4_wayTo_X4_requireRoom : GoodIn wsX4_wayTo wsX4_requireRoom := goodIn_ca (goodIn_r _ [12, 7, 8, 1, 30, 31, 32, 33, 34, 35, 36, 37, 38, 39, 40, 41, 42, 43, 44, 45, 46] (by decide +kernel) (by decide +kernel)) (goodIn_sub (fun _ h => List.mem_cons_of_mem _ (List.mem_append_right _ h)) (by decide +kernel))
set_option maxRecDepth 20000 in
theorem gX4_wayTo_X4_requireRoom : GoodIn wsX4_wayTo (wsV RX4 60 RX4 yX4_requireRoom wsX4_requireRoom) := goodIn_app (goodIn_of _ (by decide +kernel)) ggX4_wayTo_X4_requireRoom
set_option maxRecDepth 20000 in
theorem ggX4_wayTo_X2_get : GoodIn wsX4_wayTo wsX2_get := goodIn_r _ [17, 18, 53] (by decide +kernel) (by decide +kernel)
set_option maxRecDepth 20000 in
theorem gX4_wayTo_X2_get : GoodIn wsX4_wayTo (wsV RX4 89 RX2 yX2_get wsX2_get) := goodIn_app (goodIn_of _ (by decide +kernel)) ggX4_wayTo_X2_get
set_option maxRecDepth 20000 in
theorem ggX4_wayTo_X3_wayToFloor : GoodIn wsX4_wayTo wsX3_wayToFloor := goodIn_r _ [23, 24, 25, 26, 14, 15, 16, 17, 18, 27, 28, 22, 29, 47, 48, 49, 50, 51, 52, 53] (by decide +kernel) (by decide +kernel)
set_option maxRecDepth 20000 in
theorem gX4_wayTo_X3_wayToFloor : GoodIn wsX4_wayTo (wsV RX4 176 RX3 yX3_wayToFloor wsX3_wayToFloor) := goodIn_app (goodIn_of _ (by decide +kernel)) ggX4_wayTo_X3_wayToFloor
theorem dX4_wayTo_0 : decode cX4_wayTo 0 = .ok (.aload_n 0, 1) := by decide +kernel
theorem dX4_wayTo_1 : decode cX4_wayTo 1 = .ok (.iload_n 1, 1) := by decide +kernel
theorem dX4_wayTo_2 : decode cX4_wayTo 2 = .ok (.invokevirtual 163, 3) := by decide +kernel
theorem dX4_wayTo_5 : decode cX4_wayTo 5 = .ok (.aload_n 0, 1) := by decide +kernel
theorem dX4_wayTo_6 : decode cX4_wayTo 6 = .ok (.iload_n 2, 1) := by decide +kernel
theorem dX4_wayTo_7 : decode cX4_wayTo 7 = .ok (.invokevirtual 60, 3) := by decide +kernel
theorem dX4_wayTo_10 : decode cX4_wayTo 10 = .ok (.aload_n 0, 1) := by decide +kernel
theorem dX4_wayTo_11 : decode cX4_wayTo 11 = .ok (.getfield 10, 3) := by decide +kernel
theorem dX4_wayTo_14 : decode cX4_wayTo 14 = .ok (.getfield 45, 3) := by decide +kernel
theorem dX4_wayTo_17 : decode cX4_wayTo 17 = .ok (.iload_n 1, 1) := by decide +kernel
theorem dX4_wayTo_18 : decode cX4_wayTo 18 = .ok (.aload_n 0, 1) := by decide +kernel
theorem dX4_wayTo_19 : decode cX4_wayTo 19 = .ok (.getfield 10, 3) := by decide +kernel
theorem dX4_wayTo_22 : decode cX4_wayTo 22 = .ok (.getfield 153, 3) := by decide +kernel
theorem dX4_wayTo_25 : decode cX4_wayTo 25 = .ok (.iload_n 2, 1) := by decide +kernel
theorem dX4_wayTo_26 : decode cX4_wayTo 26 = .ok (.invokevirtual 89, 3) := by decide +kernel
theorem dX4_wayTo_29 : decode cX4_wayTo 29 = .ok (.invokevirtual 176, 3) := by decide +kernel
theorem dX4_wayTo_32 : decode cX4_wayTo 32 = .ok (.ireturn, 1) := by decide +kernel
set_option maxRecDepth 20000 in
theorem ggX4_nearestIdle_X4_requireRoom : GoodIn wsX4_nearestIdle wsX4_requireRoom := goodIn_ca (goodIn_r _ [6, 7, 8, 1, 29, 30, 31, 32, 33, 34, 35, 36, 37, 38, 39, 40, 41, 42, 43, 44, 45] (by decide +kernel) (by decide +kernel)) (goodIn_sub (fun _ h => List.mem_cons_of_mem _ (List.mem_append_right _ h)) (by decide +kernel))
set_option maxRecDepth 20000 in
theorem gX4_nearestIdle_X4_requireRoom : GoodIn wsX4_nearestIdle (wsV RX4 60 RX4 yX4_requireRoom wsX4_requireRoom) := goodIn_app (goodIn_of _ (by decide +kernel)) ggX4_nearestIdle_X4_requireRoom
set_option maxRecDepth 20000 in
theorem ggX4_nearestIdle_X2_get : GoodIn wsX4_nearestIdle wsX2_get := goodIn_r _ [13, 14, 46] (by decide +kernel) (by decide +kernel)
set_option maxRecDepth 20000 in
theorem gX4_nearestIdle_X2_get : GoodIn wsX4_nearestIdle (wsV RX4 89 RX2 yX2_get wsX2_get) := goodIn_app (goodIn_of _ (by decide +kernel)) ggX4_nearestIdle_X2_get
set_option maxRecDepth 20000 in
theorem ggX4_nearestIdle_X3_nearestTo : GoodIn wsX4_nearestIdle wsX3_nearestTo := goodIn_r _ [19, 20, 21, 22, 23, 24, 25, 10, 11, 12, 13, 14, 26, 27, 18, 28, 47, 48, 49, 50, 51, 52, 46] (by decide +kernel) (by decide +kernel)
set_option maxRecDepth 20000 in
theorem gX4_nearestIdle_X3_nearestTo : GoodIn wsX4_nearestIdle (wsV RX4 179 RX3 yX3_nearestTo wsX3_nearestTo) := goodIn_app (goodIn_of _ (by decide +kernel)) ggX4_nearestIdle_X3_nearestTo
theorem dX4_nearestIdle_0 : decode cX4_nearestIdle 0 = .ok (.aload_n 0, 1) := by decide +kernel
theorem dX4_nearestIdle_1 : decode cX4_nearestIdle 1 = .ok (.iload_n 1, 1) := by decide +kernel
theorem dX4_nearestIdle_2 : decode cX4_nearestIdle 2 = .ok (.invokevirtual 60, 3) := by decide +kernel
theorem dX4_nearestIdle_5 : decode cX4_nearestIdle 5 = .ok (.aload_n 0, 1) := by decide +kernel
theorem dX4_nearestIdle_6 : decode cX4_nearestIdle 6 = .ok (.getfield 10, 3) := by decide +kernel
theorem dX4_nearestIdle_9 : decode cX4_nearestIdle 9 = .ok (.getfield 45, 3) := by decide +kernel
theorem dX4_nearestIdle_12 : decode cX4_nearestIdle 12 = .ok (.aload_n 0, 1) := by decide +kernel
theorem dX4_nearestIdle_13 : decode cX4_nearestIdle 13 = .ok (.getfield 10, 3) := by decide +kernel
theorem dX4_nearestIdle_16 : decode cX4_nearestIdle 16 = .ok (.getfield 153, 3) := by decide +kernel
theorem dX4_nearestIdle_19 : decode cX4_nearestIdle 19 = .ok (.iload_n 1, 1) := by decide +kernel
theorem dX4_nearestIdle_20 : decode cX4_nearestIdle 20 = .ok (.invokevirtual 89, 3) := by decide +kernel
theorem dX4_nearestIdle_23 : decode cX4_nearestIdle 23 = .ok (.invokevirtual 179, 3) := by decide +kernel
theorem dX4_nearestIdle_26 : decode cX4_nearestIdle 26 = .ok (.ireturn, 1) := by decide +kernel
set_option maxRecDepth 20000 in
theorem ggX4_minutesUntilServed_X4_requireRoom : GoodIn wsX4_minutesUntilServed wsX4_requireRoom := goodIn_ca (goodIn_r _ [7, 8, 9, 2, 138, 139, 140, 141, 142, 143, 144, 145, 146, 147, 148, 149, 150, 151, 152, 153, 154] (by decide +kernel) (by decide +kernel)) (goodIn_sub (fun _ h => List.mem_cons_of_mem _ (List.mem_append_right _ h)) (by decide +kernel))
set_option maxRecDepth 20000 in
theorem gX4_minutesUntilServed_X4_requireRoom : GoodIn wsX4_minutesUntilServed (wsV RX4 60 RX4 yX4_requireRoom wsX4_requireRoom) := goodIn_app (goodIn_of _ (by decide +kernel)) ggX4_minutesUntilServed_X4_requireRoom
set_option maxRecDepth 20000 in
theorem ggX4_minutesUntilServed_X0_copyFrom : GoodIn wsX4_minutesUntilServed wsX0_copyFrom := goodIn_r _ [14, 15, 16, 17, 18, 19, 20, 21, 22, 23, 24, 25, 26, 27, 28, 29, 30, 31, 32, 33, 34, 35, 36, 37, 38, 39, 40, 41, 42, 43, 44, 45, 46, 47, 48, 49, 50, 51, 52, 53, 54, 140, 141, 142, 143, 144, 145, 146, 147, 148, 149, 150, 151, 152, 153, 154, 155, 156, 157, 158, 159, 160, 161, 162, 163] (by decide +kernel) (by decide +kernel)
set_option maxRecDepth 20000 in
theorem gX4_minutesUntilServed_X0_copyFrom : GoodIn wsX4_minutesUntilServed (wsV RX4 182 RX0 yX0_copyFrom wsX0_copyFrom) := goodIn_app (goodIn_of _ (by decide +kernel)) ggX4_minutesUntilServed_X0_copyFrom
set_option maxRecDepth 20000 in
theorem ggX4_minutesUntilServed_X3_isServing : GoodIn wsX4_minutesUntilServed wsX3_isServing := goodIn_r _ [58, 48, 52, 59, 60, 61, 33, 62, 35, 158, 159, 160, 161, 162, 163, 155] (by decide +kernel) (by decide +kernel)
set_option maxRecDepth 20000 in
theorem gX4_minutesUntilServed_X3_isServing : GoodIn wsX4_minutesUntilServed (wsV RX4 186 RX3 yX3_isServing wsX3_isServing) := goodIn_app (goodIn_of _ (by decide +kernel)) ggX4_minutesUntilServed_X3_isServing
set_option maxRecDepth 20000 in
theorem ggX4_minutesUntilServed_X0_isWaiting : GoodIn wsX4_minutesUntilServed wsX0_isWaiting := goodIn_r _ [66, 27, 67, 60, 61, 33, 62, 35, 140, 141, 142, 143, 144, 145, 146, 147, 148, 149, 150, 151, 152, 153, 154, 155] (by decide +kernel) (by decide +kernel)
set_option maxRecDepth 20000 in
theorem gX4_minutesUntilServed_X0_isWaiting : GoodIn wsX4_minutesUntilServed (wsV RX4 68 RX0 yX0_isWaiting wsX0_isWaiting) := goodIn_app (goodIn_of _ (by decide +kernel)) ggX4_minutesUntilServed_X0_isWaiting
set_option maxRecDepth 20000 in
theorem ggX4_minutesUntilServed_X0_letMinuteGoBy : GoodIn wsX4_minutesUntilServed wsX0_letMinuteGoBy := goodIn_r _ [71, 18, 15, 72, 73, 74, 13, 75, 16, 27, 20, 23, 67, 60, 61, 33, 62, 35, 76, 77, 78, 79, 80, 81, 82, 83, 84, 85, 86, 22, 26, 17, 21, 25, 28, 87, 88, 89, 90, 91, 92, 39, 93, 41, 42, 94, 95, 96, 97, 98, 99, 100, 101, 29, 102, 103, 104, 46, 105, 51, 52, 59, 106, 107, 108, 109, 53, 110, 111, 112, 113, 114, 19, 24, 115, 116, 117, 118, 119, 120, 121, 122, 123, 124, 125, 126, 48, 50, 49, 127, 128, 129, 130, 131, 132, 133, 134, 135, 136, 137, 140, 141, 142, 143, 144, 145, 146, 147, 148, 149, 150, 151, 152, 153, 154, 155, 156, 157, 158, 159, 160, 161, 162, 163] (by decide +kernel) (by decide +kernel)
set_option maxRecDepth 20000 in
theorem gX4_minutesUntilServed_X0_letMinuteGoBy : GoodIn wsX4_minutesUntilServed (wsV RX4 129 RX0 yX0_letMinuteGoBy wsX0_letMinuteGoBy) := goodIn_app (goodIn_of _ (by decide +kernel)) ggX4_minutesUntilServed_X0_letMinuteGoBy
theorem dX4_minutesUntilServed_0 : decode cX4_minutesUntilServed 0 = .ok (.aload_n 0, 1) := by decide +kernel
theorem dX4_minutesUntilServed_1 : decode cX4_minutesUntilServed 1 = .ok (.iload_n 1, 1) := by decide +kernel
theorem dX4_minutesUntilServed_2 : decode cX4_minutesUntilServed 2 = .ok (.invokevirtual 60, 3) := by decide +kernel
theorem dX4_minutesUntilServed_5 : decode cX4_minutesUntilServed 5 = .ok (.aload_n 0, 1) := by decide +kernel
theorem dX4_minutesUntilServed_6 : decode cX4_minutesUntilServed 6 = .ok (.getfield 16, 3) := by decide +kernel
theorem dX4_minutesUntilServed_9 : decode cX4_minutesUntilServed 9 = .ok (.aload_n 0, 1) := by decide +kernel
theorem dX4_minutesUntilServed_10 : decode cX4_minutesUntilServed 10 = .ok (.getfield 10, 3) := by decide +kernel
theorem dX4_minutesUntilServed_13 : decode cX4_minutesUntilServed 13 = .ok (.invokevirtual 182, 3) := by decide +kernel
theorem dX4_minutesUntilServed_16 : decode cX4_minutesUntilServed 16 = .ok (.iconst 0, 1) := by decide +kernel
theorem dX4_minutesUntilServed_17 : decode cX4_minutesUntilServed 17 = .ok (.istore_n 2, 1) := by decide +kernel
theorem dX4_minutesUntilServed_18 : decode cX4_minutesUntilServed 18 = .ok (.iload_n 2, 1) := by decide +kernel
theorem dX4_minutesUntilServed_19 : decode cX4_minutesUntilServed 19 = .ok (.bipush 60, 2) := by decide +kernel
theorem dX4_minutesUntilServed_21 : decode cX4_minutesUntilServed 21 = .ok (.if_icmp .gt 46, 3) := by decide +kernel
theorem dX4_minutesUntilServed_24 : decode cX4_minutesUntilServed 24 = .ok (.aload_n 0, 1) := by decide +kernel
theorem dX4_minutesUntilServed_25 : decode cX4_minutesUntilServed 25 = .ok (.getfield 16, 3) := by decide +kernel
theorem dX4_minutesUntilServed_28 : decode cX4_minutesUntilServed 28 = .ok (.getfield 45, 3) := by decide +kernel
theorem dX4_minutesUntilServed_31 : decode cX4_minutesUntilServed 31 = .ok (.iload_n 1, 1) := by decide +kernel
theorem dX4_minutesUntilServed_32 : decode cX4_minutesUntilServed 32 = .ok (.invokevirtual 186, 3) := by decide +kernel
theorem dX4_minutesUntilServed_35 : decode cX4_minutesUntilServed 35 = .ok (.ifCond .eq 5, 3) := by decide +kernel
theorem dX4_minutesUntilServed_38 : decode cX4_minutesUntilServed 38 = .ok (.iload_n 2, 1) := by decide +kernel
theorem dX4_minutesUntilServed_39 : decode cX4_minutesUntilServed 39 = .ok (.ireturn, 1) := by decide +kernel
theorem dX4_minutesUntilServed_40 : decode cX4_minutesUntilServed 40 = .ok (.aload_n 0, 1) := by decide +kernel
theorem dX4_minutesUntilServed_41 : decode cX4_minutesUntilServed 41 = .ok (.getfield 16, 3) := by decide +kernel
theorem dX4_minutesUntilServed_44 : decode cX4_minutesUntilServed 44 = .ok (.iload_n 1, 1) := by decide +kernel
theorem dX4_minutesUntilServed_45 : decode cX4_minutesUntilServed 45 = .ok (.invokevirtual 68, 3) := by decide +kernel
theorem dX4_minutesUntilServed_48 : decode cX4_minutesUntilServed 48 = .ok (.ifCond .ne 5, 3) := by decide +kernel
theorem dX4_minutesUntilServed_51 : decode cX4_minutesUntilServed 51 = .ok (.iconst (-1), 1) := by decide +kernel
theorem dX4_minutesUntilServed_52 : decode cX4_minutesUntilServed 52 = .ok (.ireturn, 1) := by decide +kernel
theorem dX4_minutesUntilServed_53 : decode cX4_minutesUntilServed 53 = .ok (.aload_n 0, 1) := by decide +kernel
theorem dX4_minutesUntilServed_54 : decode cX4_minutesUntilServed 54 = .ok (.getfield 16, 3) := by decide +kernel
theorem dX4_minutesUntilServed_57 : decode cX4_minutesUntilServed 57 = .ok (.invokevirtual 129, 3) := by decide +kernel
theorem dX4_minutesUntilServed_60 : decode cX4_minutesUntilServed 60 = .ok (.pop, 1) := by decide +kernel
theorem dX4_minutesUntilServed_61 : decode cX4_minutesUntilServed 61 = .ok (.iinc 2 1, 3) := by decide +kernel
theorem dX4_minutesUntilServed_64 : decode cX4_minutesUntilServed 64 = .ok (.goto (-46), 3) := by decide +kernel
theorem dX4_minutesUntilServed_67 : decode cX4_minutesUntilServed 67 = .ok (.iconst (-1), 1) := by decide +kernel
theorem dX4_minutesUntilServed_68 : decode cX4_minutesUntilServed 68 = .ok (.ireturn, 1) := by decide +kernel
set_option maxRecDepth 20000 in
theorem ggX4_servedIn_X4_requireMinutes : GoodIn wsX4_servedIn wsX4_requireMinutes := goodIn_ca (goodIn_r _ [6, 7, 8, 9, 10, 5, 11] (by decide +kernel) (by decide +kernel)) (goodIn_sub (fun _ h => List.mem_cons_of_mem _ (List.mem_append_right _ h)) (by decide +kernel))
set_option maxRecDepth 20000 in
theorem gX4_servedIn_X4_requireMinutes : GoodIn wsX4_servedIn (va_wsS RX4 126 yX4_requireMinutes wsX4_requireMinutes) := goodIn_app (goodIn_of _ (by decide +kernel)) ggX4_servedIn_X4_requireMinutes
set_option maxRecDepth 20000 in
theorem ggX4_servedIn_X0_copyFrom : GoodIn wsX4_servedIn wsX0_copyFrom := goodIn_r _ [16, 17, 18, 19, 20, 21, 22, 23, 24, 25, 26, 27, 28, 29, 30, 31, 32, 33, 34, 35, 36, 37, 38, 39, 40, 41, 42, 43, 44, 45, 46, 47, 48, 49, 50, 51, 52, 53, 54, 55, 56, 142, 143, 144, 145, 146, 147, 148, 149, 150, 151, 152, 153, 154, 155, 156, 157, 158, 159, 160, 161, 162, 163, 164, 165] (by decide +kernel) (by decide +kernel)
set_option maxRecDepth 20000 in
theorem gX4_servedIn_X0_copyFrom : GoodIn wsX4_servedIn (wsV RX4 182 RX0 yX0_copyFrom wsX0_copyFrom) := goodIn_app (goodIn_of _ (by decide +kernel)) ggX4_servedIn_X0_copyFrom
set_option maxRecDepth 20000 in
theorem ggX4_servedIn_X4_serveInTrial : GoodIn wsX4_servedIn wsX4_serveInTrial := goodIn_r _ [60, 1, 61, 62, 63, 15, 64, 18, 29, 65, 66, 67, 35, 68, 37, 69, 70, 71, 72, 20, 17, 73, 74, 75, 76, 22, 25, 77, 78, 79, 80, 81, 82, 83, 84, 85, 86, 87, 24, 28, 19, 23, 27, 30, 88, 89, 90, 91, 92, 93, 41, 94, 43, 44, 95, 96, 97, 98, 99, 100, 101, 102, 31, 103, 104, 105, 48, 106, 53, 54, 107, 108, 109, 110, 111, 55, 112, 113, 114, 115, 116, 21, 26, 117, 118, 119, 120, 121, 122, 123, 124, 125, 126, 127, 128, 50, 52, 51, 129, 130, 131, 132, 133, 134, 135, 136, 137, 138, 139, 140, 141, 142, 143, 144, 145, 146, 147, 148, 149, 150, 151, 152, 153, 154, 155, 156, 157, 158, 159, 160, 161, 162, 163, 164, 165] (by decide +kernel) (by decide +kernel)
set_option maxRecDepth 20000 in
theorem gX4_servedIn_X4_serveInTrial : GoodIn wsX4_servedIn (wsV RX4 189 RX4 yX4_serveInTrial wsX4_serveInTrial) := goodIn_app (goodIn_of _ (by decide +kernel)) ggX4_servedIn_X4_serveInTrial
theorem dX4_servedIn_0 : decode cX4_servedIn 0 = .ok (.iload_n 1, 1) := by decide +kernel
theorem dX4_servedIn_1 : decode cX4_servedIn 1 = .ok (.invokestatic 126, 3) := by decide +kernel
theorem dX4_servedIn_4 : decode cX4_servedIn 4 = .ok (.aload_n 0, 1) := by decide +kernel
theorem dX4_servedIn_5 : decode cX4_servedIn 5 = .ok (.getfield 16, 3) := by decide +kernel
theorem dX4_servedIn_8 : decode cX4_servedIn 8 = .ok (.aload_n 0, 1) := by decide +kernel
theorem dX4_servedIn_9 : decode cX4_servedIn 9 = .ok (.getfield 10, 3) := by decide +kernel
theorem dX4_servedIn_12 : decode cX4_servedIn 12 = .ok (.invokevirtual 182, 3) := by decide +kernel
theorem dX4_servedIn_15 : decode cX4_servedIn 15 = .ok (.aload_n 0, 1) := by decide +kernel
theorem dX4_servedIn_16 : decode cX4_servedIn 16 = .ok (.iload_n 1, 1) := by decide +kernel
theorem dX4_servedIn_17 : decode cX4_servedIn 17 = .ok (.invokevirtual 189, 3) := by decide +kernel
theorem dX4_servedIn_20 : decode cX4_servedIn 20 = .ok (.ireturn, 1) := by decide +kernel
set_option maxRecDepth 20000 in
theorem ggX4_bestToCross_X4_requireRoom : GoodIn wsX4_bestToCross wsX4_requireRoom := goodIn_ca (goodIn_r _ [7, 8, 9, 2, 142, 143, 144, 145, 146, 147, 148, 149, 150, 151, 152, 153, 154, 155, 156, 157, 158] (by decide +kernel) (by decide +kernel)) (goodIn_sub (fun _ h => List.mem_cons_of_mem _ (List.mem_append_right _ h)) (by decide +kernel))
set_option maxRecDepth 20000 in
theorem gX4_bestToCross_X4_requireRoom : GoodIn wsX4_bestToCross (wsV RX4 60 RX4 yX4_requireRoom wsX4_requireRoom) := goodIn_app (goodIn_of _ (by decide +kernel)) ggX4_bestToCross_X4_requireRoom
set_option maxRecDepth 20000 in
theorem ggX4_bestToCross_X0_copyFrom : GoodIn wsX4_bestToCross wsX0_copyFrom := goodIn_r _ [14, 15, 16, 17, 18, 19, 20, 21, 22, 23, 24, 25, 26, 27, 28, 29, 30, 31, 32, 33, 34, 35, 36, 37, 38, 39, 40, 41, 42, 43, 44, 45, 46, 47, 48, 49, 50, 51, 52, 53, 54, 144, 145, 146, 147, 148, 149, 150, 151, 152, 153, 154, 155, 156, 157, 158, 159, 160, 161, 162, 163, 164, 165, 166, 167] (by decide +kernel) (by decide +kernel)
set_option maxRecDepth 20000 in
theorem gX4_bestToCross_X0_copyFrom : GoodIn wsX4_bestToCross (wsV RX4 182 RX0 yX0_copyFrom wsX0_copyFrom) := goodIn_app (goodIn_of _ (by decide +kernel)) ggX4_bestToCross_X0_copyFrom
set_option maxRecDepth 20000 in
theorem ggX4_bestToCross_X4_serveInTrial : GoodIn wsX4_bestToCross wsX4_serveInTrial := goodIn_r _ [58, 1, 59, 60, 61, 13, 62, 16, 27, 63, 64, 65, 33, 66, 35, 67, 68, 69, 70, 18, 15, 71, 72, 73, 74, 20, 23, 75, 76, 77, 78, 79, 80, 81, 82, 83, 84, 85, 22, 26, 17, 21, 25, 28, 86, 87, 88, 89, 90, 91, 39, 92, 41, 42, 93, 94, 95, 96, 97, 98, 99, 100, 29, 101, 102, 103, 46, 104, 51, 52, 105, 106, 107, 108, 109, 53, 110, 111, 112, 113, 114, 19, 24, 115, 116, 117, 118, 119, 120, 121, 122, 123, 124, 125, 126, 48, 50, 49, 127, 128, 129, 130, 131, 132, 133, 134, 135, 136, 137, 142, 143, 144, 145, 146, 147, 148, 149, 150, 151, 152, 153, 154, 155, 156, 157, 158, 159, 160, 161, 162, 163, 164, 165, 166, 167] (by decide +kernel) (by decide +kernel)
set_option maxRecDepth 20000 in
theorem gX4_bestToCross_X4_serveInTrial : GoodIn wsX4_bestToCross (wsV RX4 189 RX4 yX4_serveInTrial wsX4_serveInTrial) := goodIn_app (goodIn_of _ (by decide +kernel)) ggX4_bestToCross_X4_serveInTrial
set_option maxRecDepth 20000 in
theorem ggX4_bestToCross_X0_swapWires : GoodIn wsX4_bestToCross wsX0_swapWires := goodIn_r _ [141, 25, 63, 64, 65, 33, 66, 35, 75, 76, 77, 78, 144, 145, 146, 147, 148, 149, 150, 151, 152, 153, 154, 155, 156, 157, 158, 159] (by decide +kernel) (by decide +kernel)
set_option maxRecDepth 20000 in
theorem gX4_bestToCross_X0_swapWires : GoodIn wsX4_bestToCross (wsV RX4 83 RX0 yX0_swapWires wsX0_swapWires) := goodIn_app (goodIn_of _ (by decide +kernel)) ggX4_bestToCross_X0_swapWires
theorem dX4_bestToCross_0 : decode cX4_bestToCross 0 = .ok (.aload_n 0, 1) := by decide +kernel
theorem dX4_bestToCross_1 : decode cX4_bestToCross 1 = .ok (.iload_n 1, 1) := by decide +kernel
theorem dX4_bestToCross_2 : decode cX4_bestToCross 2 = .ok (.invokevirtual 60, 3) := by decide +kernel
theorem dX4_bestToCross_5 : decode cX4_bestToCross 5 = .ok (.aload_n 0, 1) := by decide +kernel
theorem dX4_bestToCross_6 : decode cX4_bestToCross 6 = .ok (.getfield 16, 3) := by decide +kernel
theorem dX4_bestToCross_9 : decode cX4_bestToCross 9 = .ok (.aload_n 0, 1) := by decide +kernel
theorem dX4_bestToCross_10 : decode cX4_bestToCross 10 = .ok (.getfield 10, 3) := by decide +kernel
theorem dX4_bestToCross_13 : decode cX4_bestToCross 13 = .ok (.invokevirtual 182, 3) := by decide +kernel
theorem dX4_bestToCross_16 : decode cX4_bestToCross 16 = .ok (.aload_n 0, 1) := by decide +kernel
theorem dX4_bestToCross_17 : decode cX4_bestToCross 17 = .ok (.bipush 40, 2) := by decide +kernel
theorem dX4_bestToCross_19 : decode cX4_bestToCross 19 = .ok (.invokevirtual 189, 3) := by decide +kernel
theorem dX4_bestToCross_22 : decode cX4_bestToCross 22 = .ok (.istore_n 2, 1) := by decide +kernel
theorem dX4_bestToCross_23 : decode cX4_bestToCross 23 = .ok (.iconst (-1), 1) := by decide +kernel
theorem dX4_bestToCross_24 : decode cX4_bestToCross 24 = .ok (.istore_n 3, 1) := by decide +kernel
theorem dX4_bestToCross_25 : decode cX4_bestToCross 25 = .ok (.iconst 0, 1) := by decide +kernel
theorem dX4_bestToCross_26 : decode cX4_bestToCross 26 = .ok (.istore 4, 2) := by decide +kernel
theorem dX4_bestToCross_28 : decode cX4_bestToCross 28 = .ok (.iload 4, 2) := by decide +kernel
theorem dX4_bestToCross_30 : decode cX4_bestToCross 30 = .ok (.aload_n 0, 1) := by decide +kernel
theorem dX4_bestToCross_31 : decode cX4_bestToCross 31 = .ok (.getfield 10, 3) := by decide +kernel
theorem dX4_bestToCross_34 : decode cX4_bestToCross 34 = .ok (.getfield 30, 3) := by decide +kernel
theorem dX4_bestToCross_37 : decode cX4_bestToCross 37 = .ok (.if_icmp .ge 59, 3) := by decide +kernel
theorem dX4_bestToCross_40 : decode cX4_bestToCross 40 = .ok (.iload 4, 2) := by decide +kernel
theorem dX4_bestToCross_42 : decode cX4_bestToCross 42 = .ok (.iload_n 1, 1) := by decide +kernel
theorem dX4_bestToCross_43 : decode cX4_bestToCross 43 = .ok (.if_icmp .ne 6, 3) := by decide +kernel
theorem dX4_bestToCross_46 : decode cX4_bestToCross 46 = .ok (.goto 44, 3) := by decide +kernel
theorem dX4_bestToCross_49 : decode cX4_bestToCross 49 = .ok (.aload_n 0, 1) := by decide +kernel
theorem dX4_bestToCross_50 : decode cX4_bestToCross 50 = .ok (.getfield 16, 3) := by decide +kernel
theorem dX4_bestToCross_53 : decode cX4_bestToCross 53 = .ok (.aload_n 0, 1) := by decide +kernel
theorem dX4_bestToCross_54 : decode cX4_bestToCross 54 = .ok (.getfield 10, 3) := by decide +kernel
theorem dX4_bestToCross_57 : decode cX4_bestToCross 57 = .ok (.invokevirtual 182, 3) := by decide +kernel
theorem dX4_bestToCross_60 : decode cX4_bestToCross 60 = .ok (.aload_n 0, 1) := by decide +kernel
theorem dX4_bestToCross_61 : decode cX4_bestToCross 61 = .ok (.getfield 16, 3) := by decide +kernel
theorem dX4_bestToCross_64 : decode cX4_bestToCross 64 = .ok (.iload_n 1, 1) := by decide +kernel
theorem dX4_bestToCross_65 : decode cX4_bestToCross 65 = .ok (.iload 4, 2) := by decide +kernel
theorem dX4_bestToCross_67 : decode cX4_bestToCross 67 = .ok (.invokevirtual 83, 3) := by decide +kernel
theorem dX4_bestToCross_70 : decode cX4_bestToCross 70 = .ok (.aload_n 0, 1) := by decide +kernel
theorem dX4_bestToCross_71 : decode cX4_bestToCross 71 = .ok (.bipush 40, 2) := by decide +kernel
theorem dX4_bestToCross_73 : decode cX4_bestToCross 73 = .ok (.invokevirtual 189, 3) := by decide +kernel
theorem dX4_bestToCross_76 : decode cX4_bestToCross 76 = .ok (.istore 5, 2) := by decide +kernel
theorem dX4_bestToCross_78 : decode cX4_bestToCross 78 = .ok (.iload 5, 2) := by decide +kernel
theorem dX4_bestToCross_80 : decode cX4_bestToCross 80 = .ok (.iload_n 2, 1) := by decide +kernel
theorem dX4_bestToCross_81 : decode cX4_bestToCross 81 = .ok (.if_icmp .le 9, 3) := by decide +kernel
theorem dX4_bestToCross_84 : decode cX4_bestToCross 84 = .ok (.iload 5, 2) := by decide +kernel
theorem dX4_bestToCross_86 : decode cX4_bestToCross 86 = .ok (.istore_n 2, 1) := by decide +kernel
theorem dX4_bestToCross_87 : decode cX4_bestToCross 87 = .ok (.iload 4, 2) := by decide +kernel
theorem dX4_bestToCross_89 : decode cX4_bestToCross 89 = .ok (.istore_n 3, 1) := by decide +kernel
theorem dX4_bestToCross_90 : decode cX4_bestToCross 90 = .ok (.iinc 4 1, 3) := by decide +kernel
theorem dX4_bestToCross_93 : decode cX4_bestToCross 93 = .ok (.goto (-65), 3) := by decide +kernel
theorem dX4_bestToCross_96 : decode cX4_bestToCross 96 = .ok (.iload_n 3, 1) := by decide +kernel
theorem dX4_bestToCross_97 : decode cX4_bestToCross 97 = .ok (.ireturn, 1) := by decide +kernel
set_option maxRecDepth 20000 in
theorem ggX4_meanWait_X0_isWaiting : GoodIn wsX4_meanWait wsX0_isWaiting := goodIn_r _ [6, 7, 8, 9, 10, 11, 12, 13, 17, 18, 19, 20, 21, 22, 23, 24, 25, 26, 27, 28, 29, 30, 31, 32] (by decide +kernel) (by decide +kernel)
set_option maxRecDepth 20000 in
theorem gX4_meanWait_X0_isWaiting : GoodIn wsX4_meanWait (wsV RX4 68 RX0 yX0_isWaiting wsX0_isWaiting) := goodIn_app (goodIn_of _ (by decide +kernel)) ggX4_meanWait_X0_isWaiting
set_option maxRecDepth 20000 in
theorem ggX4_meanWait_X2_get : GoodIn wsX4_meanWait wsX2_get := goodIn_r _ [12, 13, 32] (by decide +kernel) (by decide +kernel)
set_option maxRecDepth 20000 in
theorem gX4_meanWait_X2_get : GoodIn wsX4_meanWait (wsV RX4 89 RX2 yX2_get wsX2_get) := goodIn_app (goodIn_of _ (by decide +kernel)) ggX4_meanWait_X2_get
theorem dX4_meanWait_0 : decode cX4_meanWait 0 = .ok (.iconst 0, 1) := by decide +kernel
theorem dX4_meanWait_1 : decode cX4_meanWait 1 = .ok (.istore_n 1, 1) := by decide +kernel
theorem dX4_meanWait_2 : decode cX4_meanWait 2 = .ok (.iconst 0, 1) := by decide +kernel
theorem dX4_meanWait_3 : decode cX4_meanWait 3 = .ok (.istore_n 2, 1) := by decide +kernel
theorem dX4_meanWait_4 : decode cX4_meanWait 4 = .ok (.iconst 0, 1) := by decide +kernel
theorem dX4_meanWait_5 : decode cX4_meanWait 5 = .ok (.istore_n 3, 1) := by decide +kernel
theorem dX4_meanWait_6 : decode cX4_meanWait 6 = .ok (.iload_n 3, 1) := by decide +kernel
theorem dX4_meanWait_7 : decode cX4_meanWait 7 = .ok (.aload_n 0, 1) := by decide +kernel
theorem dX4_meanWait_8 : decode cX4_meanWait 8 = .ok (.getfield 10, 3) := by decide +kernel
theorem dX4_meanWait_11 : decode cX4_meanWait 11 = .ok (.getfield 30, 3) := by decide +kernel
theorem dX4_meanWait_14 : decode cX4_meanWait 14 = .ok (.if_icmp .ge 37, 3) := by decide +kernel
theorem dX4_meanWait_17 : decode cX4_meanWait 17 = .ok (.aload_n 0, 1) := by decide +kernel
theorem dX4_meanWait_18 : decode cX4_meanWait 18 = .ok (.getfield 10, 3) := by decide +kernel
theorem dX4_meanWait_21 : decode cX4_meanWait 21 = .ok (.iload_n 3, 1) := by decide +kernel
theorem dX4_meanWait_22 : decode cX4_meanWait 22 = .ok (.invokevirtual 68, 3) := by decide +kernel
theorem dX4_meanWait_25 : decode cX4_meanWait 25 = .ok (.ifCond .eq 20, 3) := by decide +kernel
theorem dX4_meanWait_28 : decode cX4_meanWait 28 = .ok (.iload_n 1, 1) := by decide +kernel
theorem dX4_meanWait_29 : decode cX4_meanWait 29 = .ok (.aload_n 0, 1) := by decide +kernel
theorem dX4_meanWait_30 : decode cX4_meanWait 30 = .ok (.getfield 10, 3) := by decide +kernel
theorem dX4_meanWait_33 : decode cX4_meanWait 33 = .ok (.getfield 71, 3) := by decide +kernel
theorem dX4_meanWait_36 : decode cX4_meanWait 36 = .ok (.iload_n 3, 1) := by decide +kernel
theorem dX4_meanWait_37 : decode cX4_meanWait 37 = .ok (.invokevirtual 89, 3) := by decide +kernel
theorem dX4_meanWait_40 : decode cX4_meanWait 40 = .ok (.iadd, 1) := by decide +kernel
theorem dX4_meanWait_41 : decode cX4_meanWait 41 = .ok (.istore_n 1, 1) := by decide +kernel
theorem dX4_meanWait_42 : decode cX4_meanWait 42 = .ok (.iinc 2 1, 3) := by decide +kernel
theorem dX4_meanWait_45 : decode cX4_meanWait 45 = .ok (.iinc 3 1, 3) := by decide +kernel
theorem dX4_meanWait_48 : decode cX4_meanWait 48 = .ok (.goto (-42), 3) := by decide +kernel
theorem dX4_meanWait_51 : decode cX4_meanWait 51 = .ok (.iload_n 2, 1) := by decide +kernel
theorem dX4_meanWait_52 : decode cX4_meanWait 52 = .ok (.ifCond .ne 7, 3) := by decide +kernel
theorem dX4_meanWait_55 : decode cX4_meanWait 55 = .ok (.dconst 0, 1) := by decide +kernel
theorem dX4_meanWait_56 : decode cX4_meanWait 56 = .ok (.goto 8, 3) := by decide +kernel
theorem dX4_meanWait_59 : decode cX4_meanWait 59 = .ok (.iload_n 1, 1) := by decide +kernel
theorem dX4_meanWait_60 : decode cX4_meanWait 60 = .ok (.i2d, 1) := by decide +kernel
theorem dX4_meanWait_61 : decode cX4_meanWait 61 = .ok (.iload_n 2, 1) := by decide +kernel
theorem dX4_meanWait_62 : decode cX4_meanWait 62 = .ok (.i2d, 1) := by decide +kernel
theorem dX4_meanWait_63 : decode cX4_meanWait 63 = .ok (.ddiv, 1) := by decide +kernel
theorem dX4_meanWait_64 : decode cX4_meanWait 64 = .ok (.dreturn, 1) := by decide +kernel
set_option maxRecDepth 20000 in
theorem ggX4_digest_X4_minute : GoodIn wsX4_digest wsX4_minute := goodIn_r _ [7, 2, 291, 292, 293, 294, 295, 296, 297, 298, 299, 300, 301, 302, 303, 304, 305, 306, 307] (by decide +kernel) (by decide +kernel)
set_option maxRecDepth 20000 in
theorem gX4_digest_X4_minute : GoodIn wsX4_digest (wsV RX4 194 RX4 yX4_minute wsX4_minute) := goodIn_app (goodIn_of _ (by decide +kernel)) ggX4_digest_X4_minute
set_option maxRecDepth 20000 in
theorem ggX4_digest_X4_mix : GoodIn wsX4_digest wsX4_mix := goodIn_r _ [10, 11] (by decide +kernel) (by decide +kernel)
set_option maxRecDepth 20000 in
theorem gX4_digest_X4_mix : GoodIn wsX4_digest (va_wsS RX4 196 yX4_mix wsX4_mix) := goodIn_app (goodIn_of _ (by decide +kernel)) ggX4_digest_X4_mix
set_option maxRecDepth 20000 in
theorem ggX4_digest_X4_rooms : GoodIn wsX4_digest wsX4_rooms := goodIn_r _ [15, 2, 291, 292, 293, 294, 295, 296, 297, 298, 299, 300, 301, 302, 303, 304, 305, 306, 307] (by decide +kernel) (by decide +kernel)
set_option maxRecDepth 20000 in
theorem gX4_digest_X4_rooms : GoodIn wsX4_digest (wsV RX4 200 RX4 yX4_rooms wsX4_rooms) := goodIn_app (goodIn_of _ (by decide +kernel)) ggX4_digest_X4_rooms
set_option maxRecDepth 20000 in
theorem ggX4_digest_X4_servants : GoodIn wsX4_digest wsX4_servants := goodIn_r _ [19, 2, 291, 292, 293, 294, 295, 296, 297, 298, 299, 300, 301, 302, 303, 304, 305, 306, 307, 308, 309, 310, 311, 312, 313] (by decide +kernel) (by decide +kernel)
set_option maxRecDepth 20000 in
theorem gX4_digest_X4_servants : GoodIn wsX4_digest (wsV RX4 203 RX4 yX4_servants wsX4_servants) := goodIn_app (goodIn_of _ (by decide +kernel)) ggX4_digest_X4_servants
set_option maxRecDepth 20000 in
theorem ggX4_digest_X4_charge : GoodIn wsX4_digest wsX4_charge := goodIn_r _ [23, 2, 291, 292, 293, 294, 295, 296, 297, 298, 299, 300, 301, 302, 303, 304, 305, 306, 307] (by decide +kernel) (by decide +kernel)
set_option maxRecDepth 20000 in
theorem gX4_digest_X4_charge : GoodIn wsX4_digest (wsV RX4 206 RX4 yX4_charge wsX4_charge) := goodIn_app (goodIn_of _ (by decide +kernel)) ggX4_digest_X4_charge
set_option maxRecDepth 20000 in
theorem ggX4_digest_X4_served : GoodIn wsX4_digest wsX4_served := goodIn_r _ [27, 2, 291, 292, 293, 294, 295, 296, 297, 298, 299, 300, 301, 302, 303, 304, 305, 306, 307] (by decide +kernel) (by decide +kernel)
set_option maxRecDepth 20000 in
theorem gX4_digest_X4_served : GoodIn wsX4_digest (wsV RX4 208 RX4 yX4_served wsX4_served) := goodIn_app (goodIn_of _ (by decide +kernel)) ggX4_digest_X4_served
set_option maxRecDepth 20000 in
theorem ggX4_digest_X4_inVain : GoodIn wsX4_digest wsX4_inVain := goodIn_r _ [31, 2, 291, 292, 293, 294, 295, 296, 297, 298, 299, 300, 301, 302, 303, 304, 305, 306, 307] (by decide +kernel) (by decide +kernel)
set_option maxRecDepth 20000 in
theorem gX4_digest_X4_inVain : GoodIn wsX4_digest (wsV RX4 210 RX4 yX4_inVain wsX4_inVain) := goodIn_app (goodIn_of _ (by decide +kernel)) ggX4_digest_X4_inVain
set_option maxRecDepth 20000 in
theorem ggX4_digest_X4_gaveUp : GoodIn wsX4_digest wsX4_gaveUp := goodIn_r _ [35, 2, 291, 292, 293, 294, 295, 296, 297, 298, 299, 300, 301, 302, 303, 304, 305, 306, 307] (by decide +kernel) (by decide +kernel)
set_option maxRecDepth 20000 in
theorem gX4_digest_X4_gaveUp : GoodIn wsX4_digest (wsV RX4 212 RX4 yX4_gaveUp wsX4_gaveUp) := goodIn_app (goodIn_of _ (by decide +kernel)) ggX4_digest_X4_gaveUp
set_option maxRecDepth 20000 in
theorem ggX4_digest_X4_unheard : GoodIn wsX4_digest wsX4_unheard := goodIn_r _ [39, 2, 291, 292, 293, 294, 295, 296, 297, 298, 299, 300, 301, 302, 303, 304, 305, 306, 307] (by decide +kernel) (by decide +kernel)
set_option maxRecDepth 20000 in
theorem gX4_digest_X4_unheard : GoodIn wsX4_digest (wsV RX4 214 RX4 yX4_unheard wsX4_unheard) := goodIn_app (goodIn_of _ (by decide +kernel)) ggX4_digest_X4_unheard
set_option maxRecDepth 20000 in
theorem ggX4_digest_X4_longestWaiting : GoodIn wsX4_digest wsX4_longestWaiting := goodIn_r _ [43, 2, 44, 45, 46, 47, 48, 49, 291, 292, 293, 294, 295, 296, 297, 298, 299, 300, 301, 302, 303, 304, 305, 306, 307, 314] (by decide +kernel) (by decide +kernel)
set_option maxRecDepth 20000 in
theorem gX4_digest_X4_longestWaiting : GoodIn wsX4_digest (wsV RX4 216 RX4 yX4_longestWaiting wsX4_longestWaiting) := goodIn_app (goodIn_of _ (by decide +kernel)) ggX4_digest_X4_longestWaiting
set_option maxRecDepth 20000 in
theorem ggX4_digest_X4_crossed : GoodIn wsX4_digest wsX4_crossed := goodIn_r _ [53, 2, 44, 45, 46, 47, 48, 49, 291, 292, 293, 294, 295, 296, 297, 298, 299, 300, 301, 302, 303, 304, 305, 306, 307, 314] (by decide +kernel) (by decide +kernel)
set_option maxRecDepth 20000 in
theorem gX4_digest_X4_crossed : GoodIn wsX4_digest (wsV RX4 219 RX4 yX4_crossed wsX4_crossed) := goodIn_app (goodIn_of _ (by decide +kernel)) ggX4_digest_X4_crossed
set_option maxRecDepth 20000 in
theorem ggX4_digest_X4_crossingsNeeded : GoodIn wsX4_digest wsX4_crossingsNeeded := goodIn_r _ [57, 2, 58, 59, 60, 61, 62, 63, 64, 65, 45, 46, 47, 48, 49, 291, 292, 293, 294, 295, 296, 297, 298, 299, 300, 301, 302, 303, 304, 305, 306, 307, 314] (by decide +kernel) (by decide +kernel)
set_option maxRecDepth 20000 in
theorem gX4_digest_X4_crossingsNeeded : GoodIn wsX4_digest (wsV RX4 222 RX4 yX4_crossingsNeeded wsX4_crossingsNeeded) := goodIn_app (goodIn_of _ (by decide +kernel)) ggX4_digest_X4_crossingsNeeded
set_option maxRecDepth 20000 in
theorem ggX4_digest_X4_fallen : GoodIn wsX4_digest wsX4_fallen := goodIn_r _ [69, 2, 291, 292, 293, 294, 295, 296, 297, 298, 299, 300, 301, 302, 303, 304, 305, 306, 307, 315, 316] (by decide +kernel) (by decide +kernel)
set_option maxRecDepth 20000 in
theorem gX4_digest_X4_fallen : GoodIn wsX4_digest (wsV RX4 225 RX4 yX4_fallen wsX4_fallen) := goodIn_app (goodIn_of _ (by decide +kernel)) ggX4_digest_X4_fallen
set_option maxRecDepth 20000 in
theorem ggX4_digest_X4_nextDrop : GoodIn wsX4_digest wsX4_nextDrop := goodIn_r _ [73, 2, 74, 75, 76, 77, 78, 79, 80, 291, 292, 293, 294, 295, 296, 297, 298, 299, 300, 301, 302, 303, 304, 305, 306, 307, 315, 316] (by decide +kernel) (by decide +kernel)
set_option maxRecDepth 20000 in
theorem gX4_digest_X4_nextDrop : GoodIn wsX4_digest (wsV RX4 228 RX4 yX4_nextDrop wsX4_nextDrop) := goodIn_app (goodIn_of _ (by decide +kernel)) ggX4_digest_X4_nextDrop
set_option maxRecDepth 20000 in
theorem ggX4_digest_X4_servedIn : GoodIn wsX4_digest wsX4_servedIn := goodIn_ca (goodIn_r _ [84, 85, 2, 86, 87, 6, 88, 89, 90, 91, 92, 93, 94, 95, 96, 61, 97, 98, 64, 99, 100, 101, 102, 103, 104, 105, 106, 63, 107, 108, 109, 110, 111, 112, 113, 47, 114, 49, 115, 116, 117, 77, 118, 79, 80, 119, 120, 121, 122, 123, 124, 125, 126, 127, 128, 129, 130, 131, 132, 133, 134, 135, 136, 137, 138, 65, 45, 46, 48, 139, 140, 141, 142, 143, 144, 145, 146, 147, 148, 149, 150, 151, 152, 153, 154, 155, 156, 157, 158, 159, 160, 161, 162, 163, 164, 165, 166, 167, 168, 169, 170, 171, 172, 173, 174, 175, 176, 177, 178, 179, 180, 181, 182, 183, 184, 185, 186, 187, 188, 189, 190, 191, 75, 76, 78, 192, 193, 194, 195, 196, 197, 198, 199, 200, 201, 202, 203, 204, 205, 206, 291, 292, 293, 294, 295, 296, 297, 298, 299, 300, 301, 302, 303, 304, 305, 306, 307, 314, 315, 316, 308, 309, 310, 311, 312, 313] (by decide +kernel) (by decide +kernel)) (goodIn_sub (fun _ h => List.mem_cons_of_mem _ (List.mem_append_left _ (List.mem_append_right _ h))) (by decide +kernel))
set_option maxRecDepth 20000 in
theorem gX4_digest_X4_servedIn : GoodIn wsX4_digest (wsV RX4 231 RX4 yX4_servedIn wsX4_servedIn) := goodIn_app (goodIn_of _ (by decide +kernel)) ggX4_digest_X4_servedIn
set_option maxRecDepth 20000 in
theorem ggX4_digest_X4_dropOf : GoodIn wsX4_digest wsX4_dropOf := goodIn_ca (goodIn_r _ [210, 2, 211, 212, 213, 6, 214, 215, 216, 44, 45, 46, 47, 48, 49, 291, 292, 293, 294, 295, 296, 297, 298, 299, 300, 301, 302, 303, 304, 305, 306, 307, 314] (by decide +kernel) (by decide +kernel)) (goodIn_sub (fun _ h => List.mem_cons_of_mem _ (List.mem_append_right _ h)) (by decide +kernel))
set_option maxRecDepth 20000 in
theorem gX4_digest_X4_dropOf : GoodIn wsX4_digest (wsV RX4 234 RX4 yX4_dropOf wsX4_dropOf) := goodIn_app (goodIn_of _ (by decide +kernel)) ggX4_digest_X4_dropOf
set_option maxRecDepth 20000 in
theorem ggX4_digest_X4_roomOf : GoodIn wsX4_digest wsX4_roomOf := goodIn_ca (goodIn_r _ [220, 2, 211, 212, 213, 6, 214, 215, 216, 44, 45, 46, 47, 48, 49, 291, 292, 293, 294, 295, 296, 297, 298, 299, 300, 301, 302, 303, 304, 305, 306, 307, 314] (by decide +kernel) (by decide +kernel)) (goodIn_sub (fun _ h => List.mem_cons_of_mem _ (List.mem_append_right _ h)) (by decide +kernel))
set_option maxRecDepth 20000 in
theorem gX4_digest_X4_roomOf : GoodIn wsX4_digest (wsV RX4 237 RX4 yX4_roomOf wsX4_roomOf) := goodIn_app (goodIn_of _ (by decide +kernel)) ggX4_digest_X4_roomOf
set_option maxRecDepth 20000 in
theorem ggX4_digest_X4_isCut : GoodIn wsX4_digest wsX4_isCut := goodIn_ca (goodIn_r _ [224, 2, 211, 212, 213, 6, 214, 215, 216, 225, 226, 227, 61, 228, 107, 65, 45, 46, 47, 48, 49, 291, 292, 293, 294, 295, 296, 297, 298, 299, 300, 301, 302, 303, 304, 305, 306, 307, 314] (by decide +kernel) (by decide +kernel)) (goodIn_sub (fun _ h => List.mem_cons_of_mem _ (List.mem_append_right _ h)) (by decide +kernel))
set_option maxRecDepth 20000 in
theorem gX4_digest_X4_isCut : GoodIn wsX4_digest (wsV RX4 240 RX4 yX4_isCut wsX4_isCut) := goodIn_app (goodIn_of _ (by decide +kernel)) ggX4_digest_X4_isCut
set_option maxRecDepth 20000 in
theorem ggX4_digest_X4_waitedFor : GoodIn wsX4_digest wsX4_waitedFor := goodIn_ca (goodIn_r _ [232, 2, 211, 212, 213, 6, 214, 215, 216, 44, 45, 46, 47, 48, 49, 291, 292, 293, 294, 295, 296, 297, 298, 299, 300, 301, 302, 303, 304, 305, 306, 307, 314] (by decide +kernel) (by decide +kernel)) (goodIn_sub (fun _ h => List.mem_cons_of_mem _ (List.mem_append_right _ h)) (by decide +kernel))
set_option maxRecDepth 20000 in
theorem gX4_digest_X4_waitedFor : GoodIn wsX4_digest (wsV RX4 243 RX4 yX4_waitedFor wsX4_waitedFor) := goodIn_app (goodIn_of _ (by decide +kernel)) ggX4_digest_X4_waitedFor
set_option maxRecDepth 20000 in
theorem ggX4_digest_X4_placeInLine : GoodIn wsX4_digest wsX4_placeInLine := goodIn_ca (goodIn_r _ [236, 2, 211, 212, 213, 6, 214, 215, 216, 237, 162, 163, 77, 164, 79, 80, 291, 292, 293, 294, 295, 296, 297, 298, 299, 300, 301, 302, 303, 304, 305, 306, 307, 315, 316] (by decide +kernel) (by decide +kernel)) (goodIn_sub (fun _ h => List.mem_cons_of_mem _ (List.mem_append_right _ h)) (by decide +kernel))
set_option maxRecDepth 20000 in
theorem gX4_digest_X4_placeInLine : GoodIn wsX4_digest (wsV RX4 246 RX4 yX4_placeInLine wsX4_placeInLine) := goodIn_app (goodIn_of _ (by decide +kernel)) ggX4_digest_X4_placeInLine
set_option maxRecDepth 20000 in
theorem ggX4_digest_X4_ringsLeft : GoodIn wsX4_digest wsX4_ringsLeft := goodIn_ca (goodIn_r _ [241, 2, 211, 212, 213, 6, 214, 215, 216, 225, 226, 227, 61, 228, 107, 65, 45, 46, 47, 48, 49, 44, 242, 159, 160, 243, 244, 245, 291, 292, 293, 294, 295, 296, 297, 298, 299, 300, 301, 302, 303, 304, 305, 306, 307, 314] (by decide +kernel) (by decide +kernel)) (goodIn_sub (fun _ h => List.mem_cons_of_mem _ (List.mem_append_right _ h)) (by decide +kernel))
set_option maxRecDepth 20000 in
theorem gX4_digest_X4_ringsLeft : GoodIn wsX4_digest (wsV RX4 249 RX4 yX4_ringsLeft wsX4_ringsLeft) := goodIn_app (goodIn_of _ (by decide +kernel)) ggX4_digest_X4_ringsLeft
set_option maxRecDepth 20000 in
theorem ggX4_digest_X4_nearestIdle : GoodIn wsX4_digest wsX4_nearestIdle := goodIn_ca (goodIn_r _ [249, 2, 211, 212, 213, 6, 214, 215, 216, 44, 45, 46, 47, 48, 49, 250, 193, 194, 122, 195, 124, 127, 128, 126, 125, 177, 196, 197, 198, 291, 292, 293, 294, 295, 296, 297, 298, 299, 300, 301, 302, 303, 304, 305, 306, 307, 314, 308, 309, 310, 311, 312, 313] (by decide +kernel) (by decide +kernel)) (goodIn_sub (fun _ h => List.mem_cons_of_mem _ (List.mem_append_right _ h)) (by decide +kernel))
set_option maxRecDepth 20000 in
theorem gX4_digest_X4_nearestIdle : GoodIn wsX4_digest (wsV RX4 252 RX4 yX4_nearestIdle wsX4_nearestIdle) := goodIn_app (goodIn_of _ (by decide +kernel)) ggX4_digest_X4_nearestIdle
set_option maxRecDepth 20000 in
theorem ggX4_digest_X4_minutesUntilServed : GoodIn wsX4_digest wsX4_minutesUntilServed := goodIn_ca (goodIn_r _ [254, 85, 2, 211, 212, 213, 6, 214, 215, 216, 94, 95, 96, 61, 97, 98, 64, 99, 100, 101, 102, 103, 104, 105, 106, 63, 107, 108, 109, 110, 111, 112, 113, 47, 114, 49, 115, 116, 117, 77, 118, 79, 80, 119, 120, 121, 122, 123, 124, 125, 126, 127, 128, 129, 130, 255, 256, 257, 258, 177, 45, 46, 48, 259, 260, 261, 262, 65, 139, 140, 141, 142, 143, 144, 145, 146, 147, 148, 149, 150, 151, 152, 153, 154, 155, 156, 157, 158, 159, 160, 161, 162, 163, 164, 165, 166, 167, 168, 169, 170, 171, 172, 173, 174, 175, 176, 178, 179, 180, 181, 182, 183, 184, 185, 186, 187, 188, 189, 190, 191, 75, 76, 78, 192, 193, 194, 195, 196, 197, 198, 199, 200, 201, 202, 203, 204, 205, 206, 291, 292, 293, 294, 295, 296, 297, 298, 299, 300, 301, 302, 303, 304, 305, 306, 307, 314, 315, 316, 308, 309, 310, 311, 312, 313] (by decide +kernel) (by decide +kernel)) (goodIn_sub (fun _ h => List.mem_cons_of_mem _ (List.mem_append_right _ h)) (by decide +kernel))
set_option maxRecDepth 20000 in
theorem gX4_digest_X4_minutesUntilServed : GoodIn wsX4_digest (wsV RX4 255 RX4 yX4_minutesUntilServed wsX4_minutesUntilServed) := goodIn_app (goodIn_of _ (by decide +kernel)) ggX4_digest_X4_minutesUntilServed
set_option maxRecDepth 20000 in
theorem ggX4_digest_X4_bestToCross : GoodIn wsX4_digest wsX4_bestToCross := goodIn_ca (goodIn_r _ [266, 85, 2, 211, 212, 213, 6, 214, 215, 216, 94, 95, 96, 61, 97, 98, 64, 99, 100, 101, 102, 103, 104, 105, 106, 63, 107, 108, 109, 110, 111, 112, 113, 47, 114, 49, 115, 116, 117, 77, 118, 79, 80, 119, 120, 121, 122, 123, 124, 125, 126, 127, 128, 129, 130, 131, 132, 133, 134, 135, 136, 137, 138, 65, 45, 46, 48, 139, 140, 141, 142, 143, 144, 145, 146, 147, 148, 149, 150, 151, 152, 153, 154, 155, 156, 157, 158, 159, 160, 161, 162, 163, 164, 165, 166, 167, 168, 169, 170, 171, 172, 173, 174, 175, 176, 177, 178, 179, 180, 181, 182, 183, 184, 185, 186, 187, 188, 189, 190, 191, 75, 76, 78, 192, 193, 194, 195, 196, 197, 198, 199, 200, 201, 202, 203, 204, 205, 206, 267, 268, 269, 270, 291, 292, 293, 294, 295, 296, 297, 298, 299, 300, 301, 302, 303, 304, 305, 306, 307, 314, 315, 316, 308, 309, 310, 311, 312, 313] (by decide +kernel) (by decide +kernel)) (goodIn_sub (fun _ h => List.mem_cons_of_mem _ (List.mem_append_right _ h)) (by decide +kernel))
set_option maxRecDepth 20000 in
theorem gX4_digest_X4_bestToCross : GoodIn wsX4_digest (wsV RX4 258 RX4 yX4_bestToCross wsX4_bestToCross) := goodIn_app (goodIn_of _ (by decide +kernel)) ggX4_digest_X4_bestToCross
set_option maxRecDepth 20000 in
theorem ggX4_digest_X4_floorOf : GoodIn wsX4_digest wsX4_floorOf := goodIn_ca (goodIn_r _ [274, 2, 275, 276, 277, 6, 278, 215, 216, 44, 45, 46, 47, 48, 49, 291, 292, 293, 294, 295, 296, 297, 298, 299, 300, 301, 302, 303, 304, 305, 306, 307, 308, 309, 310, 311, 312, 313, 314] (by decide +kernel) (by decide +kernel)) (goodIn_sub (fun _ h => List.mem_cons_of_mem _ (List.mem_append_right _ h)) (by decide +kernel))
set_option maxRecDepth 20000 in
theorem gX4_digest_X4_floorOf : GoodIn wsX4_digest (wsV RX4 261 RX4 yX4_floorOf wsX4_floorOf) := goodIn_app (goodIn_of _ (by decide +kernel)) ggX4_digest_X4_floorOf
set_option maxRecDepth 20000 in
theorem ggX4_digest_X4_goesTo : GoodIn wsX4_digest wsX4_goesTo := goodIn_ca (goodIn_r _ [282, 2, 275, 276, 277, 6, 278, 215, 216, 44, 45, 46, 47, 48, 49, 291, 292, 293, 294, 295, 296, 297, 298, 299, 300, 301, 302, 303, 304, 305, 306, 307, 308, 309, 310, 311, 312, 313, 314] (by decide +kernel) (by decide +kernel)) (goodIn_sub (fun _ h => List.mem_cons_of_mem _ (List.mem_append_right _ h)) (by decide +kernel))
set_option maxRecDepth 20000 in
theorem gX4_digest_X4_goesTo : GoodIn wsX4_digest (wsV RX4 264 RX4 yX4_goesTo wsX4_goesTo) := goodIn_app (goodIn_of _ (by decide +kernel)) ggX4_digest_X4_goesTo
set_option maxRecDepth 20000 in
theorem ggX4_digest_X4_serves : GoodIn wsX4_digest wsX4_serves := goodIn_ca (goodIn_r _ [286, 2, 275, 276, 277, 6, 278, 215, 216, 44, 45, 46, 47, 48, 49, 291, 292, 293, 294, 295, 296, 297, 298, 299, 300, 301, 302, 303, 304, 305, 306, 307, 308, 309, 310, 311, 312, 313, 314] (by decide +kernel) (by decide +kernel)) (goodIn_sub (fun _ h => List.mem_cons_of_mem _ (List.mem_append_right _ h)) (by decide +kernel))
set_option maxRecDepth 20000 in
theorem gX4_digest_X4_serves : GoodIn wsX4_digest (wsV RX4 267 RX4 yX4_serves wsX4_serves) := goodIn_app (goodIn_of _ (by decide +kernel)) ggX4_digest_X4_serves
set_option maxRecDepth 20000 in
theorem ggX4_digest_X4_minutesLeft : GoodIn wsX4_digest wsX4_minutesLeft := goodIn_ca (goodIn_r _ [290, 2, 275, 276, 277, 6, 278, 215, 216, 44, 45, 46, 47, 48, 49, 291, 292, 293, 294, 295, 296, 297, 298, 299, 300, 301, 302, 303, 304, 305, 306, 307, 308, 309, 310, 311, 312, 313, 314] (by decide +kernel) (by decide +kernel)) (goodIn_sub (fun _ h => List.mem_cons_of_mem _ (List.mem_append_right _ h)) (by decide +kernel))
set_option maxRecDepth 20000 in
theorem gX4_digest_X4_minutesLeft : GoodIn wsX4_digest (wsV RX4 270 RX4 yX4_minutesLeft wsX4_minutesLeft) := goodIn_app (goodIn_of _ (by decide +kernel)) ggX4_digest_X4_minutesLeft
theorem dX4_digest_0 : decode cX4_digest 0 = .ok (.ldc2_w 192, 3) := by decide +kernel
theorem dX4_digest_3 : decode cX4_digest 3 = .ok (.lstore_n 1, 1) := by decide +kernel
theorem dX4_digest_4 : decode cX4_digest 4 = .ok (.lload_n 1, 1) := by decide +kernel
theorem dX4_digest_5 : decode cX4_digest 5 = .ok (.aload_n 0, 1) := by decide +kernel
theorem dX4_digest_6 : decode cX4_digest 6 = .ok (.invokevirtual 194, 3) := by decide +kernel
theorem dX4_digest_9 : decode cX4_digest 9 = .ok (.invokestatic 196, 3) := by decide +kernel
theorem dX4_digest_12 : decode cX4_digest 12 = .ok (.lstore_n 1, 1) := by decide +kernel
theorem dX4_digest_13 : decode cX4_digest 13 = .ok (.lload_n 1, 1) := by decide +kernel
theorem dX4_digest_14 : decode cX4_digest 14 = .ok (.aload_n 0, 1) := by decide +kernel
theorem dX4_digest_15 : decode cX4_digest 15 = .ok (.invokevirtual 200, 3) := by decide +kernel
theorem dX4_digest_18 : decode cX4_digest 18 = .ok (.invokestatic 196, 3) := by decide +kernel
theorem dX4_digest_21 : decode cX4_digest 21 = .ok (.lstore_n 1, 1) := by decide +kernel
theorem dX4_digest_22 : decode cX4_digest 22 = .ok (.lload_n 1, 1) := by decide +kernel
theorem dX4_digest_23 : decode cX4_digest 23 = .ok (.aload_n 0, 1) := by decide +kernel
theorem dX4_digest_24 : decode cX4_digest 24 = .ok (.invokevirtual 203, 3) := by decide +kernel
theorem dX4_digest_27 : decode cX4_digest 27 = .ok (.invokestatic 196, 3) := by decide +kernel
theorem dX4_digest_30 : decode cX4_digest 30 = .ok (.lstore_n 1, 1) := by decide +kernel
theorem dX4_digest_31 : decode cX4_digest 31 = .ok (.lload_n 1, 1) := by decide +kernel
theorem dX4_digest_32 : decode cX4_digest 32 = .ok (.aload_n 0, 1) := by decide +kernel
theorem dX4_digest_33 : decode cX4_digest 33 = .ok (.invokevirtual 206, 3) := by decide +kernel
theorem dX4_digest_36 : decode cX4_digest 36 = .ok (.invokestatic 196, 3) := by decide +kernel
theorem dX4_digest_39 : decode cX4_digest 39 = .ok (.lstore_n 1, 1) := by decide +kernel
theorem dX4_digest_40 : decode cX4_digest 40 = .ok (.lload_n 1, 1) := by decide +kernel
theorem dX4_digest_41 : decode cX4_digest 41 = .ok (.aload_n 0, 1) := by decide +kernel
theorem dX4_digest_42 : decode cX4_digest 42 = .ok (.invokevirtual 208, 3) := by decide +kernel
theorem dX4_digest_45 : decode cX4_digest 45 = .ok (.invokestatic 196, 3) := by decide +kernel
theorem dX4_digest_48 : decode cX4_digest 48 = .ok (.lstore_n 1, 1) := by decide +kernel
theorem dX4_digest_49 : decode cX4_digest 49 = .ok (.lload_n 1, 1) := by decide +kernel
theorem dX4_digest_50 : decode cX4_digest 50 = .ok (.aload_n 0, 1) := by decide +kernel
theorem dX4_digest_51 : decode cX4_digest 51 = .ok (.invokevirtual 210, 3) := by decide +kernel
theorem dX4_digest_54 : decode cX4_digest 54 = .ok (.invokestatic 196, 3) := by decide +kernel
theorem dX4_digest_57 : decode cX4_digest 57 = .ok (.lstore_n 1, 1) := by decide +kernel
theorem dX4_digest_58 : decode cX4_digest 58 = .ok (.lload_n 1, 1) := by decide +kernel
theorem dX4_digest_59 : decode cX4_digest 59 = .ok (.aload_n 0, 1) := by decide +kernel
theorem dX4_digest_60 : decode cX4_digest 60 = .ok (.invokevirtual 212, 3) := by decide +kernel
theorem dX4_digest_63 : decode cX4_digest 63 = .ok (.invokestatic 196, 3) := by decide +kernel
theorem dX4_digest_66 : decode cX4_digest 66 = .ok (.lstore_n 1, 1) := by decide +kernel
theorem dX4_digest_67 : decode cX4_digest 67 = .ok (.lload_n 1, 1) := by decide +kernel
theorem dX4_digest_68 : decode cX4_digest 68 = .ok (.aload_n 0, 1) := by decide +kernel
theorem dX4_digest_69 : decode cX4_digest 69 = .ok (.invokevirtual 214, 3) := by decide +kernel
theorem dX4_digest_72 : decode cX4_digest 72 = .ok (.invokestatic 196, 3) := by decide +kernel
theorem dX4_digest_75 : decode cX4_digest 75 = .ok (.lstore_n 1, 1) := by decide +kernel
theorem dX4_digest_76 : decode cX4_digest 76 = .ok (.lload_n 1, 1) := by decide +kernel
theorem dX4_digest_77 : decode cX4_digest 77 = .ok (.aload_n 0, 1) := by decide +kernel
theorem dX4_digest_78 : decode cX4_digest 78 = .ok (.invokevirtual 216, 3) := by decide +kernel
theorem dX4_digest_81 : decode cX4_digest 81 = .ok (.invokestatic 196, 3) := by decide +kernel
theorem dX4_digest_84 : decode cX4_digest 84 = .ok (.lstore_n 1, 1) := by decide +kernel
theorem dX4_digest_85 : decode cX4_digest 85 = .ok (.lload_n 1, 1) := by decide +kernel
theorem dX4_digest_86 : decode cX4_digest 86 = .ok (.aload_n 0, 1) := by decide +kernel
theorem dX4_digest_87 : decode cX4_digest 87 = .ok (.invokevirtual 219, 3) := by decide +kernel
theorem dX4_digest_90 : decode cX4_digest 90 = .ok (.invokestatic 196, 3) := by decide +kernel
theorem dX4_digest_93 : decode cX4_digest 93 = .ok (.lstore_n 1, 1) := by decide +kernel
theorem dX4_digest_94 : decode cX4_digest 94 = .ok (.lload_n 1, 1) := by decide +kernel
theorem dX4_digest_95 : decode cX4_digest 95 = .ok (.aload_n 0, 1) := by decide +kernel
theorem dX4_digest_96 : decode cX4_digest 96 = .ok (.invokevirtual 222, 3) := by decide +kernel
theorem dX4_digest_99 : decode cX4_digest 99 = .ok (.invokestatic 196, 3) := by decide +kernel
theorem dX4_digest_102 : decode cX4_digest 102 = .ok (.lstore_n 1, 1) := by decide +kernel
theorem dX4_digest_103 : decode cX4_digest 103 = .ok (.lload_n 1, 1) := by decide +kernel
theorem dX4_digest_104 : decode cX4_digest 104 = .ok (.aload_n 0, 1) := by decide +kernel
theorem dX4_digest_105 : decode cX4_digest 105 = .ok (.invokevirtual 225, 3) := by decide +kernel
theorem dX4_digest_108 : decode cX4_digest 108 = .ok (.invokestatic 196, 3) := by decide +kernel
theorem dX4_digest_111 : decode cX4_digest 111 = .ok (.lstore_n 1, 1) := by decide +kernel
theorem dX4_digest_112 : decode cX4_digest 112 = .ok (.lload_n 1, 1) := by decide +kernel
theorem dX4_digest_113 : decode cX4_digest 113 = .ok (.aload_n 0, 1) := by decide +kernel
theorem dX4_digest_114 : decode cX4_digest 114 = .ok (.invokevirtual 228, 3) := by decide +kernel
theorem dX4_digest_117 : decode cX4_digest 117 = .ok (.invokestatic 196, 3) := by decide +kernel
theorem dX4_digest_120 : decode cX4_digest 120 = .ok (.lstore_n 1, 1) := by decide +kernel
theorem dX4_digest_121 : decode cX4_digest 121 = .ok (.lload_n 1, 1) := by decide +kernel
theorem dX4_digest_122 : decode cX4_digest 122 = .ok (.aload_n 0, 1) := by decide +kernel
theorem dX4_digest_123 : decode cX4_digest 123 = .ok (.bipush 20, 2) := by decide +kernel
theorem dX4_digest_125 : decode cX4_digest 125 = .ok (.invokevirtual 231, 3) := by decide +kernel
theorem dX4_digest_128 : decode cX4_digest 128 = .ok (.invokestatic 196, 3) := by decide +kernel
theorem dX4_digest_131 : decode cX4_digest 131 = .ok (.lstore_n 1, 1) := by decide +kernel
theorem dX4_digest_132 : decode cX4_digest 132 = .ok (.iconst 0, 1) := by decide +kernel
theorem dX4_digest_133 : decode cX4_digest 133 = .ok (.istore_n 3, 1) := by decide +kernel
theorem dX4_digest_134 : decode cX4_digest 134 = .ok (.iload_n 3, 1) := by decide +kernel
theorem dX4_digest_135 : decode cX4_digest 135 = .ok (.aload_n 0, 1) := by decide +kernel
theorem dX4_digest_136 : decode cX4_digest 136 = .ok (.getfield 10, 3) := by decide +kernel
theorem dX4_digest_139 : decode cX4_digest 139 = .ok (.getfield 30, 3) := by decide +kernel
theorem dX4_digest_142 : decode cX4_digest 142 = .ok (.if_icmp .ge 107, 3) := by decide +kernel
theorem dX4_digest_145 : decode cX4_digest 145 = .ok (.lload_n 1, 1) := by decide +kernel
theorem dX4_digest_146 : decode cX4_digest 146 = .ok (.aload_n 0, 1) := by decide +kernel
theorem dX4_digest_147 : decode cX4_digest 147 = .ok (.iload_n 3, 1) := by decide +kernel
theorem dX4_digest_148 : decode cX4_digest 148 = .ok (.invokevirtual 234, 3) := by decide +kernel
theorem dX4_digest_151 : decode cX4_digest 151 = .ok (.invokestatic 196, 3) := by decide +kernel
theorem dX4_digest_154 : decode cX4_digest 154 = .ok (.lstore_n 1, 1) := by decide +kernel
theorem dX4_digest_155 : decode cX4_digest 155 = .ok (.lload_n 1, 1) := by decide +kernel
theorem dX4_digest_156 : decode cX4_digest 156 = .ok (.aload_n 0, 1) := by decide +kernel
theorem dX4_digest_157 : decode cX4_digest 157 = .ok (.iload_n 3, 1) := by decide +kernel
theorem dX4_digest_158 : decode cX4_digest 158 = .ok (.invokevirtual 237, 3) := by decide +kernel
theorem dX4_digest_161 : decode cX4_digest 161 = .ok (.invokestatic 196, 3) := by decide +kernel
theorem dX4_digest_164 : decode cX4_digest 164 = .ok (.lstore_n 1, 1) := by decide +kernel
theorem dX4_digest_165 : decode cX4_digest 165 = .ok (.lload_n 1, 1) := by decide +kernel
theorem dX4_digest_166 : decode cX4_digest 166 = .ok (.aload_n 0, 1) := by decide +kernel
theorem dX4_digest_167 : decode cX4_digest 167 = .ok (.iload_n 3, 1) := by decide +kernel
theorem dX4_digest_168 : decode cX4_digest 168 = .ok (.invokevirtual 240, 3) := by decide +kernel
theorem dX4_digest_171 : decode cX4_digest 171 = .ok (.ifCond .eq 7, 3) := by decide +kernel
theorem dX4_digest_174 : decode cX4_digest 174 = .ok (.iconst 1, 1) := by decide +kernel
theorem dX4_digest_175 : decode cX4_digest 175 = .ok (.goto 4, 3) := by decide +kernel
theorem dX4_digest_178 : decode cX4_digest 178 = .ok (.iconst 0, 1) := by decide +kernel
theorem dX4_digest_179 : decode cX4_digest 179 = .ok (.invokestatic 196, 3) := by decide +kernel
theorem dX4_digest_182 : decode cX4_digest 182 = .ok (.lstore_n 1, 1) := by decide +kernel
theorem dX4_digest_183 : decode cX4_digest 183 = .ok (.lload_n 1, 1) := by decide +kernel
theorem dX4_digest_184 : decode cX4_digest 184 = .ok (.aload_n 0, 1) := by decide +kernel
theorem dX4_digest_185 : decode cX4_digest 185 = .ok (.iload_n 3, 1) := by decide +kernel
theorem dX4_digest_186 : decode cX4_digest 186 = .ok (.invokevirtual 243, 3) := by decide +kernel
theorem dX4_digest_189 : decode cX4_digest 189 = .ok (.invokestatic 196, 3) := by decide +kernel
theorem dX4_digest_192 : decode cX4_digest 192 = .ok (.lstore_n 1, 1) := by decide +kernel
theorem dX4_digest_193 : decode cX4_digest 193 = .ok (.lload_n 1, 1) := by decide +kernel
theorem dX4_digest_194 : decode cX4_digest 194 = .ok (.aload_n 0, 1) := by decide +kernel
theorem dX4_digest_195 : decode cX4_digest 195 = .ok (.iload_n 3, 1) := by decide +kernel
theorem dX4_digest_196 : decode cX4_digest 196 = .ok (.invokevirtual 246, 3) := by decide +kernel
theorem dX4_digest_199 : decode cX4_digest 199 = .ok (.invokestatic 196, 3) := by decide +kernel
theorem dX4_digest_202 : decode cX4_digest 202 = .ok (.lstore_n 1, 1) := by decide +kernel
theorem dX4_digest_203 : decode cX4_digest 203 = .ok (.lload_n 1, 1) := by decide +kernel
theorem dX4_digest_204 : decode cX4_digest 204 = .ok (.aload_n 0, 1) := by decide +kernel
theorem dX4_digest_205 : decode cX4_digest 205 = .ok (.iload_n 3, 1) := by decide +kernel
theorem dX4_digest_206 : decode cX4_digest 206 = .ok (.invokevirtual 249, 3) := by decide +kernel
theorem dX4_digest_209 : decode cX4_digest 209 = .ok (.invokestatic 196, 3) := by decide +kernel
theorem dX4_digest_212 : decode cX4_digest 212 = .ok (.lstore_n 1, 1) := by decide +kernel
theorem dX4_digest_213 : decode cX4_digest 213 = .ok (.lload_n 1, 1) := by decide +kernel
theorem dX4_digest_214 : decode cX4_digest 214 = .ok (.aload_n 0, 1) := by decide +kernel
theorem dX4_digest_215 : decode cX4_digest 215 = .ok (.iload_n 3, 1) := by decide +kernel
theorem dX4_digest_216 : decode cX4_digest 216 = .ok (.invokevirtual 252, 3) := by decide +kernel
theorem dX4_digest_219 : decode cX4_digest 219 = .ok (.invokestatic 196, 3) := by decide +kernel
theorem dX4_digest_222 : decode cX4_digest 222 = .ok (.lstore_n 1, 1) := by decide +kernel
theorem dX4_digest_223 : decode cX4_digest 223 = .ok (.lload_n 1, 1) := by decide +kernel
theorem dX4_digest_224 : decode cX4_digest 224 = .ok (.aload_n 0, 1) := by decide +kernel
theorem dX4_digest_225 : decode cX4_digest 225 = .ok (.iload_n 3, 1) := by decide +kernel
theorem dX4_digest_226 : decode cX4_digest 226 = .ok (.invokevirtual 255, 3) := by decide +kernel
theorem dX4_digest_229 : decode cX4_digest 229 = .ok (.invokestatic 196, 3) := by decide +kernel
theorem dX4_digest_232 : decode cX4_digest 232 = .ok (.lstore_n 1, 1) := by decide +kernel
theorem dX4_digest_233 : decode cX4_digest 233 = .ok (.lload_n 1, 1) := by decide +kernel
theorem dX4_digest_234 : decode cX4_digest 234 = .ok (.aload_n 0, 1) := by decide +kernel
theorem dX4_digest_235 : decode cX4_digest 235 = .ok (.iload_n 3, 1) := by decide +kernel
theorem dX4_digest_236 : decode cX4_digest 236 = .ok (.invokevirtual 258, 3) := by decide +kernel
theorem dX4_digest_239 : decode cX4_digest 239 = .ok (.invokestatic 196, 3) := by decide +kernel
theorem dX4_digest_242 : decode cX4_digest 242 = .ok (.lstore_n 1, 1) := by decide +kernel
theorem dX4_digest_243 : decode cX4_digest 243 = .ok (.iinc 3 1, 3) := by decide +kernel
theorem dX4_digest_246 : decode cX4_digest 246 = .ok (.goto (-112), 3) := by decide +kernel
theorem dX4_digest_249 : decode cX4_digest 249 = .ok (.iconst 0, 1) := by decide +kernel
theorem dX4_digest_250 : decode cX4_digest 250 = .ok (.istore_n 3, 1) := by decide +kernel
theorem dX4_digest_251 : decode cX4_digest 251 = .ok (.iload_n 3, 1) := by decide +kernel
theorem dX4_digest_252 : decode cX4_digest 252 = .ok (.aload_n 0, 1) := by decide +kernel
theorem dX4_digest_253 : decode cX4_digest 253 = .ok (.getfield 10, 3) := by decide +kernel
theorem dX4_digest_256 : decode cX4_digest 256 = .ok (.getfield 45, 3) := by decide +kernel
theorem dX4_digest_259 : decode cX4_digest 259 = .ok (.getfield 49, 3) := by decide +kernel
theorem dX4_digest_262 : decode cX4_digest 262 = .ok (.if_icmp .ge 49, 3) := by decide +kernel
theorem dX4_digest_265 : decode cX4_digest 265 = .ok (.lload_n 1, 1) := by decide +kernel
theorem dX4_digest_266 : decode cX4_digest 266 = .ok (.aload_n 0, 1) := by decide +kernel
theorem dX4_digest_267 : decode cX4_digest 267 = .ok (.iload_n 3, 1) := by decide +kernel
theorem dX4_digest_268 : decode cX4_digest 268 = .ok (.invokevirtual 261, 3) := by decide +kernel
theorem dX4_digest_271 : decode cX4_digest 271 = .ok (.invokestatic 196, 3) := by decide +kernel
theorem dX4_digest_274 : decode cX4_digest 274 = .ok (.lstore_n 1, 1) := by decide +kernel
theorem dX4_digest_275 : decode cX4_digest 275 = .ok (.lload_n 1, 1) := by decide +kernel
theorem dX4_digest_276 : decode cX4_digest 276 = .ok (.aload_n 0, 1) := by decide +kernel
theorem dX4_digest_277 : decode cX4_digest 277 = .ok (.iload_n 3, 1) := by decide +kernel
theorem dX4_digest_278 : decode cX4_digest 278 = .ok (.invokevirtual 264, 3) := by decide +kernel
theorem dX4_digest_281 : decode cX4_digest 281 = .ok (.invokestatic 196, 3) := by decide +kernel
theorem dX4_digest_284 : decode cX4_digest 284 = .ok (.lstore_n 1, 1) := by decide +kernel
theorem dX4_digest_285 : decode cX4_digest 285 = .ok (.lload_n 1, 1) := by decide +kernel
theorem dX4_digest_286 : decode cX4_digest 286 = .ok (.aload_n 0, 1) := by decide +kernel
theorem dX4_digest_287 : decode cX4_digest 287 = .ok (.iload_n 3, 1) := by decide +kernel
theorem dX4_digest_288 : decode cX4_digest 288 = .ok (.invokevirtual 267, 3) := by decide +kernel
theorem dX4_digest_291 : decode cX4_digest 291 = .ok (.invokestatic 196, 3) := by decide +kernel
theorem dX4_digest_294 : decode cX4_digest 294 = .ok (.lstore_n 1, 1) := by decide +kernel
theorem dX4_digest_295 : decode cX4_digest 295 = .ok (.lload_n 1, 1) := by decide +kernel
theorem dX4_digest_296 : decode cX4_digest 296 = .ok (.aload_n 0, 1) := by decide +kernel
theorem dX4_digest_297 : decode cX4_digest 297 = .ok (.iload_n 3, 1) := by decide +kernel
theorem dX4_digest_298 : decode cX4_digest 298 = .ok (.invokevirtual 270, 3) := by decide +kernel
theorem dX4_digest_301 : decode cX4_digest 301 = .ok (.invokestatic 196, 3) := by decide +kernel
theorem dX4_digest_304 : decode cX4_digest 304 = .ok (.lstore_n 1, 1) := by decide +kernel
theorem dX4_digest_305 : decode cX4_digest 305 = .ok (.iinc 3 1, 3) := by decide +kernel
theorem dX4_digest_308 : decode cX4_digest 308 = .ok (.goto (-57), 3) := by decide +kernel
theorem dX4_digest_311 : decode cX4_digest 311 = .ok (.lload_n 1, 1) := by decide +kernel
theorem dX4_digest_312 : decode cX4_digest 312 = .ok (.lreturn, 1) := by decide +kernel
theorem dX4_requireRoom_0 : decode cX4_requireRoom 0 = .ok (.iload_n 1, 1) := by decide +kernel
theorem dX4_requireRoom_1 : decode cX4_requireRoom 1 = .ok (.ifCond .lt 14, 3) := by decide +kernel
theorem dX4_requireRoom_4 : decode cX4_requireRoom 4 = .ok (.iload_n 1, 1) := by decide +kernel
theorem dX4_requireRoom_5 : decode cX4_requireRoom 5 = .ok (.aload_n 0, 1) := by decide +kernel
theorem dX4_requireRoom_6 : decode cX4_requireRoom 6 = .ok (.getfield 10, 3) := by decide +kernel
theorem dX4_requireRoom_9 : decode cX4_requireRoom 9 = .ok (.getfield 30, 3) := by decide +kernel
theorem dX4_requireRoom_12 : decode cX4_requireRoom 12 = .ok (.if_icmp .lt 14, 3) := by decide +kernel
theorem dX4_requireRoom_15 : decode cX4_requireRoom 15 = .ok (.new 273, 3) := by decide +kernel
theorem dX4_requireRoom_18 : decode cX4_requireRoom 18 = .ok (.dup, 1) := by decide +kernel
theorem dX4_requireRoom_19 : decode cX4_requireRoom 19 = .ok (.ldc_w 275, 3) := by decide +kernel
theorem dX4_requireRoom_22 : decode cX4_requireRoom 22 = .ok (.invokespecial 277, 3) := by decide +kernel
theorem dX4_requireRoom_25 : decode cX4_requireRoom 25 = .ok (.athrow, 1) := by decide +kernel
theorem dX4_requireRoom_26 : decode cX4_requireRoom 26 = .ok (.return_, 1) := by decide +kernel
theorem dX4_requireServant_0 : decode cX4_requireServant 0 = .ok (.iload_n 1, 1) := by decide +kernel
theorem dX4_requireServant_1 : decode cX4_requireServant 1 = .ok (.ifCond .lt 17, 3) := by decide +kernel
theorem dX4_requireServant_4 : decode cX4_requireServant 4 = .ok (.iload_n 1, 1) := by decide +kernel
theorem dX4_requireServant_5 : decode cX4_requireServant 5 = .ok (.aload_n 0, 1) := by decide +kernel
theorem dX4_requireServant_6 : decode cX4_requireServant 6 = .ok (.getfield 10, 3) := by decide +kernel
theorem dX4_requireServant_9 : decode cX4_requireServant 9 = .ok (.getfield 45, 3) := by decide +kernel
theorem dX4_requireServant_12 : decode cX4_requireServant 12 = .ok (.getfield 49, 3) := by decide +kernel
theorem dX4_requireServant_15 : decode cX4_requireServant 15 = .ok (.if_icmp .lt 14, 3) := by decide +kernel
theorem dX4_requireServant_18 : decode cX4_requireServant 18 = .ok (.new 273, 3) := by decide +kernel
theorem dX4_requireServant_21 : decode cX4_requireServant 21 = .ok (.dup, 1) := by decide +kernel
theorem dX4_requireServant_22 : decode cX4_requireServant 22 = .ok (.ldc_w 278, 3) := by decide +kernel
theorem dX4_requireServant_25 : decode cX4_requireServant 25 = .ok (.invokespecial 277, 3) := by decide +kernel
theorem dX4_requireServant_28 : decode cX4_requireServant 28 = .ok (.athrow, 1) := by decide +kernel
theorem dX4_requireServant_29 : decode cX4_requireServant 29 = .ok (.return_, 1) := by decide +kernel
set_option maxRecDepth 20000 in
theorem ggX4_requireMinutes_X4_isWithin : GoodIn wsX4_requireMinutes wsX4_isWithin := goodIn_r _ [6] (by decide +kernel) (by decide +kernel)
set_option maxRecDepth 20000 in
theorem gX4_requireMinutes_X4_isWithin : GoodIn wsX4_requireMinutes (va_wsS RX4 19 yX4_isWithin wsX4_isWithin) := goodIn_app (goodIn_of _ (by decide +kernel)) ggX4_requireMinutes_X4_isWithin
theorem dX4_requireMinutes_0 : decode cX4_requireMinutes 0 = .ok (.iload_n 0, 1) := by decide +kernel
theorem dX4_requireMinutes_1 : decode cX4_requireMinutes 1 = .ok (.iconst 1, 1) := by decide +kernel
theorem dX4_requireMinutes_2 : decode cX4_requireMinutes 2 = .ok (.bipush 60, 2) := by decide +kernel
theorem dX4_requireMinutes_4 : decode cX4_requireMinutes 4 = .ok (.invokestatic 19, 3) := by decide +kernel
theorem dX4_requireMinutes_7 : decode cX4_requireMinutes 7 = .ok (.ifCond .ne 14, 3) := by decide +kernel
theorem dX4_requireMinutes_10 : decode cX4_requireMinutes 10 = .ok (.new 23, 3) := by decide +kernel
theorem dX4_requireMinutes_13 : decode cX4_requireMinutes 13 = .ok (.dup, 1) := by decide +kernel
theorem dX4_requireMinutes_14 : decode cX4_requireMinutes 14 = .ok (.ldc_w 280, 3) := by decide +kernel
theorem dX4_requireMinutes_17 : decode cX4_requireMinutes 17 = .ok (.invokespecial 27, 3) := by decide +kernel
theorem dX4_requireMinutes_20 : decode cX4_requireMinutes 20 = .ok (.athrow, 1) := by decide +kernel
theorem dX4_requireMinutes_21 : decode cX4_requireMinutes 21 = .ok (.return_, 1) := by decide +kernel
theorem dX4_isWithin_0 : decode cX4_isWithin 0 = .ok (.iload_n 0, 1) := by decide +kernel
theorem dX4_isWithin_1 : decode cX4_isWithin 1 = .ok (.iload_n 1, 1) := by decide +kernel
theorem dX4_isWithin_2 : decode cX4_isWithin 2 = .ok (.if_icmp .lt 12, 3) := by decide +kernel
theorem dX4_isWithin_5 : decode cX4_isWithin 5 = .ok (.iload_n 0, 1) := by decide +kernel
theorem dX4_isWithin_6 : decode cX4_isWithin 6 = .ok (.iload_n 2, 1) := by decide +kernel
theorem dX4_isWithin_7 : decode cX4_isWithin 7 = .ok (.if_icmp .gt 7, 3) := by decide +kernel
theorem dX4_isWithin_10 : decode cX4_isWithin 10 = .ok (.iconst 1, 1) := by decide +kernel
theorem dX4_isWithin_11 : decode cX4_isWithin 11 = .ok (.goto 4, 3) := by decide +kernel
theorem dX4_isWithin_14 : decode cX4_isWithin 14 = .ok (.iconst 0, 1) := by decide +kernel
theorem dX4_isWithin_15 : decode cX4_isWithin 15 = .ok (.ireturn, 1) := by decide +kernel
set_option maxRecDepth 20000 in
theorem ggX4_serveInTrial_X0_isAnyoneWaiting : GoodIn wsX4_serveInTrial wsX0_isAnyoneWaiting := goodIn_r _ [6, 7, 8, 9, 10, 11, 12, 13, 14, 111, 112, 113, 114, 115, 116, 117, 118, 119, 120, 121, 122, 123, 124, 125, 126] (by decide +kernel) (by decide +kernel)
set_option maxRecDepth 20000 in
theorem gX4_serveInTrial_X0_isAnyoneWaiting : GoodIn wsX4_serveInTrial (wsV RX4 282 RX0 yX0_isAnyoneWaiting wsX0_isAnyoneWaiting) := goodIn_app (goodIn_of _ (by decide +kernel)) ggX4_serveInTrial_X0_isAnyoneWaiting
set_option maxRecDepth 20000 in
theorem ggX4_serveInTrial_X0_letMinuteGoBy : GoodIn wsX4_serveInTrial wsX0_letMinuteGoBy := goodIn_r _ [18, 19, 20, 21, 22, 23, 5, 24, 7, 8, 25, 26, 9, 10, 11, 12, 13, 14, 27, 28, 29, 30, 31, 32, 33, 34, 35, 36, 37, 38, 39, 40, 41, 42, 43, 44, 45, 46, 47, 48, 49, 50, 51, 52, 53, 54, 55, 56, 57, 58, 59, 60, 61, 62, 63, 64, 65, 66, 67, 68, 69, 70, 71, 72, 73, 74, 75, 76, 77, 78, 79, 80, 81, 82, 83, 84, 85, 86, 87, 88, 89, 90, 91, 92, 93, 94, 95, 96, 97, 98, 99, 100, 101, 102, 103, 104, 105, 106, 107, 108, 111, 112, 113, 114, 115, 116, 117, 118, 119, 120, 121, 122, 123, 124, 125, 126, 127, 128, 129, 130, 131, 132, 133, 134] (by decide +kernel) (by decide +kernel)
set_option maxRecDepth 20000 in
theorem gX4_serveInTrial_X0_letMinuteGoBy : GoodIn wsX4_serveInTrial (wsV RX4 129 RX0 yX0_letMinuteGoBy wsX0_letMinuteGoBy) := goodIn_app (goodIn_of _ (by decide +kernel)) ggX4_serveInTrial_X0_letMinuteGoBy
theorem dX4_serveInTrial_0 : decode cX4_serveInTrial 0 = .ok (.iconst 0, 1) := by decide +kernel
theorem dX4_serveInTrial_1 : decode cX4_serveInTrial 1 = .ok (.istore_n 2, 1) := by decide +kernel
theorem dX4_serveInTrial_2 : decode cX4_serveInTrial 2 = .ok (.iconst 0, 1) := by decide +kernel
theorem dX4_serveInTrial_3 : decode cX4_serveInTrial 3 = .ok (.istore_n 3, 1) := by decide +kernel
theorem dX4_serveInTrial_4 : decode cX4_serveInTrial 4 = .ok (.iload_n 3, 1) := by decide +kernel
theorem dX4_serveInTrial_5 : decode cX4_serveInTrial 5 = .ok (.iload_n 1, 1) := by decide +kernel
theorem dX4_serveInTrial_6 : decode cX4_serveInTrial 6 = .ok (.if_icmp .ge 29, 3) := by decide +kernel
theorem dX4_serveInTrial_9 : decode cX4_serveInTrial 9 = .ok (.aload_n 0, 1) := by decide +kernel
theorem dX4_serveInTrial_10 : decode cX4_serveInTrial 10 = .ok (.getfield 16, 3) := by decide +kernel
theorem dX4_serveInTrial_13 : decode cX4_serveInTrial 13 = .ok (.invokevirtual 282, 3) := by decide +kernel
theorem dX4_serveInTrial_16 : decode cX4_serveInTrial 16 = .ok (.ifCond .eq 19, 3) := by decide +kernel
theorem dX4_serveInTrial_19 : decode cX4_serveInTrial 19 = .ok (.iload_n 2, 1) := by decide +kernel
theorem dX4_serveInTrial_20 : decode cX4_serveInTrial 20 = .ok (.aload_n 0, 1) := by decide +kernel
theorem dX4_serveInTrial_21 : decode cX4_serveInTrial 21 = .ok (.getfield 16, 3) := by decide +kernel
theorem dX4_serveInTrial_24 : decode cX4_serveInTrial 24 = .ok (.invokevirtual 129, 3) := by decide +kernel
theorem dX4_serveInTrial_27 : decode cX4_serveInTrial 27 = .ok (.iadd, 1) := by decide +kernel
theorem dX4_serveInTrial_28 : decode cX4_serveInTrial 28 = .ok (.istore_n 2, 1) := by decide +kernel
theorem dX4_serveInTrial_29 : decode cX4_serveInTrial 29 = .ok (.iinc 3 1, 3) := by decide +kernel
theorem dX4_serveInTrial_32 : decode cX4_serveInTrial 32 = .ok (.goto (-28), 3) := by decide +kernel
theorem dX4_serveInTrial_35 : decode cX4_serveInTrial 35 = .ok (.iload_n 2, 1) := by decide +kernel
theorem dX4_serveInTrial_36 : decode cX4_serveInTrial 36 = .ok (.ireturn, 1) := by decide +kernel
theorem dX4_quotient_0 : decode cX4_quotient 0 = .ok (.iload_n 1, 1) := by decide +kernel
theorem dX4_quotient_1 : decode cX4_quotient 1 = .ok (.iconst 1, 1) := by decide +kernel
theorem dX4_quotient_2 : decode cX4_quotient 2 = .ok (.if_icmp .ge 7, 3) := by decide +kernel
theorem dX4_quotient_5 : decode cX4_quotient 5 = .ok (.iconst 0, 1) := by decide +kernel
theorem dX4_quotient_6 : decode cX4_quotient 6 = .ok (.goto 6, 3) := by decide +kernel
theorem dX4_quotient_9 : decode cX4_quotient 9 = .ok (.iload_n 0, 1) := by decide +kernel
theorem dX4_quotient_10 : decode cX4_quotient 10 = .ok (.iload_n 1, 1) := by decide +kernel
theorem dX4_quotient_11 : decode cX4_quotient 11 = .ok (.idiv, 1) := by decide +kernel
theorem dX4_quotient_12 : decode cX4_quotient 12 = .ok (.ireturn, 1) := by decide +kernel
theorem dX4_mix_0 : decode cX4_mix 0 = .ok (.lload_n 0, 1) := by decide +kernel
theorem dX4_mix_1 : decode cX4_mix 1 = .ok (.ldc2_w 286, 3) := by decide +kernel
theorem dX4_mix_4 : decode cX4_mix 4 = .ok (.lmul, 1) := by decide +kernel
theorem dX4_mix_5 : decode cX4_mix 5 = .ok (.iload_n 2, 1) := by decide +kernel
theorem dX4_mix_6 : decode cX4_mix 6 = .ok (.i2l, 1) := by decide +kernel
theorem dX4_mix_7 : decode cX4_mix 7 = .ok (.ladd, 1) := by decide +kernel
theorem dX4_mix_8 : decode cX4_mix 8 = .ok (.lreturn, 1) := by decide +kernel
