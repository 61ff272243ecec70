theorem dX5_init_0 : decode cX5_init 0 = .ok (.aload_n 0, 1) := by decide +kernel
theorem dX5_init_1 : decode cX5_init 1 = .ok (.invokespecial 1, 3) := by decide +kernel
theorem dX5_init_4 : decode cX5_init 4 = .ok (.aload_n 0, 1) := by decide +kernel
theorem dX5_init_5 : decode cX5_init 5 = .ok (.iconst 0, 1) := by decide +kernel
theorem dX5_init_6 : decode cX5_init 6 = .ok (.anewarray 7, 3) := by decide +kernel
theorem dX5_init_9 : decode cX5_init 9 = .ok (.putfield 9, 3) := by decide +kernel
theorem dX5_init_12 : decode cX5_init 12 = .ok (.aload_n 0, 1) := by decide +kernel
theorem dX5_init_13 : decode cX5_init 13 = .ok (.iconst 0, 1) := by decide +kernel
theorem dX5_init_14 : decode cX5_init 14 = .ok (.anewarray 7, 3) := by decide +kernel
theorem dX5_init_17 : decode cX5_init 17 = .ok (.putfield 15, 3) := by decide +kernel
theorem dX5_init_20 : decode cX5_init 20 = .ok (.aload_n 0, 1) := by decide +kernel
theorem dX5_init_21 : decode cX5_init 21 = .ok (.iconst 0, 1) := by decide +kernel
theorem dX5_init_22 : decode cX5_init 22 = .ok (.newarray .int, 2) := by decide +kernel
theorem dX5_init_24 : decode cX5_init 24 = .ok (.putfield 18, 3) := by decide +kernel
theorem dX5_init_27 : decode cX5_init 27 = .ok (.aload_n 0, 1) := by decide +kernel
theorem dX5_init_28 : decode cX5_init 28 = .ok (.sipush 200, 3) := by decide +kernel
theorem dX5_init_31 : decode cX5_init 31 = .ok (.putfield 21, 3) := by decide +kernel
theorem dX5_init_34 : decode cX5_init 34 = .ok (.return_, 1) := by decide +kernel
theorem dX5_with_0 : decode cX5_with 0 = .ok (.aload_n 0, 1) := by decide +kernel
theorem dX5_with_1 : decode cX5_with 1 = .ok (.arraylength, 1) := by decide +kernel
theorem dX5_with_2 : decode cX5_with 2 = .ok (.iconst 1, 1) := by decide +kernel
theorem dX5_with_3 : decode cX5_with 3 = .ok (.iadd, 1) := by decide +kernel
theorem dX5_with_4 : decode cX5_with 4 = .ok (.anewarray 7, 3) := by decide +kernel
theorem dX5_with_7 : decode cX5_with 7 = .ok (.astore_n 2, 1) := by decide +kernel
theorem dX5_with_8 : decode cX5_with 8 = .ok (.iconst 0, 1) := by decide +kernel
theorem dX5_with_9 : decode cX5_with 9 = .ok (.istore_n 3, 1) := by decide +kernel
theorem dX5_with_10 : decode cX5_with 10 = .ok (.iload_n 3, 1) := by decide +kernel
theorem dX5_with_11 : decode cX5_with 11 = .ok (.aload_n 0, 1) := by decide +kernel
theorem dX5_with_12 : decode cX5_with 12 = .ok (.arraylength, 1) := by decide +kernel
theorem dX5_with_13 : decode cX5_with 13 = .ok (.if_icmp .ge 15, 3) := by decide +kernel
theorem dX5_with_16 : decode cX5_with 16 = .ok (.aload_n 2, 1) := by decide +kernel
theorem dX5_with_17 : decode cX5_with 17 = .ok (.iload_n 3, 1) := by decide +kernel
theorem dX5_with_18 : decode cX5_with 18 = .ok (.aload_n 0, 1) := by decide +kernel
theorem dX5_with_19 : decode cX5_with 19 = .ok (.iload_n 3, 1) := by decide +kernel
theorem dX5_with_20 : decode cX5_with 20 = .ok (.aaload, 1) := by decide +kernel
theorem dX5_with_21 : decode cX5_with 21 = .ok (.aastore, 1) := by decide +kernel
theorem dX5_with_22 : decode cX5_with 22 = .ok (.iinc 3 1, 3) := by decide +kernel
theorem dX5_with_25 : decode cX5_with 25 = .ok (.goto (-15), 3) := by decide +kernel
theorem dX5_with_28 : decode cX5_with 28 = .ok (.aload_n 2, 1) := by decide +kernel
theorem dX5_with_29 : decode cX5_with 29 = .ok (.aload_n 0, 1) := by decide +kernel
theorem dX5_with_30 : decode cX5_with 30 = .ok (.arraylength, 1) := by decide +kernel
theorem dX5_with_31 : decode cX5_with 31 = .ok (.aload_n 1, 1) := by decide +kernel
theorem dX5_with_32 : decode cX5_with 32 = .ok (.aastore, 1) := by decide +kernel
theorem dX5_with_33 : decode cX5_with 33 = .ok (.aload_n 2, 1) := by decide +kernel
theorem dX5_with_34 : decode cX5_with 34 = .ok (.areturn, 1) := by decide +kernel
set_option maxRecDepth 20000 in
theorem ggX5_copy_X5_init : GoodIn wsX5_copy wsX5_init := goodIn_r _ [21, 22, 23, 24, 5, 4, 11, 25, 12, 14, 26, 27, 28, 29, 30, 31, 32, 33, 34] (by decide +kernel) (by decide +kernel)
set_option maxRecDepth 20000 in
theorem gX5_copy_X5_init : GoodIn wsX5_copy (wsX5_init) := ggX5_copy_X5_init
theorem dX5_copy_0 : decode cX5_copy 0 = .ok (.new 10, 3) := by decide +kernel
theorem dX5_copy_3 : decode cX5_copy 3 = .ok (.dup, 1) := by decide +kernel
theorem dX5_copy_4 : decode cX5_copy 4 = .ok (.invokespecial 25, 3) := by decide +kernel
theorem dX5_copy_7 : decode cX5_copy 7 = .ok (.astore_n 1, 1) := by decide +kernel
theorem dX5_copy_8 : decode cX5_copy 8 = .ok (.aload_n 1, 1) := by decide +kernel
theorem dX5_copy_9 : decode cX5_copy 9 = .ok (.aload_n 0, 1) := by decide +kernel
theorem dX5_copy_10 : decode cX5_copy 10 = .ok (.getfield 9, 3) := by decide +kernel
theorem dX5_copy_13 : decode cX5_copy 13 = .ok (.arraylength, 1) := by decide +kernel
theorem dX5_copy_14 : decode cX5_copy 14 = .ok (.anewarray 7, 3) := by decide +kernel
theorem dX5_copy_17 : decode cX5_copy 17 = .ok (.putfield 9, 3) := by decide +kernel
theorem dX5_copy_20 : decode cX5_copy 20 = .ok (.iconst 0, 1) := by decide +kernel
theorem dX5_copy_21 : decode cX5_copy 21 = .ok (.istore_n 2, 1) := by decide +kernel
theorem dX5_copy_22 : decode cX5_copy 22 = .ok (.iload_n 2, 1) := by decide +kernel
theorem dX5_copy_23 : decode cX5_copy 23 = .ok (.aload_n 0, 1) := by decide +kernel
theorem dX5_copy_24 : decode cX5_copy 24 = .ok (.getfield 9, 3) := by decide +kernel
theorem dX5_copy_27 : decode cX5_copy 27 = .ok (.arraylength, 1) := by decide +kernel
theorem dX5_copy_28 : decode cX5_copy 28 = .ok (.if_icmp .ge 27, 3) := by decide +kernel
theorem dX5_copy_31 : decode cX5_copy 31 = .ok (.aload_n 1, 1) := by decide +kernel
theorem dX5_copy_32 : decode cX5_copy 32 = .ok (.getfield 9, 3) := by decide +kernel
theorem dX5_copy_35 : decode cX5_copy 35 = .ok (.iload_n 2, 1) := by decide +kernel
theorem dX5_copy_36 : decode cX5_copy 36 = .ok (.aload_n 0, 1) := by decide +kernel
theorem dX5_copy_37 : decode cX5_copy 37 = .ok (.getfield 9, 3) := by decide +kernel
theorem dX5_copy_40 : decode cX5_copy 40 = .ok (.iload_n 2, 1) := by decide +kernel
theorem dX5_copy_41 : decode cX5_copy 41 = .ok (.aaload, 1) := by decide +kernel
theorem dX5_copy_42 : decode cX5_copy 42 = .ok (.invokevirtual 26, 3) := by decide +kernel
theorem dX5_copy_45 : decode cX5_copy 45 = .ok (.checkcast 7, 3) := by decide +kernel
theorem dX5_copy_48 : decode cX5_copy 48 = .ok (.aastore, 1) := by decide +kernel
theorem dX5_copy_49 : decode cX5_copy 49 = .ok (.iinc 2 1, 3) := by decide +kernel
theorem dX5_copy_52 : decode cX5_copy 52 = .ok (.goto (-30), 3) := by decide +kernel
theorem dX5_copy_55 : decode cX5_copy 55 = .ok (.aload_n 1, 1) := by decide +kernel
theorem dX5_copy_56 : decode cX5_copy 56 = .ok (.aload_n 0, 1) := by decide +kernel
theorem dX5_copy_57 : decode cX5_copy 57 = .ok (.getfield 15, 3) := by decide +kernel
theorem dX5_copy_60 : decode cX5_copy 60 = .ok (.arraylength, 1) := by decide +kernel
theorem dX5_copy_61 : decode cX5_copy 61 = .ok (.anewarray 7, 3) := by decide +kernel
theorem dX5_copy_64 : decode cX5_copy 64 = .ok (.putfield 15, 3) := by decide +kernel
theorem dX5_copy_67 : decode cX5_copy 67 = .ok (.iconst 0, 1) := by decide +kernel
theorem dX5_copy_68 : decode cX5_copy 68 = .ok (.istore_n 2, 1) := by decide +kernel
theorem dX5_copy_69 : decode cX5_copy 69 = .ok (.iload_n 2, 1) := by decide +kernel
theorem dX5_copy_70 : decode cX5_copy 70 = .ok (.aload_n 0, 1) := by decide +kernel
theorem dX5_copy_71 : decode cX5_copy 71 = .ok (.getfield 15, 3) := by decide +kernel
theorem dX5_copy_74 : decode cX5_copy 74 = .ok (.arraylength, 1) := by decide +kernel
theorem dX5_copy_75 : decode cX5_copy 75 = .ok (.if_icmp .ge 27, 3) := by decide +kernel
theorem dX5_copy_78 : decode cX5_copy 78 = .ok (.aload_n 1, 1) := by decide +kernel
theorem dX5_copy_79 : decode cX5_copy 79 = .ok (.getfield 15, 3) := by decide +kernel
theorem dX5_copy_82 : decode cX5_copy 82 = .ok (.iload_n 2, 1) := by decide +kernel
theorem dX5_copy_83 : decode cX5_copy 83 = .ok (.aload_n 0, 1) := by decide +kernel
theorem dX5_copy_84 : decode cX5_copy 84 = .ok (.getfield 15, 3) := by decide +kernel
theorem dX5_copy_87 : decode cX5_copy 87 = .ok (.iload_n 2, 1) := by decide +kernel
theorem dX5_copy_88 : decode cX5_copy 88 = .ok (.aaload, 1) := by decide +kernel
theorem dX5_copy_89 : decode cX5_copy 89 = .ok (.invokevirtual 26, 3) := by decide +kernel
theorem dX5_copy_92 : decode cX5_copy 92 = .ok (.checkcast 7, 3) := by decide +kernel
theorem dX5_copy_95 : decode cX5_copy 95 = .ok (.aastore, 1) := by decide +kernel
theorem dX5_copy_96 : decode cX5_copy 96 = .ok (.iinc 2 1, 3) := by decide +kernel
theorem dX5_copy_99 : decode cX5_copy 99 = .ok (.goto (-30), 3) := by decide +kernel
theorem dX5_copy_102 : decode cX5_copy 102 = .ok (.aload_n 1, 1) := by decide +kernel
theorem dX5_copy_103 : decode cX5_copy 103 = .ok (.aload_n 0, 1) := by decide +kernel
theorem dX5_copy_104 : decode cX5_copy 104 = .ok (.getfield 18, 3) := by decide +kernel
theorem dX5_copy_107 : decode cX5_copy 107 = .ok (.putfield 18, 3) := by decide +kernel
theorem dX5_copy_110 : decode cX5_copy 110 = .ok (.aload_n 1, 1) := by decide +kernel
theorem dX5_copy_111 : decode cX5_copy 111 = .ok (.aload_n 0, 1) := by decide +kernel
theorem dX5_copy_112 : decode cX5_copy 112 = .ok (.getfield 30, 3) := by decide +kernel
theorem dX5_copy_115 : decode cX5_copy 115 = .ok (.putfield 30, 3) := by decide +kernel
theorem dX5_copy_118 : decode cX5_copy 118 = .ok (.aload_n 1, 1) := by decide +kernel
theorem dX5_copy_119 : decode cX5_copy 119 = .ok (.aload_n 0, 1) := by decide +kernel
theorem dX5_copy_120 : decode cX5_copy 120 = .ok (.getfield 21, 3) := by decide +kernel
theorem dX5_copy_123 : decode cX5_copy 123 = .ok (.putfield 21, 3) := by decide +kernel
theorem dX5_copy_126 : decode cX5_copy 126 = .ok (.aload_n 1, 1) := by decide +kernel
theorem dX5_copy_127 : decode cX5_copy 127 = .ok (.aload_n 0, 1) := by decide +kernel
theorem dX5_copy_128 : decode cX5_copy 128 = .ok (.getfield 33, 3) := by decide +kernel
theorem dX5_copy_131 : decode cX5_copy 131 = .ok (.putfield 33, 3) := by decide +kernel
theorem dX5_copy_134 : decode cX5_copy 134 = .ok (.aload_n 1, 1) := by decide +kernel
theorem dX5_copy_135 : decode cX5_copy 135 = .ok (.aload_n 0, 1) := by decide +kernel
theorem dX5_copy_136 : decode cX5_copy 136 = .ok (.getfield 36, 3) := by decide +kernel
theorem dX5_copy_139 : decode cX5_copy 139 = .ok (.putfield 36, 3) := by decide +kernel
theorem dX5_copy_142 : decode cX5_copy 142 = .ok (.aload_n 1, 1) := by decide +kernel
theorem dX5_copy_143 : decode cX5_copy 143 = .ok (.aload_n 0, 1) := by decide +kernel
theorem dX5_copy_144 : decode cX5_copy 144 = .ok (.getfield 39, 3) := by decide +kernel
theorem dX5_copy_147 : decode cX5_copy 147 = .ok (.putfield 39, 3) := by decide +kernel
theorem dX5_copy_150 : decode cX5_copy 150 = .ok (.aload_n 1, 1) := by decide +kernel
theorem dX5_copy_151 : decode cX5_copy 151 = .ok (.aload_n 0, 1) := by decide +kernel
theorem dX5_copy_152 : decode cX5_copy 152 = .ok (.getfield 42, 3) := by decide +kernel
theorem dX5_copy_155 : decode cX5_copy 155 = .ok (.putfield 42, 3) := by decide +kernel
theorem dX5_copy_158 : decode cX5_copy 158 = .ok (.aload_n 1, 1) := by decide +kernel
theorem dX5_copy_159 : decode cX5_copy 159 = .ok (.areturn, 1) := by decide +kernel
theorem dX5_place_0 : decode cX5_place 0 = .ok (.iconst 0, 1) := by decide +kernel
theorem dX5_place_1 : decode cX5_place 1 = .ok (.istore_n 2, 1) := by decide +kernel
theorem dX5_place_2 : decode cX5_place 2 = .ok (.iload_n 2, 1) := by decide +kernel
theorem dX5_place_3 : decode cX5_place 3 = .ok (.aload_n 0, 1) := by decide +kernel
theorem dX5_place_4 : decode cX5_place 4 = .ok (.getfield 18, 3) := by decide +kernel
theorem dX5_place_7 : decode cX5_place 7 = .ok (.arraylength, 1) := by decide +kernel
theorem dX5_place_8 : decode cX5_place 8 = .ok (.if_icmp .ge 21, 3) := by decide +kernel
theorem dX5_place_11 : decode cX5_place 11 = .ok (.aload_n 0, 1) := by decide +kernel
theorem dX5_place_12 : decode cX5_place 12 = .ok (.getfield 18, 3) := by decide +kernel
theorem dX5_place_15 : decode cX5_place 15 = .ok (.iload_n 2, 1) := by decide +kernel
theorem dX5_place_16 : decode cX5_place 16 = .ok (.iaload, 1) := by decide +kernel
theorem dX5_place_17 : decode cX5_place 17 = .ok (.iload_n 1, 1) := by decide +kernel
theorem dX5_place_18 : decode cX5_place 18 = .ok (.if_icmp .ne 5, 3) := by decide +kernel
theorem dX5_place_21 : decode cX5_place 21 = .ok (.iload_n 2, 1) := by decide +kernel
theorem dX5_place_22 : decode cX5_place 22 = .ok (.ireturn, 1) := by decide +kernel
theorem dX5_place_23 : decode cX5_place 23 = .ok (.iinc 2 1, 3) := by decide +kernel
theorem dX5_place_26 : decode cX5_place 26 = .ok (.goto (-24), 3) := by decide +kernel
theorem dX5_place_29 : decode cX5_place 29 = .ok (.iconst (-1), 1) := by decide +kernel
theorem dX5_place_30 : decode cX5_place 30 = .ok (.ireturn, 1) := by decide +kernel
theorem dX5_up_0 : decode cX5_up 0 = .ok (.aload_n 0, 1) := by decide +kernel
theorem dX5_up_1 : decode cX5_up 1 = .ok (.getfield 18, 3) := by decide +kernel
theorem dX5_up_4 : decode cX5_up 4 = .ok (.arraylength, 1) := by decide +kernel
theorem dX5_up_5 : decode cX5_up 5 = .ok (.iconst 1, 1) := by decide +kernel
theorem dX5_up_6 : decode cX5_up 6 = .ok (.isub, 1) := by decide +kernel
theorem dX5_up_7 : decode cX5_up 7 = .ok (.newarray .int, 2) := by decide +kernel
theorem dX5_up_9 : decode cX5_up 9 = .ok (.astore_n 2, 1) := by decide +kernel
theorem dX5_up_10 : decode cX5_up 10 = .ok (.iconst 0, 1) := by decide +kernel
theorem dX5_up_11 : decode cX5_up 11 = .ok (.istore_n 3, 1) := by decide +kernel
theorem dX5_up_12 : decode cX5_up 12 = .ok (.aload_n 0, 1) := by decide +kernel
theorem dX5_up_13 : decode cX5_up 13 = .ok (.getfield 18, 3) := by decide +kernel
theorem dX5_up_16 : decode cX5_up 16 = .ok (.astore 4, 2) := by decide +kernel
theorem dX5_up_18 : decode cX5_up 18 = .ok (.aload 4, 2) := by decide +kernel
theorem dX5_up_20 : decode cX5_up 20 = .ok (.arraylength, 1) := by decide +kernel
theorem dX5_up_21 : decode cX5_up 21 = .ok (.istore 5, 2) := by decide +kernel
theorem dX5_up_23 : decode cX5_up 23 = .ok (.iconst 0, 1) := by decide +kernel
theorem dX5_up_24 : decode cX5_up 24 = .ok (.istore 6, 2) := by decide +kernel
theorem dX5_up_26 : decode cX5_up 26 = .ok (.iload 6, 2) := by decide +kernel
theorem dX5_up_28 : decode cX5_up 28 = .ok (.iload 5, 2) := by decide +kernel
theorem dX5_up_30 : decode cX5_up 30 = .ok (.if_icmp .ge 33, 3) := by decide +kernel
theorem dX5_up_33 : decode cX5_up 33 = .ok (.aload 4, 2) := by decide +kernel
theorem dX5_up_35 : decode cX5_up 35 = .ok (.iload 6, 2) := by decide +kernel
theorem dX5_up_37 : decode cX5_up 37 = .ok (.iaload, 1) := by decide +kernel
theorem dX5_up_38 : decode cX5_up 38 = .ok (.istore 7, 2) := by decide +kernel
theorem dX5_up_40 : decode cX5_up 40 = .ok (.iload 7, 2) := by decide +kernel
theorem dX5_up_42 : decode cX5_up 42 = .ok (.iload_n 1, 1) := by decide +kernel
theorem dX5_up_43 : decode cX5_up 43 = .ok (.if_icmp .ne 6, 3) := by decide +kernel
theorem dX5_up_46 : decode cX5_up 46 = .ok (.goto 11, 3) := by decide +kernel
theorem dX5_up_49 : decode cX5_up 49 = .ok (.aload_n 2, 1) := by decide +kernel
theorem dX5_up_50 : decode cX5_up 50 = .ok (.iload_n 3, 1) := by decide +kernel
theorem dX5_up_51 : decode cX5_up 51 = .ok (.iload 7, 2) := by decide +kernel
theorem dX5_up_53 : decode cX5_up 53 = .ok (.iastore, 1) := by decide +kernel
theorem dX5_up_54 : decode cX5_up 54 = .ok (.iinc 3 1, 3) := by decide +kernel
theorem dX5_up_57 : decode cX5_up 57 = .ok (.iinc 6 1, 3) := by decide +kernel
theorem dX5_up_60 : decode cX5_up 60 = .ok (.goto (-34), 3) := by decide +kernel
theorem dX5_up_63 : decode cX5_up 63 = .ok (.aload_n 0, 1) := by decide +kernel
theorem dX5_up_64 : decode cX5_up 64 = .ok (.aload_n 2, 1) := by decide +kernel
theorem dX5_up_65 : decode cX5_up 65 = .ok (.putfield 18, 3) := by decide +kernel
theorem dX5_up_68 : decode cX5_up 68 = .ok (.return_, 1) := by decide +kernel
set_option maxRecDepth 20000 in
theorem ggX5_rings_X5_place : GoodIn wsX5_rings wsX5_place := goodIn_r _ [10, 4, 11, 12, 13, 14, 15, 16, 17, 18, 19] (by decide +kernel) (by decide +kernel)
set_option maxRecDepth 20000 in
theorem gX5_rings_X5_place : GoodIn wsX5_rings (wsV RX5 45 RX5 yX5_place wsX5_place) := goodIn_app (goodIn_of _ (by decide +kernel)) ggX5_rings_X5_place
theorem dX5_rings_0 : decode cX5_rings 0 = .ok (.aload_n 0, 1) := by decide +kernel
theorem dX5_rings_1 : decode cX5_rings 1 = .ok (.getfield 9, 3) := by decide +kernel
theorem dX5_rings_4 : decode cX5_rings 4 = .ok (.iload_n 1, 1) := by decide +kernel
theorem dX5_rings_5 : decode cX5_rings 5 = .ok (.aaload, 1) := by decide +kernel
theorem dX5_rings_6 : decode cX5_rings 6 = .ok (.iconst 0, 1) := by decide +kernel
theorem dX5_rings_7 : decode cX5_rings 7 = .ok (.iaload, 1) := by decide +kernel
theorem dX5_rings_8 : decode cX5_rings 8 = .ok (.iconst 1, 1) := by decide +kernel
theorem dX5_rings_9 : decode cX5_rings 9 = .ok (.iadd, 1) := by decide +kernel
theorem dX5_rings_10 : decode cX5_rings 10 = .ok (.istore_n 2, 1) := by decide +kernel
theorem dX5_rings_11 : decode cX5_rings 11 = .ok (.aload_n 0, 1) := by decide +kernel
theorem dX5_rings_12 : decode cX5_rings 12 = .ok (.getfield 9, 3) := by decide +kernel
theorem dX5_rings_15 : decode cX5_rings 15 = .ok (.iload_n 1, 1) := by decide +kernel
theorem dX5_rings_16 : decode cX5_rings 16 = .ok (.aaload, 1) := by decide +kernel
theorem dX5_rings_17 : decode cX5_rings 17 = .ok (.iconst 5, 1) := by decide +kernel
theorem dX5_rings_18 : decode cX5_rings 18 = .ok (.iaload, 1) := by decide +kernel
theorem dX5_rings_19 : decode cX5_rings 19 = .ok (.iconst 1, 1) := by decide +kernel
theorem dX5_rings_20 : decode cX5_rings 20 = .ok (.if_icmp .eq 11, 3) := by decide +kernel
theorem dX5_rings_23 : decode cX5_rings 23 = .ok (.aload_n 0, 1) := by decide +kernel
theorem dX5_rings_24 : decode cX5_rings 24 = .ok (.getfield 21, 3) := by decide +kernel
theorem dX5_rings_27 : decode cX5_rings 27 = .ok (.iload_n 2, 1) := by decide +kernel
theorem dX5_rings_28 : decode cX5_rings 28 = .ok (.if_icmp .ge 15, 3) := by decide +kernel
theorem dX5_rings_31 : decode cX5_rings 31 = .ok (.aload_n 0, 1) := by decide +kernel
theorem dX5_rings_32 : decode cX5_rings 32 = .ok (.dup, 1) := by decide +kernel
theorem dX5_rings_33 : decode cX5_rings 33 = .ok (.getfield 42, 3) := by decide +kernel
theorem dX5_rings_36 : decode cX5_rings 36 = .ok (.iconst 1, 1) := by decide +kernel
theorem dX5_rings_37 : decode cX5_rings 37 = .ok (.iadd, 1) := by decide +kernel
theorem dX5_rings_38 : decode cX5_rings 38 = .ok (.putfield 42, 3) := by decide +kernel
theorem dX5_rings_41 : decode cX5_rings 41 = .ok (.iconst 0, 1) := by decide +kernel
theorem dX5_rings_42 : decode cX5_rings 42 = .ok (.ireturn, 1) := by decide +kernel
theorem dX5_rings_43 : decode cX5_rings 43 = .ok (.aload_n 0, 1) := by decide +kernel
theorem dX5_rings_44 : decode cX5_rings 44 = .ok (.dup, 1) := by decide +kernel
theorem dX5_rings_45 : decode cX5_rings 45 = .ok (.getfield 21, 3) := by decide +kernel
theorem dX5_rings_48 : decode cX5_rings 48 = .ok (.iload_n 2, 1) := by decide +kernel
theorem dX5_rings_49 : decode cX5_rings 49 = .ok (.isub, 1) := by decide +kernel
theorem dX5_rings_50 : decode cX5_rings 50 = .ok (.putfield 21, 3) := by decide +kernel
theorem dX5_rings_53 : decode cX5_rings 53 = .ok (.aload_n 0, 1) := by decide +kernel
theorem dX5_rings_54 : decode cX5_rings 54 = .ok (.aload_n 0, 1) := by decide +kernel
theorem dX5_rings_55 : decode cX5_rings 55 = .ok (.getfield 9, 3) := by decide +kernel
theorem dX5_rings_58 : decode cX5_rings 58 = .ok (.iload_n 1, 1) := by decide +kernel
theorem dX5_rings_59 : decode cX5_rings 59 = .ok (.aaload, 1) := by decide +kernel
theorem dX5_rings_60 : decode cX5_rings 60 = .ok (.iconst 4, 1) := by decide +kernel
theorem dX5_rings_61 : decode cX5_rings 61 = .ok (.iaload, 1) := by decide +kernel
theorem dX5_rings_62 : decode cX5_rings 62 = .ok (.invokevirtual 45, 3) := by decide +kernel
theorem dX5_rings_65 : decode cX5_rings 65 = .ok (.ifCond .lt 5, 3) := by decide +kernel
theorem dX5_rings_68 : decode cX5_rings 68 = .ok (.iconst 1, 1) := by decide +kernel
theorem dX5_rings_69 : decode cX5_rings 69 = .ok (.ireturn, 1) := by decide +kernel
theorem dX5_rings_70 : decode cX5_rings 70 = .ok (.aload_n 0, 1) := by decide +kernel
theorem dX5_rings_71 : decode cX5_rings 71 = .ok (.getfield 18, 3) := by decide +kernel
theorem dX5_rings_74 : decode cX5_rings 74 = .ok (.arraylength, 1) := by decide +kernel
theorem dX5_rings_75 : decode cX5_rings 75 = .ok (.iconst 1, 1) := by decide +kernel
theorem dX5_rings_76 : decode cX5_rings 76 = .ok (.iadd, 1) := by decide +kernel
theorem dX5_rings_77 : decode cX5_rings 77 = .ok (.newarray .int, 2) := by decide +kernel
theorem dX5_rings_79 : decode cX5_rings 79 = .ok (.astore_n 3, 1) := by decide +kernel
theorem dX5_rings_80 : decode cX5_rings 80 = .ok (.iconst 0, 1) := by decide +kernel
theorem dX5_rings_81 : decode cX5_rings 81 = .ok (.istore 4, 2) := by decide +kernel
theorem dX5_rings_83 : decode cX5_rings 83 = .ok (.iload 4, 2) := by decide +kernel
theorem dX5_rings_85 : decode cX5_rings 85 = .ok (.aload_n 0, 1) := by decide +kernel
theorem dX5_rings_86 : decode cX5_rings 86 = .ok (.getfield 18, 3) := by decide +kernel
theorem dX5_rings_89 : decode cX5_rings 89 = .ok (.arraylength, 1) := by decide +kernel
theorem dX5_rings_90 : decode cX5_rings 90 = .ok (.if_icmp .ge 20, 3) := by decide +kernel
theorem dX5_rings_93 : decode cX5_rings 93 = .ok (.aload_n 3, 1) := by decide +kernel
theorem dX5_rings_94 : decode cX5_rings 94 = .ok (.iload 4, 2) := by decide +kernel
theorem dX5_rings_96 : decode cX5_rings 96 = .ok (.aload_n 0, 1) := by decide +kernel
theorem dX5_rings_97 : decode cX5_rings 97 = .ok (.getfield 18, 3) := by decide +kernel
theorem dX5_rings_100 : decode cX5_rings 100 = .ok (.iload 4, 2) := by decide +kernel
theorem dX5_rings_102 : decode cX5_rings 102 = .ok (.iaload, 1) := by decide +kernel
theorem dX5_rings_103 : decode cX5_rings 103 = .ok (.iastore, 1) := by decide +kernel
theorem dX5_rings_104 : decode cX5_rings 104 = .ok (.iinc 4 1, 3) := by decide +kernel
theorem dX5_rings_107 : decode cX5_rings 107 = .ok (.goto (-24), 3) := by decide +kernel
theorem dX5_rings_110 : decode cX5_rings 110 = .ok (.aload_n 3, 1) := by decide +kernel
theorem dX5_rings_111 : decode cX5_rings 111 = .ok (.aload_n 0, 1) := by decide +kernel
theorem dX5_rings_112 : decode cX5_rings 112 = .ok (.getfield 18, 3) := by decide +kernel
theorem dX5_rings_115 : decode cX5_rings 115 = .ok (.arraylength, 1) := by decide +kernel
theorem dX5_rings_116 : decode cX5_rings 116 = .ok (.aload_n 0, 1) := by decide +kernel
theorem dX5_rings_117 : decode cX5_rings 117 = .ok (.getfield 9, 3) := by decide +kernel
theorem dX5_rings_120 : decode cX5_rings 120 = .ok (.iload_n 1, 1) := by decide +kernel
theorem dX5_rings_121 : decode cX5_rings 121 = .ok (.aaload, 1) := by decide +kernel
theorem dX5_rings_122 : decode cX5_rings 122 = .ok (.iconst 4, 1) := by decide +kernel
theorem dX5_rings_123 : decode cX5_rings 123 = .ok (.iaload, 1) := by decide +kernel
theorem dX5_rings_124 : decode cX5_rings 124 = .ok (.iastore, 1) := by decide +kernel
theorem dX5_rings_125 : decode cX5_rings 125 = .ok (.aload_n 0, 1) := by decide +kernel
theorem dX5_rings_126 : decode cX5_rings 126 = .ok (.aload_n 3, 1) := by decide +kernel
theorem dX5_rings_127 : decode cX5_rings 127 = .ok (.putfield 18, 3) := by decide +kernel
theorem dX5_rings_130 : decode cX5_rings 130 = .ok (.iconst 1, 1) := by decide +kernel
theorem dX5_rings_131 : decode cX5_rings 131 = .ok (.ireturn, 1) := by decide +kernel
set_option maxRecDepth 20000 in
theorem ggX5_ring_X5_rings : GoodIn wsX5_ring wsX5_rings := goodIn_r _ [10, 1, 11, 12, 13, 14, 15, 16, 17, 9, 18, 19, 20, 21, 22, 23, 24, 25, 26, 27] (by decide +kernel) (by decide +kernel)
set_option maxRecDepth 20000 in
theorem gX5_ring_X5_rings : GoodIn wsX5_ring (wsV RX5 55 RX5 yX5_rings wsX5_rings) := goodIn_app (goodIn_of _ (by decide +kernel)) ggX5_ring_X5_rings
theorem dX5_ring_0 : decode cX5_ring 0 = .ok (.aload_n 0, 1) := by decide +kernel
theorem dX5_ring_1 : decode cX5_ring 1 = .ok (.getfield 9, 3) := by decide +kernel
theorem dX5_ring_4 : decode cX5_ring 4 = .ok (.iload_n 1, 1) := by decide +kernel
theorem dX5_ring_5 : decode cX5_ring 5 = .ok (.aaload, 1) := by decide +kernel
theorem dX5_ring_6 : decode cX5_ring 6 = .ok (.iconst 3, 1) := by decide +kernel
theorem dX5_ring_7 : decode cX5_ring 7 = .ok (.iconst 0, 1) := by decide +kernel
theorem dX5_ring_8 : decode cX5_ring 8 = .ok (.aload_n 0, 1) := by decide +kernel
theorem dX5_ring_9 : decode cX5_ring 9 = .ok (.getfield 9, 3) := by decide +kernel
theorem dX5_ring_12 : decode cX5_ring 12 = .ok (.iload_n 1, 1) := by decide +kernel
theorem dX5_ring_13 : decode cX5_ring 13 = .ok (.aaload, 1) := by decide +kernel
theorem dX5_ring_14 : decode cX5_ring 14 = .ok (.iconst 3, 1) := by decide +kernel
theorem dX5_ring_15 : decode cX5_ring 15 = .ok (.iaload, 1) := by decide +kernel
theorem dX5_ring_16 : decode cX5_ring 16 = .ok (.invokestatic 49, 3) := by decide +kernel
theorem dX5_ring_19 : decode cX5_ring 19 = .ok (.iastore, 1) := by decide +kernel
theorem dX5_ring_20 : decode cX5_ring 20 = .ok (.aload_n 0, 1) := by decide +kernel
theorem dX5_ring_21 : decode cX5_ring 21 = .ok (.iload_n 1, 1) := by decide +kernel
theorem dX5_ring_22 : decode cX5_ring 22 = .ok (.invokevirtual 55, 3) := by decide +kernel
theorem dX5_ring_25 : decode cX5_ring 25 = .ok (.ireturn, 1) := by decide +kernel
theorem dX5_way_0 : decode cX5_way 0 = .ok (.aload_n 0, 1) := by decide +kernel
theorem dX5_way_1 : decode cX5_way 1 = .ok (.getfield 15, 3) := by decide +kernel
theorem dX5_way_4 : decode cX5_way 4 = .ok (.iload_n 1, 1) := by decide +kernel
theorem dX5_way_5 : decode cX5_way 5 = .ok (.aaload, 1) := by decide +kernel
theorem dX5_way_6 : decode cX5_way 6 = .ok (.iconst 1, 1) := by decide +kernel
theorem dX5_way_7 : decode cX5_way 7 = .ok (.iaload, 1) := by decide +kernel
theorem dX5_way_8 : decode cX5_way 8 = .ok (.aload_n 0, 1) := by decide +kernel
theorem dX5_way_9 : decode cX5_way 9 = .ok (.getfield 9, 3) := by decide +kernel
theorem dX5_way_12 : decode cX5_way 12 = .ok (.iload_n 2, 1) := by decide +kernel
theorem dX5_way_13 : decode cX5_way 13 = .ok (.aaload, 1) := by decide +kernel
theorem dX5_way_14 : decode cX5_way 14 = .ok (.iconst 0, 1) := by decide +kernel
theorem dX5_way_15 : decode cX5_way 15 = .ok (.iaload, 1) := by decide +kernel
theorem dX5_way_16 : decode cX5_way 16 = .ok (.isub, 1) := by decide +kernel
theorem dX5_way_17 : decode cX5_way 17 = .ok (.invokestatic 59, 3) := by decide +kernel
theorem dX5_way_20 : decode cX5_way 20 = .ok (.istore_n 3, 1) := by decide +kernel
theorem dX5_way_21 : decode cX5_way 21 = .ok (.iconst 1, 1) := by decide +kernel
theorem dX5_way_22 : decode cX5_way 22 = .ok (.istore 4, 2) := by decide +kernel
theorem dX5_way_24 : decode cX5_way 24 = .ok (.iload 4, 2) := by decide +kernel
theorem dX5_way_26 : decode cX5_way 26 = .ok (.aload_n 0, 1) := by decide +kernel
theorem dX5_way_27 : decode cX5_way 27 = .ok (.getfield 15, 3) := by decide +kernel
theorem dX5_way_30 : decode cX5_way 30 = .ok (.iload_n 1, 1) := by decide +kernel
theorem dX5_way_31 : decode cX5_way 31 = .ok (.aaload, 1) := by decide +kernel
theorem dX5_way_32 : decode cX5_way 32 = .ok (.iconst 0, 1) := by decide +kernel
theorem dX5_way_33 : decode cX5_way 33 = .ok (.iaload, 1) := by decide +kernel
theorem dX5_way_34 : decode cX5_way 34 = .ok (.imul, 1) := by decide +kernel
theorem dX5_way_35 : decode cX5_way 35 = .ok (.iload_n 3, 1) := by decide +kernel
theorem dX5_way_36 : decode cX5_way 36 = .ok (.if_icmp .ge 9, 3) := by decide +kernel
theorem dX5_way_39 : decode cX5_way 39 = .ok (.iinc 4 1, 3) := by decide +kernel
theorem dX5_way_42 : decode cX5_way 42 = .ok (.goto (-18), 3) := by decide +kernel
theorem dX5_way_45 : decode cX5_way 45 = .ok (.iload 4, 2) := by decide +kernel
theorem dX5_way_47 : decode cX5_way 47 = .ok (.ireturn, 1) := by decide +kernel
theorem dX5_isIdle_0 : decode cX5_isIdle 0 = .ok (.aload_n 0, 1) := by decide +kernel
theorem dX5_isIdle_1 : decode cX5_isIdle 1 = .ok (.getfield 15, 3) := by decide +kernel
theorem dX5_isIdle_4 : decode cX5_isIdle 4 = .ok (.iload_n 1, 1) := by decide +kernel
theorem dX5_isIdle_5 : decode cX5_isIdle 5 = .ok (.aaload, 1) := by decide +kernel
theorem dX5_isIdle_6 : decode cX5_isIdle 6 = .ok (.iconst 2, 1) := by decide +kernel
theorem dX5_isIdle_7 : decode cX5_isIdle 7 = .ok (.iaload, 1) := by decide +kernel
theorem dX5_isIdle_8 : decode cX5_isIdle 8 = .ok (.ifCond .ge 18, 3) := by decide +kernel
theorem dX5_isIdle_11 : decode cX5_isIdle 11 = .ok (.aload_n 0, 1) := by decide +kernel
theorem dX5_isIdle_12 : decode cX5_isIdle 12 = .ok (.getfield 15, 3) := by decide +kernel
theorem dX5_isIdle_15 : decode cX5_isIdle 15 = .ok (.iload_n 1, 1) := by decide +kernel
theorem dX5_isIdle_16 : decode cX5_isIdle 16 = .ok (.aaload, 1) := by decide +kernel
theorem dX5_isIdle_17 : decode cX5_isIdle 17 = .ok (.iconst 3, 1) := by decide +kernel
theorem dX5_isIdle_18 : decode cX5_isIdle 18 = .ok (.iaload, 1) := by decide +kernel
theorem dX5_isIdle_19 : decode cX5_isIdle 19 = .ok (.ifCond .ge 7, 3) := by decide +kernel
theorem dX5_isIdle_22 : decode cX5_isIdle 22 = .ok (.iconst 1, 1) := by decide +kernel
theorem dX5_isIdle_23 : decode cX5_isIdle 23 = .ok (.goto 4, 3) := by decide +kernel
theorem dX5_isIdle_26 : decode cX5_isIdle 26 = .ok (.iconst 0, 1) := by decide +kernel
theorem dX5_isIdle_27 : decode cX5_isIdle 27 = .ok (.ireturn, 1) := by decide +kernel
set_option maxRecDepth 20000 in
theorem ggX5_nearest_X5_isIdle : GoodIn wsX5_nearest wsX5_isIdle := goodIn_r _ [6, 1, 16, 17, 18, 19, 20, 21, 22, 23, 24] (by decide +kernel) (by decide +kernel)
set_option maxRecDepth 20000 in
theorem gX5_nearest_X5_isIdle : GoodIn wsX5_nearest (wsV RX5 62 RX5 yX5_isIdle wsX5_isIdle) := goodIn_app (goodIn_of _ (by decide +kernel)) ggX5_nearest_X5_isIdle
set_option maxRecDepth 20000 in
theorem ggX5_nearest_X5_way : GoodIn wsX5_nearest wsX5_way := goodIn_r _ [10, 1, 11, 12, 13, 14, 15, 16, 17, 18, 19, 20, 21, 22, 23, 24] (by decide +kernel) (by decide +kernel)
set_option maxRecDepth 20000 in
theorem gX5_nearest_X5_way : GoodIn wsX5_nearest (wsV RX5 65 RX5 yX5_way wsX5_way) := goodIn_app (goodIn_of _ (by decide +kernel)) ggX5_nearest_X5_way
theorem dX5_nearest_0 : decode cX5_nearest 0 = .ok (.iconst (-1), 1) := by decide +kernel
theorem dX5_nearest_1 : decode cX5_nearest 1 = .ok (.istore_n 2, 1) := by decide +kernel
theorem dX5_nearest_2 : decode cX5_nearest 2 = .ok (.aload_n 0, 1) := by decide +kernel
theorem dX5_nearest_3 : decode cX5_nearest 3 = .ok (.getfield 15, 3) := by decide +kernel
theorem dX5_nearest_6 : decode cX5_nearest 6 = .ok (.arraylength, 1) := by decide +kernel
theorem dX5_nearest_7 : decode cX5_nearest 7 = .ok (.iconst 1, 1) := by decide +kernel
theorem dX5_nearest_8 : decode cX5_nearest 8 = .ok (.isub, 1) := by decide +kernel
theorem dX5_nearest_9 : decode cX5_nearest 9 = .ok (.istore_n 3, 1) := by decide +kernel
theorem dX5_nearest_10 : decode cX5_nearest 10 = .ok (.iload_n 3, 1) := by decide +kernel
theorem dX5_nearest_11 : decode cX5_nearest 11 = .ok (.ifCond .lt 38, 3) := by decide +kernel
theorem dX5_nearest_14 : decode cX5_nearest 14 = .ok (.aload_n 0, 1) := by decide +kernel
theorem dX5_nearest_15 : decode cX5_nearest 15 = .ok (.iload_n 3, 1) := by decide +kernel
theorem dX5_nearest_16 : decode cX5_nearest 16 = .ok (.invokevirtual 62, 3) := by decide +kernel
theorem dX5_nearest_19 : decode cX5_nearest 19 = .ok (.ifCond .eq 24, 3) := by decide +kernel
theorem dX5_nearest_22 : decode cX5_nearest 22 = .ok (.iload_n 2, 1) := by decide +kernel
theorem dX5_nearest_23 : decode cX5_nearest 23 = .ok (.ifCond .lt 18, 3) := by decide +kernel
theorem dX5_nearest_26 : decode cX5_nearest 26 = .ok (.aload_n 0, 1) := by decide +kernel
theorem dX5_nearest_27 : decode cX5_nearest 27 = .ok (.iload_n 3, 1) := by decide +kernel
theorem dX5_nearest_28 : decode cX5_nearest 28 = .ok (.iload_n 1, 1) := by decide +kernel
theorem dX5_nearest_29 : decode cX5_nearest 29 = .ok (.invokevirtual 65, 3) := by decide +kernel
theorem dX5_nearest_32 : decode cX5_nearest 32 = .ok (.aload_n 0, 1) := by decide +kernel
theorem dX5_nearest_33 : decode cX5_nearest 33 = .ok (.iload_n 2, 1) := by decide +kernel
theorem dX5_nearest_34 : decode cX5_nearest 34 = .ok (.iload_n 1, 1) := by decide +kernel
theorem dX5_nearest_35 : decode cX5_nearest 35 = .ok (.invokevirtual 65, 3) := by decide +kernel
theorem dX5_nearest_38 : decode cX5_nearest 38 = .ok (.if_icmp .gt 5, 3) := by decide +kernel
theorem dX5_nearest_41 : decode cX5_nearest 41 = .ok (.iload_n 3, 1) := by decide +kernel
theorem dX5_nearest_42 : decode cX5_nearest 42 = .ok (.istore_n 2, 1) := by decide +kernel
theorem dX5_nearest_43 : decode cX5_nearest 43 = .ok (.iinc 3 (-1), 3) := by decide +kernel
theorem dX5_nearest_46 : decode cX5_nearest 46 = .ok (.goto (-36), 3) := by decide +kernel
theorem dX5_nearest_49 : decode cX5_nearest 49 = .ok (.iload_n 2, 1) := by decide +kernel
theorem dX5_nearest_50 : decode cX5_nearest 50 = .ok (.ireturn, 1) := by decide +kernel
set_option maxRecDepth 20000 in
theorem ggX5_pass_X5_rings : GoodIn wsX5_pass wsX5_rings := goodIn_r _ [12, 2, 13, 14, 6, 15, 16, 17, 18, 11, 19, 40, 41, 42, 43, 44, 45, 46, 47, 48] (by decide +kernel) (by decide +kernel)
set_option maxRecDepth 20000 in
theorem gX5_pass_X5_rings : GoodIn wsX5_pass (wsV RX5 55 RX5 yX5_rings wsX5_rings) := goodIn_app (goodIn_of _ (by decide +kernel)) ggX5_pass_X5_rings
set_option maxRecDepth 20000 in
theorem ggX5_pass_X5_isIdle : GoodIn wsX5_pass wsX5_isIdle := goodIn_r _ [23, 4, 40, 41, 42, 43, 44, 45, 46, 47, 48] (by decide +kernel) (by decide +kernel)
set_option maxRecDepth 20000 in
theorem gX5_pass_X5_isIdle : GoodIn wsX5_pass (wsV RX5 62 RX5 yX5_isIdle wsX5_isIdle) := goodIn_app (goodIn_of _ (by decide +kernel)) ggX5_pass_X5_isIdle
set_option maxRecDepth 20000 in
theorem ggX5_pass_X5_nearest : GoodIn wsX5_pass wsX5_nearest := goodIn_r _ [27, 4, 20, 21, 22, 11, 23, 28, 29, 30, 31, 2, 32, 33, 34, 35, 40, 41, 42, 43, 44, 45, 46, 47, 48] (by decide +kernel) (by decide +kernel)
set_option maxRecDepth 20000 in
theorem gX5_pass_X5_nearest : GoodIn wsX5_pass (wsV RX5 68 RX5 yX5_nearest wsX5_nearest) := goodIn_app (goodIn_of _ (by decide +kernel)) ggX5_pass_X5_nearest
set_option maxRecDepth 20000 in
theorem ggX5_pass_X5_way : GoodIn wsX5_pass wsX5_way := goodIn_r _ [31, 4, 2, 32, 33, 34, 35, 40, 41, 42, 43, 44, 45, 46, 47, 48] (by decide +kernel) (by decide +kernel)
set_option maxRecDepth 20000 in
theorem gX5_pass_X5_way : GoodIn wsX5_pass (wsV RX5 65 RX5 yX5_way wsX5_way) := goodIn_app (goodIn_of _ (by decide +kernel)) ggX5_pass_X5_way
set_option maxRecDepth 20000 in
theorem ggX5_pass_X5_up : GoodIn wsX5_pass wsX5_up := goodIn_r _ [39, 6, 15, 40, 41, 42, 43, 44, 45, 46, 47, 48] (by decide +kernel) (by decide +kernel)
set_option maxRecDepth 20000 in
theorem gX5_pass_X5_up : GoodIn wsX5_pass (wsV RX5 71 RX5 yX5_up wsX5_up) := goodIn_app (goodIn_of _ (by decide +kernel)) ggX5_pass_X5_up
theorem dX5_pass_0 : decode cX5_pass 0 = .ok (.aload_n 0, 1) := by decide +kernel
theorem dX5_pass_1 : decode cX5_pass 1 = .ok (.getfield 33, 3) := by decide +kernel
theorem dX5_pass_4 : decode cX5_pass 4 = .ok (.istore_n 1, 1) := by decide +kernel
theorem dX5_pass_5 : decode cX5_pass 5 = .ok (.iconst 0, 1) := by decide +kernel
theorem dX5_pass_6 : decode cX5_pass 6 = .ok (.istore_n 2, 1) := by decide +kernel
theorem dX5_pass_7 : decode cX5_pass 7 = .ok (.iload_n 2, 1) := by decide +kernel
theorem dX5_pass_8 : decode cX5_pass 8 = .ok (.aload_n 0, 1) := by decide +kernel
theorem dX5_pass_9 : decode cX5_pass 9 = .ok (.getfield 9, 3) := by decide +kernel
theorem dX5_pass_12 : decode cX5_pass 12 = .ok (.arraylength, 1) := by decide +kernel
theorem dX5_pass_13 : decode cX5_pass 13 = .ok (.if_icmp .ge 96, 3) := by decide +kernel
theorem dX5_pass_16 : decode cX5_pass 16 = .ok (.aload_n 0, 1) := by decide +kernel
theorem dX5_pass_17 : decode cX5_pass 17 = .ok (.getfield 9, 3) := by decide +kernel
theorem dX5_pass_20 : decode cX5_pass 20 = .ok (.iload_n 2, 1) := by decide +kernel
theorem dX5_pass_21 : decode cX5_pass 21 = .ok (.aaload, 1) := by decide +kernel
theorem dX5_pass_22 : decode cX5_pass 22 = .ok (.iconst 3, 1) := by decide +kernel
theorem dX5_pass_23 : decode cX5_pass 23 = .ok (.iaload, 1) := by decide +kernel
theorem dX5_pass_24 : decode cX5_pass 24 = .ok (.ifCond .ge 6, 3) := by decide +kernel
theorem dX5_pass_27 : decode cX5_pass 27 = .ok (.goto 76, 3) := by decide +kernel
theorem dX5_pass_30 : decode cX5_pass 30 = .ok (.aload_n 0, 1) := by decide +kernel
theorem dX5_pass_31 : decode cX5_pass 31 = .ok (.getfield 9, 3) := by decide +kernel
theorem dX5_pass_34 : decode cX5_pass 34 = .ok (.iload_n 2, 1) := by decide +kernel
theorem dX5_pass_35 : decode cX5_pass 35 = .ok (.aaload, 1) := by decide +kernel
theorem dX5_pass_36 : decode cX5_pass 36 = .ok (.iconst 3, 1) := by decide +kernel
theorem dX5_pass_37 : decode cX5_pass 37 = .ok (.dup2, 1) := by decide +kernel
theorem dX5_pass_38 : decode cX5_pass 38 = .ok (.iaload, 1) := by decide +kernel
theorem dX5_pass_39 : decode cX5_pass 39 = .ok (.iconst 1, 1) := by decide +kernel
theorem dX5_pass_40 : decode cX5_pass 40 = .ok (.iadd, 1) := by decide +kernel
theorem dX5_pass_41 : decode cX5_pass 41 = .ok (.iastore, 1) := by decide +kernel
theorem dX5_pass_42 : decode cX5_pass 42 = .ok (.aload_n 0, 1) := by decide +kernel
theorem dX5_pass_43 : decode cX5_pass 43 = .ok (.getfield 9, 3) := by decide +kernel
theorem dX5_pass_46 : decode cX5_pass 46 = .ok (.iload_n 2, 1) := by decide +kernel
theorem dX5_pass_47 : decode cX5_pass 47 = .ok (.aaload, 1) := by decide +kernel
theorem dX5_pass_48 : decode cX5_pass 48 = .ok (.iconst 3, 1) := by decide +kernel
theorem dX5_pass_49 : decode cX5_pass 49 = .ok (.iaload, 1) := by decide +kernel
theorem dX5_pass_50 : decode cX5_pass 50 = .ok (.bipush 30, 2) := by decide +kernel
theorem dX5_pass_52 : decode cX5_pass 52 = .ok (.if_icmp .ne 25, 3) := by decide +kernel
theorem dX5_pass_55 : decode cX5_pass 55 = .ok (.aload_n 0, 1) := by decide +kernel
theorem dX5_pass_56 : decode cX5_pass 56 = .ok (.getfield 9, 3) := by decide +kernel
theorem dX5_pass_59 : decode cX5_pass 59 = .ok (.iload_n 2, 1) := by decide +kernel
theorem dX5_pass_60 : decode cX5_pass 60 = .ok (.aaload, 1) := by decide +kernel
theorem dX5_pass_61 : decode cX5_pass 61 = .ok (.iconst 3, 1) := by decide +kernel
theorem dX5_pass_62 : decode cX5_pass 62 = .ok (.iconst (-1), 1) := by decide +kernel
theorem dX5_pass_63 : decode cX5_pass 63 = .ok (.iastore, 1) := by decide +kernel
theorem dX5_pass_64 : decode cX5_pass 64 = .ok (.aload_n 0, 1) := by decide +kernel
theorem dX5_pass_65 : decode cX5_pass 65 = .ok (.dup, 1) := by decide +kernel
theorem dX5_pass_66 : decode cX5_pass 66 = .ok (.getfield 39, 3) := by decide +kernel
theorem dX5_pass_69 : decode cX5_pass 69 = .ok (.iconst 1, 1) := by decide +kernel
theorem dX5_pass_70 : decode cX5_pass 70 = .ok (.iadd, 1) := by decide +kernel
theorem dX5_pass_71 : decode cX5_pass 71 = .ok (.putfield 39, 3) := by decide +kernel
theorem dX5_pass_74 : decode cX5_pass 74 = .ok (.goto 29, 3) := by decide +kernel
theorem dX5_pass_77 : decode cX5_pass 77 = .ok (.aload_n 0, 1) := by decide +kernel
theorem dX5_pass_78 : decode cX5_pass 78 = .ok (.getfield 9, 3) := by decide +kernel
theorem dX5_pass_81 : decode cX5_pass 81 = .ok (.iload_n 2, 1) := by decide +kernel
theorem dX5_pass_82 : decode cX5_pass 82 = .ok (.aaload, 1) := by decide +kernel
theorem dX5_pass_83 : decode cX5_pass 83 = .ok (.iconst 3, 1) := by decide +kernel
theorem dX5_pass_84 : decode cX5_pass 84 = .ok (.iaload, 1) := by decide +kernel
theorem dX5_pass_85 : decode cX5_pass 85 = .ok (.aload_n 0, 1) := by decide +kernel
theorem dX5_pass_86 : decode cX5_pass 86 = .ok (.getfield 9, 3) := by decide +kernel
theorem dX5_pass_89 : decode cX5_pass 89 = .ok (.iload_n 2, 1) := by decide +kernel
theorem dX5_pass_90 : decode cX5_pass 90 = .ok (.aaload, 1) := by decide +kernel
theorem dX5_pass_91 : decode cX5_pass 91 = .ok (.iconst 1, 1) := by decide +kernel
theorem dX5_pass_92 : decode cX5_pass 92 = .ok (.iaload, 1) := by decide +kernel
theorem dX5_pass_93 : decode cX5_pass 93 = .ok (.irem, 1) := by decide +kernel
theorem dX5_pass_94 : decode cX5_pass 94 = .ok (.ifCond .ne 9, 3) := by decide +kernel
theorem dX5_pass_97 : decode cX5_pass 97 = .ok (.aload_n 0, 1) := by decide +kernel
theorem dX5_pass_98 : decode cX5_pass 98 = .ok (.iload_n 2, 1) := by decide +kernel
theorem dX5_pass_99 : decode cX5_pass 99 = .ok (.invokevirtual 55, 3) := by decide +kernel
theorem dX5_pass_102 : decode cX5_pass 102 = .ok (.pop, 1) := by decide +kernel
theorem dX5_pass_103 : decode cX5_pass 103 = .ok (.iinc 2 1, 3) := by decide +kernel
theorem dX5_pass_106 : decode cX5_pass 106 = .ok (.goto (-99), 3) := by decide +kernel
theorem dX5_pass_109 : decode cX5_pass 109 = .ok (.iconst 0, 1) := by decide +kernel
theorem dX5_pass_110 : decode cX5_pass 110 = .ok (.istore_n 2, 1) := by decide +kernel
theorem dX5_pass_111 : decode cX5_pass 111 = .ok (.iload_n 2, 1) := by decide +kernel
theorem dX5_pass_112 : decode cX5_pass 112 = .ok (.aload_n 0, 1) := by decide +kernel
theorem dX5_pass_113 : decode cX5_pass 113 = .ok (.getfield 15, 3) := by decide +kernel
theorem dX5_pass_116 : decode cX5_pass 116 = .ok (.arraylength, 1) := by decide +kernel
theorem dX5_pass_117 : decode cX5_pass 117 = .ok (.if_icmp .ge 138, 3) := by decide +kernel
theorem dX5_pass_120 : decode cX5_pass 120 = .ok (.aload_n 0, 1) := by decide +kernel
theorem dX5_pass_121 : decode cX5_pass 121 = .ok (.getfield 15, 3) := by decide +kernel
theorem dX5_pass_124 : decode cX5_pass 124 = .ok (.iload_n 2, 1) := by decide +kernel
theorem dX5_pass_125 : decode cX5_pass 125 = .ok (.aaload, 1) := by decide +kernel
theorem dX5_pass_126 : decode cX5_pass 126 = .ok (.astore_n 3, 1) := by decide +kernel
theorem dX5_pass_127 : decode cX5_pass 127 = .ok (.aload_n 0, 1) := by decide +kernel
theorem dX5_pass_128 : decode cX5_pass 128 = .ok (.iload_n 2, 1) := by decide +kernel
theorem dX5_pass_129 : decode cX5_pass 129 = .ok (.invokevirtual 62, 3) := by decide +kernel
theorem dX5_pass_132 : decode cX5_pass 132 = .ok (.ifCond .eq 6, 3) := by decide +kernel
theorem dX5_pass_135 : decode cX5_pass 135 = .ok (.goto 114, 3) := by decide +kernel
theorem dX5_pass_138 : decode cX5_pass 138 = .ok (.aload_n 3, 1) := by decide +kernel
theorem dX5_pass_139 : decode cX5_pass 139 = .ok (.iconst 4, 1) := by decide +kernel
theorem dX5_pass_140 : decode cX5_pass 140 = .ok (.dup2, 1) := by decide +kernel
theorem dX5_pass_141 : decode cX5_pass 141 = .ok (.iaload, 1) := by decide +kernel
theorem dX5_pass_142 : decode cX5_pass 142 = .ok (.iconst 1, 1) := by decide +kernel
theorem dX5_pass_143 : decode cX5_pass 143 = .ok (.isub, 1) := by decide +kernel
theorem dX5_pass_144 : decode cX5_pass 144 = .ok (.iastore, 1) := by decide +kernel
theorem dX5_pass_145 : decode cX5_pass 145 = .ok (.aload_n 3, 1) := by decide +kernel
theorem dX5_pass_146 : decode cX5_pass 146 = .ok (.iconst 4, 1) := by decide +kernel
theorem dX5_pass_147 : decode cX5_pass 147 = .ok (.iaload, 1) := by decide +kernel
theorem dX5_pass_148 : decode cX5_pass 148 = .ok (.ifCond .le 6, 3) := by decide +kernel
theorem dX5_pass_151 : decode cX5_pass 151 = .ok (.goto 98, 3) := by decide +kernel
theorem dX5_pass_154 : decode cX5_pass 154 = .ok (.aload_n 3, 1) := by decide +kernel
theorem dX5_pass_155 : decode cX5_pass 155 = .ok (.iconst 2, 1) := by decide +kernel
theorem dX5_pass_156 : decode cX5_pass 156 = .ok (.iaload, 1) := by decide +kernel
theorem dX5_pass_157 : decode cX5_pass 157 = .ok (.istore 4, 2) := by decide +kernel
theorem dX5_pass_159 : decode cX5_pass 159 = .ok (.aload_n 3, 1) := by decide +kernel
theorem dX5_pass_160 : decode cX5_pass 160 = .ok (.iconst 2, 1) := by decide +kernel
theorem dX5_pass_161 : decode cX5_pass 161 = .ok (.iconst (-1), 1) := by decide +kernel
theorem dX5_pass_162 : decode cX5_pass 162 = .ok (.iastore, 1) := by decide +kernel
theorem dX5_pass_163 : decode cX5_pass 163 = .ok (.aload_n 3, 1) := by decide +kernel
theorem dX5_pass_164 : decode cX5_pass 164 = .ok (.iconst 3, 1) := by decide +kernel
theorem dX5_pass_165 : decode cX5_pass 165 = .ok (.iconst (-1), 1) := by decide +kernel
theorem dX5_pass_166 : decode cX5_pass 166 = .ok (.iastore, 1) := by decide +kernel
theorem dX5_pass_167 : decode cX5_pass 167 = .ok (.iload 4, 2) := by decide +kernel
theorem dX5_pass_169 : decode cX5_pass 169 = .ok (.ifCond .ge 6, 3) := by decide +kernel
theorem dX5_pass_172 : decode cX5_pass 172 = .ok (.goto 77, 3) := by decide +kernel
theorem dX5_pass_175 : decode cX5_pass 175 = .ok (.aload_n 3, 1) := by decide +kernel
theorem dX5_pass_176 : decode cX5_pass 176 = .ok (.iconst 1, 1) := by decide +kernel
theorem dX5_pass_177 : decode cX5_pass 177 = .ok (.aload_n 0, 1) := by decide +kernel
theorem dX5_pass_178 : decode cX5_pass 178 = .ok (.getfield 9, 3) := by decide +kernel
theorem dX5_pass_181 : decode cX5_pass 181 = .ok (.iload 4, 2) := by decide +kernel
theorem dX5_pass_183 : decode cX5_pass 183 = .ok (.aaload, 1) := by decide +kernel
theorem dX5_pass_184 : decode cX5_pass 184 = .ok (.iconst 0, 1) := by decide +kernel
theorem dX5_pass_185 : decode cX5_pass 185 = .ok (.iaload, 1) := by decide +kernel
theorem dX5_pass_186 : decode cX5_pass 186 = .ok (.iastore, 1) := by decide +kernel
theorem dX5_pass_187 : decode cX5_pass 187 = .ok (.aload_n 0, 1) := by decide +kernel
theorem dX5_pass_188 : decode cX5_pass 188 = .ok (.getfield 9, 3) := by decide +kernel
theorem dX5_pass_191 : decode cX5_pass 191 = .ok (.iload 4, 2) := by decide +kernel
theorem dX5_pass_193 : decode cX5_pass 193 = .ok (.aaload, 1) := by decide +kernel
theorem dX5_pass_194 : decode cX5_pass 194 = .ok (.iconst 3, 1) := by decide +kernel
theorem dX5_pass_195 : decode cX5_pass 195 = .ok (.iaload, 1) := by decide +kernel
theorem dX5_pass_196 : decode cX5_pass 196 = .ok (.ifCond .ge 16, 3) := by decide +kernel
theorem dX5_pass_199 : decode cX5_pass 199 = .ok (.aload_n 0, 1) := by decide +kernel
theorem dX5_pass_200 : decode cX5_pass 200 = .ok (.dup, 1) := by decide +kernel
theorem dX5_pass_201 : decode cX5_pass 201 = .ok (.getfield 36, 3) := by decide +kernel
theorem dX5_pass_204 : decode cX5_pass 204 = .ok (.iconst 1, 1) := by decide +kernel
theorem dX5_pass_205 : decode cX5_pass 205 = .ok (.iadd, 1) := by decide +kernel
theorem dX5_pass_206 : decode cX5_pass 206 = .ok (.putfield 36, 3) := by decide +kernel
theorem dX5_pass_209 : decode cX5_pass 209 = .ok (.goto 40, 3) := by decide +kernel
theorem dX5_pass_212 : decode cX5_pass 212 = .ok (.aload_n 0, 1) := by decide +kernel
theorem dX5_pass_213 : decode cX5_pass 213 = .ok (.getfield 9, 3) := by decide +kernel
theorem dX5_pass_216 : decode cX5_pass 216 = .ok (.iload 4, 2) := by decide +kernel
theorem dX5_pass_218 : decode cX5_pass 218 = .ok (.aaload, 1) := by decide +kernel
theorem dX5_pass_219 : decode cX5_pass 219 = .ok (.iconst 3, 1) := by decide +kernel
theorem dX5_pass_220 : decode cX5_pass 220 = .ok (.iconst (-1), 1) := by decide +kernel
theorem dX5_pass_221 : decode cX5_pass 221 = .ok (.iastore, 1) := by decide +kernel
theorem dX5_pass_222 : decode cX5_pass 222 = .ok (.aload_n 3, 1) := by decide +kernel
theorem dX5_pass_223 : decode cX5_pass 223 = .ok (.iconst 3, 1) := by decide +kernel
theorem dX5_pass_224 : decode cX5_pass 224 = .ok (.iload 4, 2) := by decide +kernel
theorem dX5_pass_226 : decode cX5_pass 226 = .ok (.iastore, 1) := by decide +kernel
theorem dX5_pass_227 : decode cX5_pass 227 = .ok (.aload_n 3, 1) := by decide +kernel
theorem dX5_pass_228 : decode cX5_pass 228 = .ok (.iconst 4, 1) := by decide +kernel
theorem dX5_pass_229 : decode cX5_pass 229 = .ok (.aload_n 0, 1) := by decide +kernel
theorem dX5_pass_230 : decode cX5_pass 230 = .ok (.getfield 9, 3) := by decide +kernel
theorem dX5_pass_233 : decode cX5_pass 233 = .ok (.iload 4, 2) := by decide +kernel
theorem dX5_pass_235 : decode cX5_pass 235 = .ok (.aaload, 1) := by decide +kernel
theorem dX5_pass_236 : decode cX5_pass 236 = .ok (.iconst 2, 1) := by decide +kernel
theorem dX5_pass_237 : decode cX5_pass 237 = .ok (.iaload, 1) := by decide +kernel
theorem dX5_pass_238 : decode cX5_pass 238 = .ok (.iastore, 1) := by decide +kernel
theorem dX5_pass_239 : decode cX5_pass 239 = .ok (.aload_n 0, 1) := by decide +kernel
theorem dX5_pass_240 : decode cX5_pass 240 = .ok (.dup, 1) := by decide +kernel
theorem dX5_pass_241 : decode cX5_pass 241 = .ok (.getfield 33, 3) := by decide +kernel
theorem dX5_pass_244 : decode cX5_pass 244 = .ok (.iconst 1, 1) := by decide +kernel
theorem dX5_pass_245 : decode cX5_pass 245 = .ok (.iadd, 1) := by decide +kernel
theorem dX5_pass_246 : decode cX5_pass 246 = .ok (.putfield 33, 3) := by decide +kernel
theorem dX5_pass_249 : decode cX5_pass 249 = .ok (.iinc 2 1, 3) := by decide +kernel
theorem dX5_pass_252 : decode cX5_pass 252 = .ok (.goto (-141), 3) := by decide +kernel
theorem dX5_pass_255 : decode cX5_pass 255 = .ok (.aload_n 0, 1) := by decide +kernel
theorem dX5_pass_256 : decode cX5_pass 256 = .ok (.getfield 18, 3) := by decide +kernel
theorem dX5_pass_259 : decode cX5_pass 259 = .ok (.arraylength, 1) := by decide +kernel
theorem dX5_pass_260 : decode cX5_pass 260 = .ok (.ifCond .le 60, 3) := by decide +kernel
theorem dX5_pass_263 : decode cX5_pass 263 = .ok (.aload_n 0, 1) := by decide +kernel
theorem dX5_pass_264 : decode cX5_pass 264 = .ok (.aload_n 0, 1) := by decide +kernel
theorem dX5_pass_265 : decode cX5_pass 265 = .ok (.getfield 18, 3) := by decide +kernel
theorem dX5_pass_268 : decode cX5_pass 268 = .ok (.iconst 0, 1) := by decide +kernel
theorem dX5_pass_269 : decode cX5_pass 269 = .ok (.iaload, 1) := by decide +kernel
theorem dX5_pass_270 : decode cX5_pass 270 = .ok (.invokevirtual 68, 3) := by decide +kernel
theorem dX5_pass_273 : decode cX5_pass 273 = .ok (.ifCond .lt 47, 3) := by decide +kernel
theorem dX5_pass_276 : decode cX5_pass 276 = .ok (.aload_n 0, 1) := by decide +kernel
theorem dX5_pass_277 : decode cX5_pass 277 = .ok (.getfield 18, 3) := by decide +kernel
theorem dX5_pass_280 : decode cX5_pass 280 = .ok (.iconst 0, 1) := by decide +kernel
theorem dX5_pass_281 : decode cX5_pass 281 = .ok (.iaload, 1) := by decide +kernel
theorem dX5_pass_282 : decode cX5_pass 282 = .ok (.istore_n 2, 1) := by decide +kernel
theorem dX5_pass_283 : decode cX5_pass 283 = .ok (.aload_n 0, 1) := by decide +kernel
theorem dX5_pass_284 : decode cX5_pass 284 = .ok (.iload_n 2, 1) := by decide +kernel
theorem dX5_pass_285 : decode cX5_pass 285 = .ok (.invokevirtual 68, 3) := by decide +kernel
theorem dX5_pass_288 : decode cX5_pass 288 = .ok (.istore_n 3, 1) := by decide +kernel
theorem dX5_pass_289 : decode cX5_pass 289 = .ok (.aload_n 0, 1) := by decide +kernel
theorem dX5_pass_290 : decode cX5_pass 290 = .ok (.getfield 15, 3) := by decide +kernel
theorem dX5_pass_293 : decode cX5_pass 293 = .ok (.iload_n 3, 1) := by decide +kernel
theorem dX5_pass_294 : decode cX5_pass 294 = .ok (.aaload, 1) := by decide +kernel
theorem dX5_pass_295 : decode cX5_pass 295 = .ok (.iconst 4, 1) := by decide +kernel
theorem dX5_pass_296 : decode cX5_pass 296 = .ok (.aload_n 0, 1) := by decide +kernel
theorem dX5_pass_297 : decode cX5_pass 297 = .ok (.iload_n 3, 1) := by decide +kernel
theorem dX5_pass_298 : decode cX5_pass 298 = .ok (.iload_n 2, 1) := by decide +kernel
theorem dX5_pass_299 : decode cX5_pass 299 = .ok (.invokevirtual 65, 3) := by decide +kernel
theorem dX5_pass_302 : decode cX5_pass 302 = .ok (.iastore, 1) := by decide +kernel
theorem dX5_pass_303 : decode cX5_pass 303 = .ok (.aload_n 0, 1) := by decide +kernel
theorem dX5_pass_304 : decode cX5_pass 304 = .ok (.getfield 15, 3) := by decide +kernel
theorem dX5_pass_307 : decode cX5_pass 307 = .ok (.iload_n 3, 1) := by decide +kernel
theorem dX5_pass_308 : decode cX5_pass 308 = .ok (.aaload, 1) := by decide +kernel
theorem dX5_pass_309 : decode cX5_pass 309 = .ok (.iconst 2, 1) := by decide +kernel
theorem dX5_pass_310 : decode cX5_pass 310 = .ok (.iload_n 2, 1) := by decide +kernel
theorem dX5_pass_311 : decode cX5_pass 311 = .ok (.iastore, 1) := by decide +kernel
theorem dX5_pass_312 : decode cX5_pass 312 = .ok (.aload_n 0, 1) := by decide +kernel
theorem dX5_pass_313 : decode cX5_pass 313 = .ok (.iload_n 2, 1) := by decide +kernel
theorem dX5_pass_314 : decode cX5_pass 314 = .ok (.invokevirtual 71, 3) := by decide +kernel
theorem dX5_pass_317 : decode cX5_pass 317 = .ok (.goto (-62), 3) := by decide +kernel
theorem dX5_pass_320 : decode cX5_pass 320 = .ok (.aload_n 0, 1) := by decide +kernel
theorem dX5_pass_321 : decode cX5_pass 321 = .ok (.dup, 1) := by decide +kernel
theorem dX5_pass_322 : decode cX5_pass 322 = .ok (.getfield 30, 3) := by decide +kernel
theorem dX5_pass_325 : decode cX5_pass 325 = .ok (.iconst 1, 1) := by decide +kernel
theorem dX5_pass_326 : decode cX5_pass 326 = .ok (.iadd, 1) := by decide +kernel
theorem dX5_pass_327 : decode cX5_pass 327 = .ok (.putfield 30, 3) := by decide +kernel
theorem dX5_pass_330 : decode cX5_pass 330 = .ok (.aload_n 0, 1) := by decide +kernel
theorem dX5_pass_331 : decode cX5_pass 331 = .ok (.getfield 33, 3) := by decide +kernel
theorem dX5_pass_334 : decode cX5_pass 334 = .ok (.iload_n 1, 1) := by decide +kernel
theorem dX5_pass_335 : decode cX5_pass 335 = .ok (.isub, 1) := by decide +kernel
theorem dX5_pass_336 : decode cX5_pass 336 = .ok (.ireturn, 1) := by decide +kernel
set_option maxRecDepth 20000 in
theorem ggX5_pass__X5_pass : GoodIn wsX5_pass_ wsX5_pass := goodIn_r _ [5, 6, 7, 8, 9, 10, 11, 12, 13, 14, 15, 4, 16, 17, 18, 19, 20, 21, 22, 23, 24, 25, 26, 27, 28, 29, 30, 31, 32, 33, 34, 35, 36, 37, 38, 39, 40, 41, 42, 43, 44, 45, 46, 47, 48, 49, 50, 51, 52] (by decide +kernel) (by decide +kernel)
set_option maxRecDepth 20000 in
theorem gX5_pass__X5_pass : GoodIn wsX5_pass_ (wsV RX5 75 RX5 yX5_pass wsX5_pass) := goodIn_app (goodIn_of _ (by decide +kernel)) ggX5_pass__X5_pass
theorem dX5_pass__0 : decode cX5_pass_ 0 = .ok (.iconst 0, 1) := by decide +kernel
theorem dX5_pass__1 : decode cX5_pass_ 1 = .ok (.istore_n 2, 1) := by decide +kernel
theorem dX5_pass__2 : decode cX5_pass_ 2 = .ok (.iconst 0, 1) := by decide +kernel
theorem dX5_pass__3 : decode cX5_pass_ 3 = .ok (.istore_n 3, 1) := by decide +kernel
theorem dX5_pass__4 : decode cX5_pass_ 4 = .ok (.iload_n 3, 1) := by decide +kernel
theorem dX5_pass__5 : decode cX5_pass_ 5 = .ok (.iload_n 1, 1) := by decide +kernel
theorem dX5_pass__6 : decode cX5_pass_ 6 = .ok (.if_icmp .ge 16, 3) := by decide +kernel
theorem dX5_pass__9 : decode cX5_pass_ 9 = .ok (.iload_n 2, 1) := by decide +kernel
theorem dX5_pass__10 : decode cX5_pass_ 10 = .ok (.aload_n 0, 1) := by decide +kernel
theorem dX5_pass__11 : decode cX5_pass_ 11 = .ok (.invokevirtual 75, 3) := by decide +kernel
theorem dX5_pass__14 : decode cX5_pass_ 14 = .ok (.iadd, 1) := by decide +kernel
theorem dX5_pass__15 : decode cX5_pass_ 15 = .ok (.istore_n 2, 1) := by decide +kernel
theorem dX5_pass__16 : decode cX5_pass_ 16 = .ok (.iinc 3 1, 3) := by decide +kernel
theorem dX5_pass__19 : decode cX5_pass_ 19 = .ok (.goto (-15), 3) := by decide +kernel
theorem dX5_pass__22 : decode cX5_pass_ 22 = .ok (.iload_n 2, 1) := by decide +kernel
theorem dX5_pass__23 : decode cX5_pass_ 23 = .ok (.ireturn, 1) := by decide +kernel
theorem dX5_cut_0 : decode cX5_cut 0 = .ok (.iconst 0, 1) := by decide +kernel
theorem dX5_cut_1 : decode cX5_cut 1 = .ok (.istore_n 1, 1) := by decide +kernel
theorem dX5_cut_2 : decode cX5_cut 2 = .ok (.aload_n 0, 1) := by decide +kernel
theorem dX5_cut_3 : decode cX5_cut 3 = .ok (.getfield 9, 3) := by decide +kernel
theorem dX5_cut_6 : decode cX5_cut 6 = .ok (.astore_n 2, 1) := by decide +kernel
theorem dX5_cut_7 : decode cX5_cut 7 = .ok (.aload_n 2, 1) := by decide +kernel
theorem dX5_cut_8 : decode cX5_cut 8 = .ok (.arraylength, 1) := by decide +kernel
theorem dX5_cut_9 : decode cX5_cut 9 = .ok (.istore_n 3, 1) := by decide +kernel
theorem dX5_cut_10 : decode cX5_cut 10 = .ok (.iconst 0, 1) := by decide +kernel
theorem dX5_cut_11 : decode cX5_cut 11 = .ok (.istore 4, 2) := by decide +kernel
theorem dX5_cut_13 : decode cX5_cut 13 = .ok (.iload 4, 2) := by decide +kernel
theorem dX5_cut_15 : decode cX5_cut 15 = .ok (.iload_n 3, 1) := by decide +kernel
theorem dX5_cut_16 : decode cX5_cut 16 = .ok (.if_icmp .ge 22, 3) := by decide +kernel
theorem dX5_cut_19 : decode cX5_cut 19 = .ok (.aload_n 2, 1) := by decide +kernel
theorem dX5_cut_20 : decode cX5_cut 20 = .ok (.iload 4, 2) := by decide +kernel
theorem dX5_cut_22 : decode cX5_cut 22 = .ok (.aaload, 1) := by decide +kernel
theorem dX5_cut_23 : decode cX5_cut 23 = .ok (.astore 5, 2) := by decide +kernel
theorem dX5_cut_25 : decode cX5_cut 25 = .ok (.iload_n 1, 1) := by decide +kernel
theorem dX5_cut_26 : decode cX5_cut 26 = .ok (.aload 5, 2) := by decide +kernel
theorem dX5_cut_28 : decode cX5_cut 28 = .ok (.iconst 5, 1) := by decide +kernel
theorem dX5_cut_29 : decode cX5_cut 29 = .ok (.iaload, 1) := by decide +kernel
theorem dX5_cut_30 : decode cX5_cut 30 = .ok (.iadd, 1) := by decide +kernel
theorem dX5_cut_31 : decode cX5_cut 31 = .ok (.istore_n 1, 1) := by decide +kernel
theorem dX5_cut_32 : decode cX5_cut 32 = .ok (.iinc 4 1, 3) := by decide +kernel
theorem dX5_cut_35 : decode cX5_cut 35 = .ok (.goto (-22), 3) := by decide +kernel
theorem dX5_cut_38 : decode cX5_cut 38 = .ok (.iload_n 1, 1) := by decide +kernel
theorem dX5_cut_39 : decode cX5_cut 39 = .ok (.ireturn, 1) := by decide +kernel
theorem dX5_cross_0 : decode cX5_cross 0 = .ok (.aload_n 0, 1) := by decide +kernel
theorem dX5_cross_1 : decode cX5_cross 1 = .ok (.getfield 9, 3) := by decide +kernel
theorem dX5_cross_4 : decode cX5_cross 4 = .ok (.iload_n 1, 1) := by decide +kernel
theorem dX5_cross_5 : decode cX5_cross 5 = .ok (.aaload, 1) := by decide +kernel
theorem dX5_cross_6 : decode cX5_cross 6 = .ok (.iconst 4, 1) := by decide +kernel
theorem dX5_cross_7 : decode cX5_cross 7 = .ok (.iaload, 1) := by decide +kernel
theorem dX5_cross_8 : decode cX5_cross 8 = .ok (.istore_n 3, 1) := by decide +kernel
theorem dX5_cross_9 : decode cX5_cross 9 = .ok (.aload_n 0, 1) := by decide +kernel
theorem dX5_cross_10 : decode cX5_cross 10 = .ok (.getfield 9, 3) := by decide +kernel
theorem dX5_cross_13 : decode cX5_cross 13 = .ok (.iload_n 1, 1) := by decide +kernel
theorem dX5_cross_14 : decode cX5_cross 14 = .ok (.aaload, 1) := by decide +kernel
theorem dX5_cross_15 : decode cX5_cross 15 = .ok (.iconst 4, 1) := by decide +kernel
theorem dX5_cross_16 : decode cX5_cross 16 = .ok (.aload_n 0, 1) := by decide +kernel
theorem dX5_cross_17 : decode cX5_cross 17 = .ok (.getfield 9, 3) := by decide +kernel
theorem dX5_cross_20 : decode cX5_cross 20 = .ok (.iload_n 2, 1) := by decide +kernel
theorem dX5_cross_21 : decode cX5_cross 21 = .ok (.aaload, 1) := by decide +kernel
theorem dX5_cross_22 : decode cX5_cross 22 = .ok (.iconst 4, 1) := by decide +kernel
theorem dX5_cross_23 : decode cX5_cross 23 = .ok (.iaload, 1) := by decide +kernel
theorem dX5_cross_24 : decode cX5_cross 24 = .ok (.iastore, 1) := by decide +kernel
theorem dX5_cross_25 : decode cX5_cross 25 = .ok (.aload_n 0, 1) := by decide +kernel
theorem dX5_cross_26 : decode cX5_cross 26 = .ok (.getfield 9, 3) := by decide +kernel
theorem dX5_cross_29 : decode cX5_cross 29 = .ok (.iload_n 2, 1) := by decide +kernel
theorem dX5_cross_30 : decode cX5_cross 30 = .ok (.aaload, 1) := by decide +kernel
theorem dX5_cross_31 : decode cX5_cross 31 = .ok (.iconst 4, 1) := by decide +kernel
theorem dX5_cross_32 : decode cX5_cross 32 = .ok (.iload_n 3, 1) := by decide +kernel
theorem dX5_cross_33 : decode cX5_cross 33 = .ok (.iastore, 1) := by decide +kernel
theorem dX5_cross_34 : decode cX5_cross 34 = .ok (.return_, 1) := by decide +kernel
set_option maxRecDepth 20000 in
theorem ggX5_crossings_X5_copy : GoodIn wsX5_crossings wsX5_copy := goodIn_r _ [6, 7, 8, 5, 1, 9, 10, 11, 12, 13, 14, 15, 16, 17, 18, 19, 20, 21, 22, 23, 24, 25, 26, 27, 28, 29, 34, 35, 36, 37, 38, 39, 40, 41, 42] (by decide +kernel) (by decide +kernel)
set_option maxRecDepth 20000 in
theorem gX5_crossings_X5_copy : GoodIn wsX5_crossings (wsV RX5 79 RX5 yX5_copy wsX5_copy) := goodIn_app (goodIn_of _ (by decide +kernel)) ggX5_crossings_X5_copy
set_option maxRecDepth 20000 in
theorem ggX5_crossings_X5_cross : GoodIn wsX5_crossings wsX5_cross := goodIn_r _ [33, 1, 34, 35, 36, 37, 38, 39, 40, 41, 42] (by decide +kernel) (by decide +kernel)
set_option maxRecDepth 20000 in
theorem gX5_crossings_X5_cross : GoodIn wsX5_crossings (wsV RX5 83 RX5 yX5_cross wsX5_cross) := goodIn_app (goodIn_of _ (by decide +kernel)) ggX5_crossings_X5_cross
theorem dX5_crossings_0 : decode cX5_crossings 0 = .ok (.aload_n 0, 1) := by decide +kernel
theorem dX5_crossings_1 : decode cX5_crossings 1 = .ok (.invokevirtual 79, 3) := by decide +kernel
theorem dX5_crossings_4 : decode cX5_crossings 4 = .ok (.astore_n 1, 1) := by decide +kernel
theorem dX5_crossings_5 : decode cX5_crossings 5 = .ok (.iconst 0, 1) := by decide +kernel
theorem dX5_crossings_6 : decode cX5_crossings 6 = .ok (.istore_n 2, 1) := by decide +kernel
theorem dX5_crossings_7 : decode cX5_crossings 7 = .ok (.iconst 0, 1) := by decide +kernel
theorem dX5_crossings_8 : decode cX5_crossings 8 = .ok (.istore_n 3, 1) := by decide +kernel
theorem dX5_crossings_9 : decode cX5_crossings 9 = .ok (.iload_n 3, 1) := by decide +kernel
theorem dX5_crossings_10 : decode cX5_crossings 10 = .ok (.aload_n 0, 1) := by decide +kernel
theorem dX5_crossings_11 : decode cX5_crossings 11 = .ok (.getfield 9, 3) := by decide +kernel
theorem dX5_crossings_14 : decode cX5_crossings 14 = .ok (.arraylength, 1) := by decide +kernel
theorem dX5_crossings_15 : decode cX5_crossings 15 = .ok (.if_icmp .ge 56, 3) := by decide +kernel
theorem dX5_crossings_18 : decode cX5_crossings 18 = .ok (.iload_n 3, 1) := by decide +kernel
theorem dX5_crossings_19 : decode cX5_crossings 19 = .ok (.iconst 1, 1) := by decide +kernel
theorem dX5_crossings_20 : decode cX5_crossings 20 = .ok (.iadd, 1) := by decide +kernel
theorem dX5_crossings_21 : decode cX5_crossings 21 = .ok (.istore 4, 2) := by decide +kernel
theorem dX5_crossings_23 : decode cX5_crossings 23 = .ok (.iload 4, 2) := by decide +kernel
theorem dX5_crossings_25 : decode cX5_crossings 25 = .ok (.aload_n 0, 1) := by decide +kernel
theorem dX5_crossings_26 : decode cX5_crossings 26 = .ok (.getfield 9, 3) := by decide +kernel
theorem dX5_crossings_29 : decode cX5_crossings 29 = .ok (.arraylength, 1) := by decide +kernel
theorem dX5_crossings_30 : decode cX5_crossings 30 = .ok (.if_icmp .ge 35, 3) := by decide +kernel
theorem dX5_crossings_33 : decode cX5_crossings 33 = .ok (.aload_n 1, 1) := by decide +kernel
theorem dX5_crossings_34 : decode cX5_crossings 34 = .ok (.getfield 9, 3) := by decide +kernel
theorem dX5_crossings_37 : decode cX5_crossings 37 = .ok (.iload 4, 2) := by decide +kernel
theorem dX5_crossings_39 : decode cX5_crossings 39 = .ok (.aaload, 1) := by decide +kernel
theorem dX5_crossings_40 : decode cX5_crossings 40 = .ok (.iconst 4, 1) := by decide +kernel
theorem dX5_crossings_41 : decode cX5_crossings 41 = .ok (.iaload, 1) := by decide +kernel
theorem dX5_crossings_42 : decode cX5_crossings 42 = .ok (.iload_n 3, 1) := by decide +kernel
theorem dX5_crossings_43 : decode cX5_crossings 43 = .ok (.if_icmp .eq 6, 3) := by decide +kernel
theorem dX5_crossings_46 : decode cX5_crossings 46 = .ok (.goto 13, 3) := by decide +kernel
theorem dX5_crossings_49 : decode cX5_crossings 49 = .ok (.aload_n 1, 1) := by decide +kernel
theorem dX5_crossings_50 : decode cX5_crossings 50 = .ok (.iload_n 3, 1) := by decide +kernel
theorem dX5_crossings_51 : decode cX5_crossings 51 = .ok (.iload 4, 2) := by decide +kernel
theorem dX5_crossings_53 : decode cX5_crossings 53 = .ok (.invokevirtual 83, 3) := by decide +kernel
theorem dX5_crossings_56 : decode cX5_crossings 56 = .ok (.iinc 2 1, 3) := by decide +kernel
theorem dX5_crossings_59 : decode cX5_crossings 59 = .ok (.iinc 4 1, 3) := by decide +kernel
theorem dX5_crossings_62 : decode cX5_crossings 62 = .ok (.goto (-39), 3) := by decide +kernel
theorem dX5_crossings_65 : decode cX5_crossings 65 = .ok (.iinc 3 1, 3) := by decide +kernel
theorem dX5_crossings_68 : decode cX5_crossings 68 = .ok (.goto (-59), 3) := by decide +kernel
theorem dX5_crossings_71 : decode cX5_crossings 71 = .ok (.iload_n 2, 1) := by decide +kernel
theorem dX5_crossings_72 : decode cX5_crossings 72 = .ok (.ireturn, 1) := by decide +kernel
set_option maxRecDepth 20000 in
theorem ggX5_isSame_X4_dropOf : GoodIn wsX5_isSame wsX4_dropOf := goodIn_ca (goodIn_r _ [14, 15, 16, 17, 18, 13, 19, 20, 21, 22, 23, 24, 25, 26, 27, 246, 247, 248, 249, 250, 251, 252, 253, 254, 255, 256, 257, 258, 259, 260, 261, 262, 263] (by decide +kernel) (by decide +kernel)) (goodIn_sub (fun _ h => List.mem_cons_of_mem _ (List.mem_append_right _ h)) (by decide +kernel))
set_option maxRecDepth 20000 in
theorem gX5_isSame_X4_dropOf : GoodIn wsX5_isSame (wsV RX5 87 RX4 yX4_dropOf wsX4_dropOf) := goodIn_app (goodIn_of _ (by decide +kernel)) ggX5_isSame_X4_dropOf
set_option maxRecDepth 20000 in
theorem ggX5_isSame_X4_roomOf : GoodIn wsX5_isSame wsX4_roomOf := goodIn_ca (goodIn_r _ [31, 15, 16, 17, 18, 13, 19, 20, 21, 22, 23, 24, 25, 26, 27, 246, 247, 248, 249, 250, 251, 252, 253, 254, 255, 256, 257, 258, 259, 260, 261, 262, 263] (by decide +kernel) (by decide +kernel)) (goodIn_sub (fun _ h => List.mem_cons_of_mem _ (List.mem_append_right _ h)) (by decide +kernel))
set_option maxRecDepth 20000 in
theorem gX5_isSame_X4_roomOf : GoodIn wsX5_isSame (wsV RX5 92 RX4 yX4_roomOf wsX4_roomOf) := goodIn_app (goodIn_of _ (by decide +kernel)) ggX5_isSame_X4_roomOf
set_option maxRecDepth 20000 in
theorem ggX5_isSame_X4_isCut : GoodIn wsX5_isSame wsX4_isCut := goodIn_ca (goodIn_r _ [35, 15, 16, 17, 18, 13, 19, 20, 21, 36, 37, 38, 39, 40, 41, 42, 23, 24, 25, 26, 27, 246, 247, 248, 249, 250, 251, 252, 253, 254, 255, 256, 257, 258, 259, 260, 261, 262, 263] (by decide +kernel) (by decide +kernel)) (goodIn_sub (fun _ h => List.mem_cons_of_mem _ (List.mem_append_right _ h)) (by decide +kernel))
set_option maxRecDepth 20000 in
theorem gX5_isSame_X4_isCut : GoodIn wsX5_isSame (wsV RX5 95 RX4 yX4_isCut wsX4_isCut) := goodIn_app (goodIn_of _ (by decide +kernel)) ggX5_isSame_X4_isCut
set_option maxRecDepth 20000 in
theorem ggX5_isSame_X4_waitedFor : GoodIn wsX5_isSame wsX4_waitedFor := goodIn_ca (goodIn_r _ [46, 15, 16, 17, 18, 13, 19, 20, 21, 22, 23, 24, 25, 26, 27, 246, 247, 248, 249, 250, 251, 252, 253, 254, 255, 256, 257, 258, 259, 260, 261, 262, 263] (by decide +kernel) (by decide +kernel)) (goodIn_sub (fun _ h => List.mem_cons_of_mem _ (List.mem_append_right _ h)) (by decide +kernel))
set_option maxRecDepth 20000 in
theorem gX5_isSame_X4_waitedFor : GoodIn wsX5_isSame (wsV RX5 98 RX4 yX4_waitedFor wsX4_waitedFor) := goodIn_app (goodIn_of _ (by decide +kernel)) ggX5_isSame_X4_waitedFor
set_option maxRecDepth 20000 in
theorem ggX5_isSame_X4_placeInLine : GoodIn wsX5_isSame wsX4_placeInLine := goodIn_ca (goodIn_r _ [50, 15, 16, 17, 18, 13, 19, 20, 21, 51, 52, 53, 54, 55, 56, 57, 246, 247, 248, 249, 250, 251, 252, 253, 254, 255, 256, 257, 258, 259, 260, 261, 262, 264, 265] (by decide +kernel) (by decide +kernel)) (goodIn_sub (fun _ h => List.mem_cons_of_mem _ (List.mem_append_right _ h)) (by decide +kernel))
set_option maxRecDepth 20000 in
theorem gX5_isSame_X4_placeInLine : GoodIn wsX5_isSame (wsV RX5 101 RX4 yX4_placeInLine wsX4_placeInLine) := goodIn_app (goodIn_of _ (by decide +kernel)) ggX5_isSame_X4_placeInLine
set_option maxRecDepth 20000 in
theorem ggX5_isSame_X5_place : GoodIn wsX5_isSame wsX5_place := goodIn_r _ [62, 9, 237, 238, 239, 240, 241, 242, 243, 244, 245] (by decide +kernel) (by decide +kernel)
set_option maxRecDepth 20000 in
theorem gX5_isSame_X5_place : GoodIn wsX5_isSame (wsV RX5 45 RX5 yX5_place wsX5_place) := goodIn_app (goodIn_of _ (by decide +kernel)) ggX5_isSame_X5_place
set_option maxRecDepth 20000 in
theorem ggX5_isSame_X4_hasFallen : GoodIn wsX5_isSame wsX4_hasFallen := goodIn_ca (goodIn_r _ [66, 15, 16, 17, 18, 13, 19, 20, 21, 51, 52, 53, 54, 55, 56, 57, 246, 247, 248, 249, 250, 251, 252, 253, 254, 255, 256, 257, 258, 259, 260, 261, 262, 264, 265] (by decide +kernel) (by decide +kernel)) (goodIn_sub (fun _ h => List.mem_cons_of_mem _ (List.mem_append_right _ h)) (by decide +kernel))
set_option maxRecDepth 20000 in
theorem gX5_isSame_X4_hasFallen : GoodIn wsX5_isSame (wsV RX5 104 RX4 yX4_hasFallen wsX4_hasFallen) := goodIn_app (goodIn_of _ (by decide +kernel)) ggX5_isSame_X4_hasFallen
set_option maxRecDepth 20000 in
theorem ggX5_isSame_X4_ringsLeft : GoodIn wsX5_isSame wsX4_ringsLeft := goodIn_ca (goodIn_r _ [70, 15, 16, 17, 18, 13, 19, 20, 21, 36, 37, 38, 39, 40, 41, 42, 23, 24, 25, 26, 27, 22, 71, 72, 73, 74, 75, 76, 246, 247, 248, 249, 250, 251, 252, 253, 254, 255, 256, 257, 258, 259, 260, 261, 262, 263] (by decide +kernel) (by decide +kernel)) (goodIn_sub (fun _ h => List.mem_cons_of_mem _ (List.mem_append_right _ h)) (by decide +kernel))
set_option maxRecDepth 20000 in
theorem gX5_isSame_X4_ringsLeft : GoodIn wsX5_isSame (wsV RX5 107 RX4 yX4_ringsLeft wsX4_ringsLeft) := goodIn_app (goodIn_of _ (by decide +kernel)) ggX5_isSame_X4_ringsLeft
set_option maxRecDepth 20000 in
theorem ggX5_isSame_X4_nearestIdle : GoodIn wsX5_isSame wsX4_nearestIdle := goodIn_ca (goodIn_r _ [80, 15, 16, 17, 18, 13, 19, 20, 21, 22, 23, 24, 25, 26, 27, 81, 82, 83, 84, 85, 86, 87, 88, 89, 90, 91, 92, 93, 94, 246, 247, 248, 249, 250, 251, 252, 253, 254, 255, 256, 257, 258, 259, 260, 261, 262, 263, 266, 267, 268, 269, 270, 271] (by decide +kernel) (by decide +kernel)) (goodIn_sub (fun _ h => List.mem_cons_of_mem _ (List.mem_append_right _ h)) (by decide +kernel))
set_option maxRecDepth 20000 in
theorem gX5_isSame_X4_nearestIdle : GoodIn wsX5_isSame (wsV RX5 110 RX4 yX4_nearestIdle wsX4_nearestIdle) := goodIn_app (goodIn_of _ (by decide +kernel)) ggX5_isSame_X4_nearestIdle
set_option maxRecDepth 20000 in
theorem ggX5_isSame_X5_nearest : GoodIn wsX5_isSame wsX5_nearest := goodIn_r _ [98, 3, 99, 100, 101, 61, 102, 103, 104, 105, 106, 1, 107, 108, 109, 110, 237, 238, 239, 240, 241, 242, 243, 244, 245] (by decide +kernel) (by decide +kernel)
set_option maxRecDepth 20000 in
theorem gX5_isSame_X5_nearest : GoodIn wsX5_isSame (wsV RX5 68 RX5 yX5_nearest wsX5_nearest) := goodIn_app (goodIn_of _ (by decide +kernel)) ggX5_isSame_X5_nearest
set_option maxRecDepth 20000 in
theorem ggX5_isSame_X4_floorOf : GoodIn wsX5_isSame wsX4_floorOf := goodIn_ca (goodIn_r _ [114, 15, 115, 116, 117, 13, 118, 20, 21, 22, 23, 24, 25, 26, 27, 246, 247, 248, 249, 250, 251, 252, 253, 254, 255, 256, 257, 258, 259, 260, 261, 262, 266, 267, 268, 269, 270, 271, 263] (by decide +kernel) (by decide +kernel)) (goodIn_sub (fun _ h => List.mem_cons_of_mem _ (List.mem_append_right _ h)) (by decide +kernel))
set_option maxRecDepth 20000 in
theorem gX5_isSame_X4_floorOf : GoodIn wsX5_isSame (wsV RX5 113 RX4 yX4_floorOf wsX4_floorOf) := goodIn_app (goodIn_of _ (by decide +kernel)) ggX5_isSame_X4_floorOf
set_option maxRecDepth 20000 in
theorem ggX5_isSame_X4_goesTo : GoodIn wsX5_isSame wsX4_goesTo := goodIn_ca (goodIn_r _ [122, 15, 115, 116, 117, 13, 118, 20, 21, 22, 23, 24, 25, 26, 27, 246, 247, 248, 249, 250, 251, 252, 253, 254, 255, 256, 257, 258, 259, 260, 261, 262, 266, 267, 268, 269, 270, 271, 263] (by decide +kernel) (by decide +kernel)) (goodIn_sub (fun _ h => List.mem_cons_of_mem _ (List.mem_append_right _ h)) (by decide +kernel))
set_option maxRecDepth 20000 in
theorem gX5_isSame_X4_goesTo : GoodIn wsX5_isSame (wsV RX5 116 RX4 yX4_goesTo wsX4_goesTo) := goodIn_app (goodIn_of _ (by decide +kernel)) ggX5_isSame_X4_goesTo
set_option maxRecDepth 20000 in
theorem ggX5_isSame_X4_serves : GoodIn wsX5_isSame wsX4_serves := goodIn_ca (goodIn_r _ [126, 15, 115, 116, 117, 13, 118, 20, 21, 22, 23, 24, 25, 26, 27, 246, 247, 248, 249, 250, 251, 252, 253, 254, 255, 256, 257, 258, 259, 260, 261, 262, 266, 267, 268, 269, 270, 271, 263] (by decide +kernel) (by decide +kernel)) (goodIn_sub (fun _ h => List.mem_cons_of_mem _ (List.mem_append_right _ h)) (by decide +kernel))
set_option maxRecDepth 20000 in
theorem gX5_isSame_X4_serves : GoodIn wsX5_isSame (wsV RX5 119 RX4 yX4_serves wsX4_serves) := goodIn_app (goodIn_of _ (by decide +kernel)) ggX5_isSame_X4_serves
set_option maxRecDepth 20000 in
theorem ggX5_isSame_X4_minutesLeft : GoodIn wsX5_isSame wsX4_minutesLeft := goodIn_ca (goodIn_r _ [130, 15, 115, 116, 117, 13, 118, 20, 21, 22, 23, 24, 25, 26, 27, 246, 247, 248, 249, 250, 251, 252, 253, 254, 255, 256, 257, 258, 259, 260, 261, 262, 266, 267, 268, 269, 270, 271, 263] (by decide +kernel) (by decide +kernel)) (goodIn_sub (fun _ h => List.mem_cons_of_mem _ (List.mem_append_right _ h)) (by decide +kernel))
set_option maxRecDepth 20000 in
theorem gX5_isSame_X4_minutesLeft : GoodIn wsX5_isSame (wsV RX5 122 RX4 yX4_minutesLeft wsX4_minutesLeft) := goodIn_app (goodIn_of _ (by decide +kernel)) ggX5_isSame_X4_minutesLeft
set_option maxRecDepth 20000 in
theorem ggX5_isSame_X5_isIdle : GoodIn wsX5_isSame wsX5_isIdle := goodIn_r _ [102, 3, 237, 238, 239, 240, 241, 242, 243, 244, 245] (by decide +kernel) (by decide +kernel)
set_option maxRecDepth 20000 in
theorem gX5_isSame_X5_isIdle : GoodIn wsX5_isSame (wsV RX5 62 RX5 yX5_isIdle wsX5_isIdle) := goodIn_app (goodIn_of _ (by decide +kernel)) ggX5_isSame_X5_isIdle
set_option maxRecDepth 20000 in
theorem ggX5_isSame_X4_wayTo : GoodIn wsX5_isSame wsX4_wayTo := goodIn_ca (goodIn_r _ [134, 15, 115, 116, 117, 13, 118, 20, 21, 16, 17, 18, 19, 22, 23, 24, 25, 26, 27, 135, 136, 137, 84, 138, 89, 90, 91, 92, 93, 94, 246, 247, 248, 249, 250, 251, 252, 253, 254, 255, 256, 257, 258, 259, 260, 261, 262, 266, 267, 268, 269, 270, 271, 263] (by decide +kernel) (by decide +kernel)) (goodIn_sub (fun _ h => List.mem_cons_of_mem _ (List.mem_append_right _ h)) (by decide +kernel))
set_option maxRecDepth 20000 in
theorem gX5_isSame_X4_wayTo : GoodIn wsX5_isSame (wsV RX5 125 RX4 yX4_wayTo wsX4_wayTo) := goodIn_app (goodIn_of _ (by decide +kernel)) ggX5_isSame_X4_wayTo
set_option maxRecDepth 20000 in
theorem ggX5_isSame_X5_way : GoodIn wsX5_isSame wsX5_way := goodIn_r _ [106, 3, 1, 107, 108, 109, 110, 237, 238, 239, 240, 241, 242, 243, 244, 245] (by decide +kernel) (by decide +kernel)
set_option maxRecDepth 20000 in
theorem gX5_isSame_X5_way : GoodIn wsX5_isSame (wsV RX5 65 RX5 yX5_way wsX5_way) := goodIn_app (goodIn_of _ (by decide +kernel)) ggX5_isSame_X5_way
set_option maxRecDepth 20000 in
theorem ggX5_isSame_X4_minute : GoodIn wsX5_isSame wsX4_minute := goodIn_r _ [142, 15, 246, 247, 248, 249, 250, 251, 252, 253, 254, 255, 256, 257, 258, 259, 260, 261, 262] (by decide +kernel) (by decide +kernel)
set_option maxRecDepth 20000 in
theorem gX5_isSame_X4_minute : GoodIn wsX5_isSame (wsV RX5 128 RX4 yX4_minute wsX4_minute) := goodIn_app (goodIn_of _ (by decide +kernel)) ggX5_isSame_X4_minute
set_option maxRecDepth 20000 in
theorem ggX5_isSame_X4_rooms : GoodIn wsX5_isSame wsX4_rooms := goodIn_r _ [146, 15, 246, 247, 248, 249, 250, 251, 252, 253, 254, 255, 256, 257, 258, 259, 260, 261, 262] (by decide +kernel) (by decide +kernel)
set_option maxRecDepth 20000 in
theorem gX5_isSame_X4_rooms : GoodIn wsX5_isSame (wsV RX5 130 RX4 yX4_rooms wsX4_rooms) := goodIn_app (goodIn_of _ (by decide +kernel)) ggX5_isSame_X4_rooms
set_option maxRecDepth 20000 in
theorem ggX5_isSame_X4_servants : GoodIn wsX5_isSame wsX4_servants := goodIn_r _ [150, 15, 246, 247, 248, 249, 250, 251, 252, 253, 254, 255, 256, 257, 258, 259, 260, 261, 262, 266, 267, 268, 269, 270, 271] (by decide +kernel) (by decide +kernel)
set_option maxRecDepth 20000 in
theorem gX5_isSame_X4_servants : GoodIn wsX5_isSame (wsV RX5 132 RX4 yX4_servants wsX4_servants) := goodIn_app (goodIn_of _ (by decide +kernel)) ggX5_isSame_X4_servants
set_option maxRecDepth 20000 in
theorem ggX5_isSame_X4_charge : GoodIn wsX5_isSame wsX4_charge := goodIn_r _ [154, 15, 246, 247, 248, 249, 250, 251, 252, 253, 254, 255, 256, 257, 258, 259, 260, 261, 262] (by decide +kernel) (by decide +kernel)
set_option maxRecDepth 20000 in
theorem gX5_isSame_X4_charge : GoodIn wsX5_isSame (wsV RX5 134 RX4 yX4_charge wsX4_charge) := goodIn_app (goodIn_of _ (by decide +kernel)) ggX5_isSame_X4_charge
set_option maxRecDepth 20000 in
theorem ggX5_isSame_X4_served : GoodIn wsX5_isSame wsX4_served := goodIn_r _ [158, 15, 246, 247, 248, 249, 250, 251, 252, 253, 254, 255, 256, 257, 258, 259, 260, 261, 262] (by decide +kernel) (by decide +kernel)
set_option maxRecDepth 20000 in
theorem gX5_isSame_X4_served : GoodIn wsX5_isSame (wsV RX5 136 RX4 yX4_served wsX4_served) := goodIn_app (goodIn_of _ (by decide +kernel)) ggX5_isSame_X4_served
set_option maxRecDepth 20000 in
theorem ggX5_isSame_X4_inVain : GoodIn wsX5_isSame wsX4_inVain := goodIn_r _ [162, 15, 246, 247, 248, 249, 250, 251, 252, 253, 254, 255, 256, 257, 258, 259, 260, 261, 262] (by decide +kernel) (by decide +kernel)
set_option maxRecDepth 20000 in
theorem gX5_isSame_X4_inVain : GoodIn wsX5_isSame (wsV RX5 138 RX4 yX4_inVain wsX4_inVain) := goodIn_app (goodIn_of _ (by decide +kernel)) ggX5_isSame_X4_inVain
set_option maxRecDepth 20000 in
theorem ggX5_isSame_X4_gaveUp : GoodIn wsX5_isSame wsX4_gaveUp := goodIn_r _ [166, 15, 246, 247, 248, 249, 250, 251, 252, 253, 254, 255, 256, 257, 258, 259, 260, 261, 262] (by decide +kernel) (by decide +kernel)
set_option maxRecDepth 20000 in
theorem gX5_isSame_X4_gaveUp : GoodIn wsX5_isSame (wsV RX5 140 RX4 yX4_gaveUp wsX4_gaveUp) := goodIn_app (goodIn_of _ (by decide +kernel)) ggX5_isSame_X4_gaveUp
set_option maxRecDepth 20000 in
theorem ggX5_isSame_X4_unheard : GoodIn wsX5_isSame wsX4_unheard := goodIn_r _ [170, 15, 246, 247, 248, 249, 250, 251, 252, 253, 254, 255, 256, 257, 258, 259, 260, 261, 262] (by decide +kernel) (by decide +kernel)
set_option maxRecDepth 20000 in
theorem gX5_isSame_X4_unheard : GoodIn wsX5_isSame (wsV RX5 142 RX4 yX4_unheard wsX4_unheard) := goodIn_app (goodIn_of _ (by decide +kernel)) ggX5_isSame_X4_unheard
set_option maxRecDepth 20000 in
theorem ggX5_isSame_X4_longestWaiting : GoodIn wsX5_isSame wsX4_longestWaiting := goodIn_r _ [174, 15, 22, 23, 24, 25, 26, 27, 246, 247, 248, 249, 250, 251, 252, 253, 254, 255, 256, 257, 258, 259, 260, 261, 262, 263] (by decide +kernel) (by decide +kernel)
set_option maxRecDepth 20000 in
theorem gX5_isSame_X4_longestWaiting : GoodIn wsX5_isSame (wsV RX5 144 RX4 yX4_longestWaiting wsX4_longestWaiting) := goodIn_app (goodIn_of _ (by decide +kernel)) ggX5_isSame_X4_longestWaiting
set_option maxRecDepth 20000 in
theorem ggX5_isSame_X4_crossed : GoodIn wsX5_isSame wsX4_crossed := goodIn_r _ [178, 15, 22, 23, 24, 25, 26, 27, 246, 247, 248, 249, 250, 251, 252, 253, 254, 255, 256, 257, 258, 259, 260, 261, 262, 263] (by decide +kernel) (by decide +kernel)
set_option maxRecDepth 20000 in
theorem gX5_isSame_X4_crossed : GoodIn wsX5_isSame (wsV RX5 147 RX4 yX4_crossed wsX4_crossed) := goodIn_app (goodIn_of _ (by decide +kernel)) ggX5_isSame_X4_crossed
set_option maxRecDepth 20000 in
theorem ggX5_isSame_X4_crossingsNeeded : GoodIn wsX5_isSame wsX4_crossingsNeeded := goodIn_r _ [182, 15, 183, 184, 185, 39, 186, 187, 188, 42, 23, 24, 25, 26, 27, 246, 247, 248, 249, 250, 251, 252, 253, 254, 255, 256, 257, 258, 259, 260, 261, 262, 263] (by decide +kernel) (by decide +kernel)
set_option maxRecDepth 20000 in
theorem gX5_isSame_X4_crossingsNeeded : GoodIn wsX5_isSame (wsV RX5 150 RX4 yX4_crossingsNeeded wsX4_crossingsNeeded) := goodIn_app (goodIn_of _ (by decide +kernel)) ggX5_isSame_X4_crossingsNeeded
set_option maxRecDepth 20000 in
theorem ggX5_isSame_X5_crossings : GoodIn wsX5_isSame wsX5_crossings := goodIn_r _ [192, 1, 193, 194, 195, 61, 196, 197, 198, 199, 200, 201, 202, 203, 204, 3, 9, 4, 2, 5, 6, 7, 8, 205, 206, 207, 208, 209, 210, 211, 212, 213, 214, 215, 237, 238, 239, 240, 241, 242, 243, 244, 245] (by decide +kernel) (by decide +kernel)
set_option maxRecDepth 20000 in
theorem gX5_isSame_X5_crossings : GoodIn wsX5_isSame (wsV RX5 153 RX5 yX5_crossings wsX5_crossings) := goodIn_app (goodIn_of _ (by decide +kernel)) ggX5_isSame_X5_crossings
set_option maxRecDepth 20000 in
theorem ggX5_isSame_X4_fallen : GoodIn wsX5_isSame wsX4_fallen := goodIn_r _ [219, 15, 246, 247, 248, 249, 250, 251, 252, 253, 254, 255, 256, 257, 258, 259, 260, 261, 262, 264, 265] (by decide +kernel) (by decide +kernel)
set_option maxRecDepth 20000 in
theorem gX5_isSame_X4_fallen : GoodIn wsX5_isSame (wsV RX5 156 RX4 yX4_fallen wsX4_fallen) := goodIn_app (goodIn_of _ (by decide +kernel)) ggX5_isSame_X4_fallen
set_option maxRecDepth 20000 in
theorem ggX5_isSame_X4_nextDrop : GoodIn wsX5_isSame wsX4_nextDrop := goodIn_r _ [223, 15, 224, 225, 226, 54, 227, 56, 57, 246, 247, 248, 249, 250, 251, 252, 253, 254, 255, 256, 257, 258, 259, 260, 261, 262, 264, 265] (by decide +kernel) (by decide +kernel)
set_option maxRecDepth 20000 in
theorem gX5_isSame_X4_nextDrop : GoodIn wsX5_isSame (wsV RX5 159 RX4 yX4_nextDrop wsX4_nextDrop) := goodIn_app (goodIn_of _ (by decide +kernel)) ggX5_isSame_X4_nextDrop
set_option maxRecDepth 20000 in
theorem ggX5_isSame_X4_meanWait : GoodIn wsX5_isSame wsX4_meanWait := goodIn_r _ [231, 15, 232, 233, 234, 39, 235, 236, 42, 23, 24, 25, 26, 27, 22, 246, 247, 248, 249, 250, 251, 252, 253, 254, 255, 256, 257, 258, 259, 260, 261, 262, 263] (by decide +kernel) (by decide +kernel)
set_option maxRecDepth 20000 in
theorem gX5_isSame_X4_meanWait : GoodIn wsX5_isSame (wsV RX5 162 RX4 yX4_meanWait wsX4_meanWait) := goodIn_app (goodIn_of _ (by decide +kernel)) ggX5_isSame_X4_meanWait
theorem dX5_isSame_0 : decode cX5_isSame 0 = .ok (.iconst 0, 1) := by decide +kernel
theorem dX5_isSame_1 : decode cX5_isSame 1 = .ok (.istore_n 2, 1) := by decide +kernel
theorem dX5_isSame_2 : decode cX5_isSame 2 = .ok (.iconst (-1), 1) := by decide +kernel
theorem dX5_isSame_3 : decode cX5_isSame 3 = .ok (.istore_n 3, 1) := by decide +kernel
theorem dX5_isSame_4 : decode cX5_isSame 4 = .ok (.iconst 0, 1) := by decide +kernel
theorem dX5_isSame_5 : decode cX5_isSame 5 = .ok (.istore 4, 2) := by decide +kernel
theorem dX5_isSame_7 : decode cX5_isSame 7 = .ok (.iconst 0, 1) := by decide +kernel
theorem dX5_isSame_8 : decode cX5_isSame 8 = .ok (.istore 5, 2) := by decide +kernel
theorem dX5_isSame_10 : decode cX5_isSame 10 = .ok (.iconst 0, 1) := by decide +kernel
theorem dX5_isSame_11 : decode cX5_isSame 11 = .ok (.istore 6, 2) := by decide +kernel
theorem dX5_isSame_13 : decode cX5_isSame 13 = .ok (.iload 6, 2) := by decide +kernel
theorem dX5_isSame_15 : decode cX5_isSame 15 = .ok (.aload_n 0, 1) := by decide +kernel
theorem dX5_isSame_16 : decode cX5_isSame 16 = .ok (.getfield 9, 3) := by decide +kernel
theorem dX5_isSame_19 : decode cX5_isSame 19 = .ok (.arraylength, 1) := by decide +kernel
theorem dX5_isSame_20 : decode cX5_isSame 20 = .ok (.if_icmp .ge 224, 3) := by decide +kernel
theorem dX5_isSame_23 : decode cX5_isSame 23 = .ok (.aload_n 0, 1) := by decide +kernel
theorem dX5_isSame_24 : decode cX5_isSame 24 = .ok (.getfield 9, 3) := by decide +kernel
theorem dX5_isSame_27 : decode cX5_isSame 27 = .ok (.iload 6, 2) := by decide +kernel
theorem dX5_isSame_29 : decode cX5_isSame 29 = .ok (.aaload, 1) := by decide +kernel
theorem dX5_isSame_30 : decode cX5_isSame 30 = .ok (.astore 7, 2) := by decide +kernel
theorem dX5_isSame_32 : decode cX5_isSame 32 = .ok (.iload_n 2, 1) := by decide +kernel
theorem dX5_isSame_33 : decode cX5_isSame 33 = .ok (.aload 7, 2) := by decide +kernel
theorem dX5_isSame_35 : decode cX5_isSame 35 = .ok (.iconst 4, 1) := by decide +kernel
theorem dX5_isSame_36 : decode cX5_isSame 36 = .ok (.iaload, 1) := by decide +kernel
theorem dX5_isSame_37 : decode cX5_isSame 37 = .ok (.iload 6, 2) := by decide +kernel
theorem dX5_isSame_39 : decode cX5_isSame 39 = .ok (.if_icmp .ne 7, 3) := by decide +kernel
theorem dX5_isSame_42 : decode cX5_isSame 42 = .ok (.iconst 0, 1) := by decide +kernel
theorem dX5_isSame_43 : decode cX5_isSame 43 = .ok (.goto 4, 3) := by decide +kernel
theorem dX5_isSame_46 : decode cX5_isSame 46 = .ok (.iconst 1, 1) := by decide +kernel
theorem dX5_isSame_47 : decode cX5_isSame 47 = .ok (.iadd, 1) := by decide +kernel
theorem dX5_isSame_48 : decode cX5_isSame 48 = .ok (.istore_n 2, 1) := by decide +kernel
theorem dX5_isSame_49 : decode cX5_isSame 49 = .ok (.aload 7, 2) := by decide +kernel
theorem dX5_isSame_51 : decode cX5_isSame 51 = .ok (.iconst 3, 1) := by decide +kernel
theorem dX5_isSame_52 : decode cX5_isSame 52 = .ok (.iaload, 1) := by decide +kernel
theorem dX5_isSame_53 : decode cX5_isSame 53 = .ok (.ifCond .lt 37, 3) := by decide +kernel
theorem dX5_isSame_56 : decode cX5_isSame 56 = .ok (.iload 4, 2) := by decide +kernel
theorem dX5_isSame_58 : decode cX5_isSame 58 = .ok (.aload 7, 2) := by decide +kernel
theorem dX5_isSame_60 : decode cX5_isSame 60 = .ok (.iconst 3, 1) := by decide +kernel
theorem dX5_isSame_61 : decode cX5_isSame 61 = .ok (.iaload, 1) := by decide +kernel
theorem dX5_isSame_62 : decode cX5_isSame 62 = .ok (.iadd, 1) := by decide +kernel
theorem dX5_isSame_63 : decode cX5_isSame 63 = .ok (.istore 4, 2) := by decide +kernel
theorem dX5_isSame_65 : decode cX5_isSame 65 = .ok (.iinc 5 1, 3) := by decide +kernel
theorem dX5_isSame_68 : decode cX5_isSame 68 = .ok (.iload_n 3, 1) := by decide +kernel
theorem dX5_isSame_69 : decode cX5_isSame 69 = .ok (.ifCond .lt 18, 3) := by decide +kernel
theorem dX5_isSame_72 : decode cX5_isSame 72 = .ok (.aload 7, 2) := by decide +kernel
theorem dX5_isSame_74 : decode cX5_isSame 74 = .ok (.iconst 3, 1) := by decide +kernel
theorem dX5_isSame_75 : decode cX5_isSame 75 = .ok (.iaload, 1) := by decide +kernel
theorem dX5_isSame_76 : decode cX5_isSame 76 = .ok (.aload_n 0, 1) := by decide +kernel
theorem dX5_isSame_77 : decode cX5_isSame 77 = .ok (.getfield 9, 3) := by decide +kernel
theorem dX5_isSame_80 : decode cX5_isSame 80 = .ok (.iload_n 3, 1) := by decide +kernel
theorem dX5_isSame_81 : decode cX5_isSame 81 = .ok (.aaload, 1) := by decide +kernel
theorem dX5_isSame_82 : decode cX5_isSame 82 = .ok (.iconst 3, 1) := by decide +kernel
theorem dX5_isSame_83 : decode cX5_isSame 83 = .ok (.iaload, 1) := by decide +kernel
theorem dX5_isSame_84 : decode cX5_isSame 84 = .ok (.if_icmp .le 6, 3) := by decide +kernel
theorem dX5_isSame_87 : decode cX5_isSame 87 = .ok (.iload 6, 2) := by decide +kernel
theorem dX5_isSame_89 : decode cX5_isSame 89 = .ok (.istore_n 3, 1) := by decide +kernel
theorem dX5_isSame_90 : decode cX5_isSame 90 = .ok (.aload_n 1, 1) := by decide +kernel
theorem dX5_isSame_91 : decode cX5_isSame 91 = .ok (.iload 6, 2) := by decide +kernel
theorem dX5_isSame_93 : decode cX5_isSame 93 = .ok (.invokevirtual 87, 3) := by decide +kernel
theorem dX5_isSame_96 : decode cX5_isSame 96 = .ok (.aload 7, 2) := by decide +kernel
theorem dX5_isSame_98 : decode cX5_isSame 98 = .ok (.iconst 4, 1) := by decide +kernel
theorem dX5_isSame_99 : decode cX5_isSame 99 = .ok (.iaload, 1) := by decide +kernel
theorem dX5_isSame_100 : decode cX5_isSame 100 = .ok (.if_icmp .ne 136, 3) := by decide +kernel
theorem dX5_isSame_103 : decode cX5_isSame 103 = .ok (.aload_n 1, 1) := by decide +kernel
theorem dX5_isSame_104 : decode cX5_isSame 104 = .ok (.aload 7, 2) := by decide +kernel
theorem dX5_isSame_106 : decode cX5_isSame 106 = .ok (.iconst 4, 1) := by decide +kernel
theorem dX5_isSame_107 : decode cX5_isSame 107 = .ok (.iaload, 1) := by decide +kernel
theorem dX5_isSame_108 : decode cX5_isSame 108 = .ok (.invokevirtual 92, 3) := by decide +kernel
theorem dX5_isSame_111 : decode cX5_isSame 111 = .ok (.iload 6, 2) := by decide +kernel
theorem dX5_isSame_113 : decode cX5_isSame 113 = .ok (.if_icmp .ne 123, 3) := by decide +kernel
theorem dX5_isSame_116 : decode cX5_isSame 116 = .ok (.aload_n 1, 1) := by decide +kernel
theorem dX5_isSame_117 : decode cX5_isSame 117 = .ok (.iload 6, 2) := by decide +kernel
theorem dX5_isSame_119 : decode cX5_isSame 119 = .ok (.invokevirtual 95, 3) := by decide +kernel
theorem dX5_isSame_122 : decode cX5_isSame 122 = .ok (.aload 7, 2) := by decide +kernel
theorem dX5_isSame_124 : decode cX5_isSame 124 = .ok (.iconst 5, 1) := by decide +kernel
theorem dX5_isSame_125 : decode cX5_isSame 125 = .ok (.iaload, 1) := by decide +kernel
theorem dX5_isSame_126 : decode cX5_isSame 126 = .ok (.iconst 1, 1) := by decide +kernel
theorem dX5_isSame_127 : decode cX5_isSame 127 = .ok (.if_icmp .ne 7, 3) := by decide +kernel
theorem dX5_isSame_130 : decode cX5_isSame 130 = .ok (.iconst 1, 1) := by decide +kernel
theorem dX5_isSame_131 : decode cX5_isSame 131 = .ok (.goto 4, 3) := by decide +kernel
theorem dX5_isSame_134 : decode cX5_isSame 134 = .ok (.iconst 0, 1) := by decide +kernel
theorem dX5_isSame_135 : decode cX5_isSame 135 = .ok (.if_icmp .ne 101, 3) := by decide +kernel
theorem dX5_isSame_138 : decode cX5_isSame 138 = .ok (.aload_n 1, 1) := by decide +kernel
theorem dX5_isSame_139 : decode cX5_isSame 139 = .ok (.iload 6, 2) := by decide +kernel
theorem dX5_isSame_141 : decode cX5_isSame 141 = .ok (.invokevirtual 98, 3) := by decide +kernel
theorem dX5_isSame_144 : decode cX5_isSame 144 = .ok (.aload 7, 2) := by decide +kernel
theorem dX5_isSame_146 : decode cX5_isSame 146 = .ok (.iconst 3, 1) := by decide +kernel
theorem dX5_isSame_147 : decode cX5_isSame 147 = .ok (.iaload, 1) := by decide +kernel
theorem dX5_isSame_148 : decode cX5_isSame 148 = .ok (.if_icmp .ne 88, 3) := by decide +kernel
theorem dX5_isSame_151 : decode cX5_isSame 151 = .ok (.aload_n 1, 1) := by decide +kernel
theorem dX5_isSame_152 : decode cX5_isSame 152 = .ok (.iload 6, 2) := by decide +kernel
theorem dX5_isSame_154 : decode cX5_isSame 154 = .ok (.invokevirtual 101, 3) := by decide +kernel
theorem dX5_isSame_157 : decode cX5_isSame 157 = .ok (.aload_n 0, 1) := by decide +kernel
theorem dX5_isSame_158 : decode cX5_isSame 158 = .ok (.iload 6, 2) := by decide +kernel
theorem dX5_isSame_160 : decode cX5_isSame 160 = .ok (.invokevirtual 45, 3) := by decide +kernel
theorem dX5_isSame_163 : decode cX5_isSame 163 = .ok (.if_icmp .ne 73, 3) := by decide +kernel
theorem dX5_isSame_166 : decode cX5_isSame 166 = .ok (.aload_n 1, 1) := by decide +kernel
theorem dX5_isSame_167 : decode cX5_isSame 167 = .ok (.iload 6, 2) := by decide +kernel
theorem dX5_isSame_169 : decode cX5_isSame 169 = .ok (.invokevirtual 104, 3) := by decide +kernel
theorem dX5_isSame_172 : decode cX5_isSame 172 = .ok (.aload_n 0, 1) := by decide +kernel
theorem dX5_isSame_173 : decode cX5_isSame 173 = .ok (.iload 6, 2) := by decide +kernel
theorem dX5_isSame_175 : decode cX5_isSame 175 = .ok (.invokevirtual 45, 3) := by decide +kernel
theorem dX5_isSame_178 : decode cX5_isSame 178 = .ok (.ifCond .lt 7, 3) := by decide +kernel
theorem dX5_isSame_181 : decode cX5_isSame 181 = .ok (.iconst 1, 1) := by decide +kernel
theorem dX5_isSame_182 : decode cX5_isSame 182 = .ok (.goto 4, 3) := by decide +kernel
theorem dX5_isSame_185 : decode cX5_isSame 185 = .ok (.iconst 0, 1) := by decide +kernel
theorem dX5_isSame_186 : decode cX5_isSame 186 = .ok (.if_icmp .ne 50, 3) := by decide +kernel
theorem dX5_isSame_189 : decode cX5_isSame 189 = .ok (.aload_n 1, 1) := by decide +kernel
theorem dX5_isSame_190 : decode cX5_isSame 190 = .ok (.iload 6, 2) := by decide +kernel
theorem dX5_isSame_192 : decode cX5_isSame 192 = .ok (.invokevirtual 107, 3) := by decide +kernel
theorem dX5_isSame_195 : decode cX5_isSame 195 = .ok (.aload 7, 2) := by decide +kernel
theorem dX5_isSame_197 : decode cX5_isSame 197 = .ok (.iconst 5, 1) := by decide +kernel
theorem dX5_isSame_198 : decode cX5_isSame 198 = .ok (.iaload, 1) := by decide +kernel
theorem dX5_isSame_199 : decode cX5_isSame 199 = .ok (.iconst 1, 1) := by decide +kernel
theorem dX5_isSame_200 : decode cX5_isSame 200 = .ok (.if_icmp .ne 7, 3) := by decide +kernel
theorem dX5_isSame_203 : decode cX5_isSame 203 = .ok (.iconst 0, 1) := by decide +kernel
theorem dX5_isSame_204 : decode cX5_isSame 204 = .ok (.goto 14, 3) := by decide +kernel
theorem dX5_isSame_207 : decode cX5_isSame 207 = .ok (.aload_n 0, 1) := by decide +kernel
theorem dX5_isSame_208 : decode cX5_isSame 208 = .ok (.getfield 21, 3) := by decide +kernel
theorem dX5_isSame_211 : decode cX5_isSame 211 = .ok (.aload 7, 2) := by decide +kernel
theorem dX5_isSame_213 : decode cX5_isSame 213 = .ok (.iconst 0, 1) := by decide +kernel
theorem dX5_isSame_214 : decode cX5_isSame 214 = .ok (.iaload, 1) := by decide +kernel
theorem dX5_isSame_215 : decode cX5_isSame 215 = .ok (.iconst 1, 1) := by decide +kernel
theorem dX5_isSame_216 : decode cX5_isSame 216 = .ok (.iadd, 1) := by decide +kernel
theorem dX5_isSame_217 : decode cX5_isSame 217 = .ok (.idiv, 1) := by decide +kernel
theorem dX5_isSame_218 : decode cX5_isSame 218 = .ok (.if_icmp .ne 18, 3) := by decide +kernel
theorem dX5_isSame_221 : decode cX5_isSame 221 = .ok (.aload_n 1, 1) := by decide +kernel
theorem dX5_isSame_222 : decode cX5_isSame 222 = .ok (.iload 6, 2) := by decide +kernel
theorem dX5_isSame_224 : decode cX5_isSame 224 = .ok (.invokevirtual 110, 3) := by decide +kernel
theorem dX5_isSame_227 : decode cX5_isSame 227 = .ok (.aload_n 0, 1) := by decide +kernel
theorem dX5_isSame_228 : decode cX5_isSame 228 = .ok (.iload 6, 2) := by decide +kernel
theorem dX5_isSame_230 : decode cX5_isSame 230 = .ok (.invokevirtual 68, 3) := by decide +kernel
theorem dX5_isSame_233 : decode cX5_isSame 233 = .ok (.if_icmp .eq 5, 3) := by decide +kernel
theorem dX5_isSame_236 : decode cX5_isSame 236 = .ok (.iconst 0, 1) := by decide +kernel
theorem dX5_isSame_237 : decode cX5_isSame 237 = .ok (.ireturn, 1) := by decide +kernel
theorem dX5_isSame_238 : decode cX5_isSame 238 = .ok (.iinc 6 1, 3) := by decide +kernel
theorem dX5_isSame_241 : decode cX5_isSame 241 = .ok (.goto (-228), 3) := by decide +kernel
theorem dX5_isSame_244 : decode cX5_isSame 244 = .ok (.iconst 0, 1) := by decide +kernel
theorem dX5_isSame_245 : decode cX5_isSame 245 = .ok (.istore 6, 2) := by decide +kernel
theorem dX5_isSame_247 : decode cX5_isSame 247 = .ok (.iload 6, 2) := by decide +kernel
theorem dX5_isSame_249 : decode cX5_isSame 249 = .ok (.aload_n 0, 1) := by decide +kernel
theorem dX5_isSame_250 : decode cX5_isSame 250 = .ok (.getfield 15, 3) := by decide +kernel
theorem dX5_isSame_253 : decode cX5_isSame 253 = .ok (.arraylength, 1) := by decide +kernel
theorem dX5_isSame_254 : decode cX5_isSame 254 = .ok (.if_icmp .ge 125, 3) := by decide +kernel
theorem dX5_isSame_257 : decode cX5_isSame 257 = .ok (.aload_n 0, 1) := by decide +kernel
theorem dX5_isSame_258 : decode cX5_isSame 258 = .ok (.getfield 15, 3) := by decide +kernel
theorem dX5_isSame_261 : decode cX5_isSame 261 = .ok (.iload 6, 2) := by decide +kernel
theorem dX5_isSame_263 : decode cX5_isSame 263 = .ok (.aaload, 1) := by decide +kernel
theorem dX5_isSame_264 : decode cX5_isSame 264 = .ok (.astore 7, 2) := by decide +kernel
theorem dX5_isSame_266 : decode cX5_isSame 266 = .ok (.aload_n 1, 1) := by decide +kernel
theorem dX5_isSame_267 : decode cX5_isSame 267 = .ok (.iload 6, 2) := by decide +kernel
theorem dX5_isSame_269 : decode cX5_isSame 269 = .ok (.invokevirtual 113, 3) := by decide +kernel
theorem dX5_isSame_272 : decode cX5_isSame 272 = .ok (.aload 7, 2) := by decide +kernel
theorem dX5_isSame_274 : decode cX5_isSame 274 = .ok (.iconst 1, 1) := by decide +kernel
theorem dX5_isSame_275 : decode cX5_isSame 275 = .ok (.iaload, 1) := by decide +kernel
theorem dX5_isSame_276 : decode cX5_isSame 276 = .ok (.if_icmp .ne 55, 3) := by decide +kernel
theorem dX5_isSame_279 : decode cX5_isSame 279 = .ok (.aload_n 1, 1) := by decide +kernel
theorem dX5_isSame_280 : decode cX5_isSame 280 = .ok (.iload 6, 2) := by decide +kernel
theorem dX5_isSame_282 : decode cX5_isSame 282 = .ok (.invokevirtual 116, 3) := by decide +kernel
theorem dX5_isSame_285 : decode cX5_isSame 285 = .ok (.aload 7, 2) := by decide +kernel
theorem dX5_isSame_287 : decode cX5_isSame 287 = .ok (.iconst 2, 1) := by decide +kernel
theorem dX5_isSame_288 : decode cX5_isSame 288 = .ok (.iaload, 1) := by decide +kernel
theorem dX5_isSame_289 : decode cX5_isSame 289 = .ok (.if_icmp .ne 42, 3) := by decide +kernel
theorem dX5_isSame_292 : decode cX5_isSame 292 = .ok (.aload_n 1, 1) := by decide +kernel
theorem dX5_isSame_293 : decode cX5_isSame 293 = .ok (.iload 6, 2) := by decide +kernel
theorem dX5_isSame_295 : decode cX5_isSame 295 = .ok (.invokevirtual 119, 3) := by decide +kernel
theorem dX5_isSame_298 : decode cX5_isSame 298 = .ok (.aload 7, 2) := by decide +kernel
theorem dX5_isSame_300 : decode cX5_isSame 300 = .ok (.iconst 3, 1) := by decide +kernel
theorem dX5_isSame_301 : decode cX5_isSame 301 = .ok (.iaload, 1) := by decide +kernel
theorem dX5_isSame_302 : decode cX5_isSame 302 = .ok (.if_icmp .ne 29, 3) := by decide +kernel
theorem dX5_isSame_305 : decode cX5_isSame 305 = .ok (.aload_n 1, 1) := by decide +kernel
theorem dX5_isSame_306 : decode cX5_isSame 306 = .ok (.iload 6, 2) := by decide +kernel
theorem dX5_isSame_308 : decode cX5_isSame 308 = .ok (.invokevirtual 122, 3) := by decide +kernel
theorem dX5_isSame_311 : decode cX5_isSame 311 = .ok (.aload_n 0, 1) := by decide +kernel
theorem dX5_isSame_312 : decode cX5_isSame 312 = .ok (.iload 6, 2) := by decide +kernel
theorem dX5_isSame_314 : decode cX5_isSame 314 = .ok (.invokevirtual 62, 3) := by decide +kernel
theorem dX5_isSame_317 : decode cX5_isSame 317 = .ok (.ifCond .eq 7, 3) := by decide +kernel
theorem dX5_isSame_320 : decode cX5_isSame 320 = .ok (.iconst 0, 1) := by decide +kernel
theorem dX5_isSame_321 : decode cX5_isSame 321 = .ok (.goto 7, 3) := by decide +kernel
theorem dX5_isSame_324 : decode cX5_isSame 324 = .ok (.aload 7, 2) := by decide +kernel
theorem dX5_isSame_326 : decode cX5_isSame 326 = .ok (.iconst 4, 1) := by decide +kernel
theorem dX5_isSame_327 : decode cX5_isSame 327 = .ok (.iaload, 1) := by decide +kernel
theorem dX5_isSame_328 : decode cX5_isSame 328 = .ok (.if_icmp .eq 5, 3) := by decide +kernel
theorem dX5_isSame_331 : decode cX5_isSame 331 = .ok (.iconst 0, 1) := by decide +kernel
theorem dX5_isSame_332 : decode cX5_isSame 332 = .ok (.ireturn, 1) := by decide +kernel
theorem dX5_isSame_333 : decode cX5_isSame 333 = .ok (.iconst 0, 1) := by decide +kernel
theorem dX5_isSame_334 : decode cX5_isSame 334 = .ok (.istore 8, 2) := by decide +kernel
theorem dX5_isSame_336 : decode cX5_isSame 336 = .ok (.iload 8, 2) := by decide +kernel
theorem dX5_isSame_338 : decode cX5_isSame 338 = .ok (.aload_n 0, 1) := by decide +kernel
theorem dX5_isSame_339 : decode cX5_isSame 339 = .ok (.getfield 9, 3) := by decide +kernel
theorem dX5_isSame_342 : decode cX5_isSame 342 = .ok (.arraylength, 1) := by decide +kernel
theorem dX5_isSame_343 : decode cX5_isSame 343 = .ok (.if_icmp .ge 30, 3) := by decide +kernel
theorem dX5_isSame_346 : decode cX5_isSame 346 = .ok (.aload_n 1, 1) := by decide +kernel
theorem dX5_isSame_347 : decode cX5_isSame 347 = .ok (.iload 6, 2) := by decide +kernel
theorem dX5_isSame_349 : decode cX5_isSame 349 = .ok (.iload 8, 2) := by decide +kernel
theorem dX5_isSame_351 : decode cX5_isSame 351 = .ok (.invokevirtual 125, 3) := by decide +kernel
theorem dX5_isSame_354 : decode cX5_isSame 354 = .ok (.aload_n 0, 1) := by decide +kernel
theorem dX5_isSame_355 : decode cX5_isSame 355 = .ok (.iload 6, 2) := by decide +kernel
theorem dX5_isSame_357 : decode cX5_isSame 357 = .ok (.iload 8, 2) := by decide +kernel
theorem dX5_isSame_359 : decode cX5_isSame 359 = .ok (.invokevirtual 65, 3) := by decide +kernel
theorem dX5_isSame_362 : decode cX5_isSame 362 = .ok (.if_icmp .eq 5, 3) := by decide +kernel
theorem dX5_isSame_365 : decode cX5_isSame 365 = .ok (.iconst 0, 1) := by decide +kernel
theorem dX5_isSame_366 : decode cX5_isSame 366 = .ok (.ireturn, 1) := by decide +kernel
theorem dX5_isSame_367 : decode cX5_isSame 367 = .ok (.iinc 8 1, 3) := by decide +kernel
theorem dX5_isSame_370 : decode cX5_isSame 370 = .ok (.goto (-34), 3) := by decide +kernel
theorem dX5_isSame_373 : decode cX5_isSame 373 = .ok (.iinc 6 1, 3) := by decide +kernel
theorem dX5_isSame_376 : decode cX5_isSame 376 = .ok (.goto (-129), 3) := by decide +kernel
theorem dX5_isSame_379 : decode cX5_isSame 379 = .ok (.aload_n 1, 1) := by decide +kernel
theorem dX5_isSame_380 : decode cX5_isSame 380 = .ok (.invokevirtual 128, 3) := by decide +kernel
theorem dX5_isSame_383 : decode cX5_isSame 383 = .ok (.aload_n 0, 1) := by decide +kernel
theorem dX5_isSame_384 : decode cX5_isSame 384 = .ok (.getfield 30, 3) := by decide +kernel
theorem dX5_isSame_387 : decode cX5_isSame 387 = .ok (.if_icmp .ne 174, 3) := by decide +kernel
theorem dX5_isSame_390 : decode cX5_isSame 390 = .ok (.aload_n 1, 1) := by decide +kernel
theorem dX5_isSame_391 : decode cX5_isSame 391 = .ok (.invokevirtual 130, 3) := by decide +kernel
theorem dX5_isSame_394 : decode cX5_isSame 394 = .ok (.aload_n 0, 1) := by decide +kernel
theorem dX5_isSame_395 : decode cX5_isSame 395 = .ok (.getfield 9, 3) := by decide +kernel
theorem dX5_isSame_398 : decode cX5_isSame 398 = .ok (.arraylength, 1) := by decide +kernel
theorem dX5_isSame_399 : decode cX5_isSame 399 = .ok (.if_icmp .ne 162, 3) := by decide +kernel
theorem dX5_isSame_402 : decode cX5_isSame 402 = .ok (.aload_n 1, 1) := by decide +kernel
theorem dX5_isSame_403 : decode cX5_isSame 403 = .ok (.invokevirtual 132, 3) := by decide +kernel
theorem dX5_isSame_406 : decode cX5_isSame 406 = .ok (.aload_n 0, 1) := by decide +kernel
theorem dX5_isSame_407 : decode cX5_isSame 407 = .ok (.getfield 15, 3) := by decide +kernel
theorem dX5_isSame_410 : decode cX5_isSame 410 = .ok (.arraylength, 1) := by decide +kernel
theorem dX5_isSame_411 : decode cX5_isSame 411 = .ok (.if_icmp .ne 150, 3) := by decide +kernel
theorem dX5_isSame_414 : decode cX5_isSame 414 = .ok (.aload_n 1, 1) := by decide +kernel
theorem dX5_isSame_415 : decode cX5_isSame 415 = .ok (.invokevirtual 134, 3) := by decide +kernel
theorem dX5_isSame_418 : decode cX5_isSame 418 = .ok (.aload_n 0, 1) := by decide +kernel
theorem dX5_isSame_419 : decode cX5_isSame 419 = .ok (.getfield 21, 3) := by decide +kernel
theorem dX5_isSame_422 : decode cX5_isSame 422 = .ok (.if_icmp .ne 139, 3) := by decide +kernel
theorem dX5_isSame_425 : decode cX5_isSame 425 = .ok (.aload_n 1, 1) := by decide +kernel
theorem dX5_isSame_426 : decode cX5_isSame 426 = .ok (.invokevirtual 136, 3) := by decide +kernel
theorem dX5_isSame_429 : decode cX5_isSame 429 = .ok (.aload_n 0, 1) := by decide +kernel
theorem dX5_isSame_430 : decode cX5_isSame 430 = .ok (.getfield 33, 3) := by decide +kernel
theorem dX5_isSame_433 : decode cX5_isSame 433 = .ok (.if_icmp .ne 128, 3) := by decide +kernel
theorem dX5_isSame_436 : decode cX5_isSame 436 = .ok (.aload_n 1, 1) := by decide +kernel
theorem dX5_isSame_437 : decode cX5_isSame 437 = .ok (.invokevirtual 138, 3) := by decide +kernel
theorem dX5_isSame_440 : decode cX5_isSame 440 = .ok (.aload_n 0, 1) := by decide +kernel
theorem dX5_isSame_441 : decode cX5_isSame 441 = .ok (.getfield 36, 3) := by decide +kernel
theorem dX5_isSame_444 : decode cX5_isSame 444 = .ok (.if_icmp .ne 117, 3) := by decide +kernel
theorem dX5_isSame_447 : decode cX5_isSame 447 = .ok (.aload_n 1, 1) := by decide +kernel
theorem dX5_isSame_448 : decode cX5_isSame 448 = .ok (.invokevirtual 140, 3) := by decide +kernel
theorem dX5_isSame_451 : decode cX5_isSame 451 = .ok (.aload_n 0, 1) := by decide +kernel
theorem dX5_isSame_452 : decode cX5_isSame 452 = .ok (.getfield 39, 3) := by decide +kernel
theorem dX5_isSame_455 : decode cX5_isSame 455 = .ok (.if_icmp .ne 106, 3) := by decide +kernel
theorem dX5_isSame_458 : decode cX5_isSame 458 = .ok (.aload_n 1, 1) := by decide +kernel
theorem dX5_isSame_459 : decode cX5_isSame 459 = .ok (.invokevirtual 142, 3) := by decide +kernel
theorem dX5_isSame_462 : decode cX5_isSame 462 = .ok (.aload_n 0, 1) := by decide +kernel
theorem dX5_isSame_463 : decode cX5_isSame 463 = .ok (.getfield 42, 3) := by decide +kernel
theorem dX5_isSame_466 : decode cX5_isSame 466 = .ok (.if_icmp .ne 95, 3) := by decide +kernel
theorem dX5_isSame_469 : decode cX5_isSame 469 = .ok (.aload_n 1, 1) := by decide +kernel
theorem dX5_isSame_470 : decode cX5_isSame 470 = .ok (.invokevirtual 144, 3) := by decide +kernel
theorem dX5_isSame_473 : decode cX5_isSame 473 = .ok (.iload_n 3, 1) := by decide +kernel
theorem dX5_isSame_474 : decode cX5_isSame 474 = .ok (.if_icmp .ne 87, 3) := by decide +kernel
theorem dX5_isSame_477 : decode cX5_isSame 477 = .ok (.aload_n 1, 1) := by decide +kernel
theorem dX5_isSame_478 : decode cX5_isSame 478 = .ok (.invokevirtual 147, 3) := by decide +kernel
theorem dX5_isSame_481 : decode cX5_isSame 481 = .ok (.iload_n 2, 1) := by decide +kernel
theorem dX5_isSame_482 : decode cX5_isSame 482 = .ok (.if_icmp .ne 79, 3) := by decide +kernel
theorem dX5_isSame_485 : decode cX5_isSame 485 = .ok (.aload_n 1, 1) := by decide +kernel
theorem dX5_isSame_486 : decode cX5_isSame 486 = .ok (.invokevirtual 150, 3) := by decide +kernel
theorem dX5_isSame_489 : decode cX5_isSame 489 = .ok (.aload_n 0, 1) := by decide +kernel
theorem dX5_isSame_490 : decode cX5_isSame 490 = .ok (.invokevirtual 153, 3) := by decide +kernel
theorem dX5_isSame_493 : decode cX5_isSame 493 = .ok (.if_icmp .ne 68, 3) := by decide +kernel
theorem dX5_isSame_496 : decode cX5_isSame 496 = .ok (.aload_n 1, 1) := by decide +kernel
theorem dX5_isSame_497 : decode cX5_isSame 497 = .ok (.invokevirtual 156, 3) := by decide +kernel
theorem dX5_isSame_500 : decode cX5_isSame 500 = .ok (.aload_n 0, 1) := by decide +kernel
theorem dX5_isSame_501 : decode cX5_isSame 501 = .ok (.getfield 18, 3) := by decide +kernel
theorem dX5_isSame_504 : decode cX5_isSame 504 = .ok (.arraylength, 1) := by decide +kernel
theorem dX5_isSame_505 : decode cX5_isSame 505 = .ok (.if_icmp .ne 56, 3) := by decide +kernel
theorem dX5_isSame_508 : decode cX5_isSame 508 = .ok (.aload_n 1, 1) := by decide +kernel
theorem dX5_isSame_509 : decode cX5_isSame 509 = .ok (.invokevirtual 159, 3) := by decide +kernel
theorem dX5_isSame_512 : decode cX5_isSame 512 = .ok (.aload_n 0, 1) := by decide +kernel
theorem dX5_isSame_513 : decode cX5_isSame 513 = .ok (.getfield 18, 3) := by decide +kernel
theorem dX5_isSame_516 : decode cX5_isSame 516 = .ok (.arraylength, 1) := by decide +kernel
theorem dX5_isSame_517 : decode cX5_isSame 517 = .ok (.ifCond .ne 7, 3) := by decide +kernel
theorem dX5_isSame_520 : decode cX5_isSame 520 = .ok (.iconst (-1), 1) := by decide +kernel
theorem dX5_isSame_521 : decode cX5_isSame 521 = .ok (.goto 9, 3) := by decide +kernel
theorem dX5_isSame_524 : decode cX5_isSame 524 = .ok (.aload_n 0, 1) := by decide +kernel
theorem dX5_isSame_525 : decode cX5_isSame 525 = .ok (.getfield 18, 3) := by decide +kernel
theorem dX5_isSame_528 : decode cX5_isSame 528 = .ok (.iconst 0, 1) := by decide +kernel
theorem dX5_isSame_529 : decode cX5_isSame 529 = .ok (.iaload, 1) := by decide +kernel
theorem dX5_isSame_530 : decode cX5_isSame 530 = .ok (.if_icmp .ne 31, 3) := by decide +kernel
theorem dX5_isSame_533 : decode cX5_isSame 533 = .ok (.aload_n 1, 1) := by decide +kernel
theorem dX5_isSame_534 : decode cX5_isSame 534 = .ok (.invokevirtual 162, 3) := by decide +kernel
theorem dX5_isSame_537 : decode cX5_isSame 537 = .ok (.iload 5, 2) := by decide +kernel
theorem dX5_isSame_539 : decode cX5_isSame 539 = .ok (.ifCond .ne 7, 3) := by decide +kernel
theorem dX5_isSame_542 : decode cX5_isSame 542 = .ok (.dconst 0, 1) := by decide +kernel
theorem dX5_isSame_543 : decode cX5_isSame 543 = .ok (.goto 10, 3) := by decide +kernel
theorem dX5_isSame_546 : decode cX5_isSame 546 = .ok (.iload 4, 2) := by decide +kernel
theorem dX5_isSame_548 : decode cX5_isSame 548 = .ok (.i2d, 1) := by decide +kernel
theorem dX5_isSame_549 : decode cX5_isSame 549 = .ok (.iload 5, 2) := by decide +kernel
theorem dX5_isSame_551 : decode cX5_isSame 551 = .ok (.i2d, 1) := by decide +kernel
theorem dX5_isSame_552 : decode cX5_isSame 552 = .ok (.ddiv, 1) := by decide +kernel
theorem dX5_isSame_553 : decode cX5_isSame 553 = .ok (.dcmp .l, 1) := by decide +kernel
theorem dX5_isSame_554 : decode cX5_isSame 554 = .ok (.ifCond .ne 7, 3) := by decide +kernel
theorem dX5_isSame_557 : decode cX5_isSame 557 = .ok (.iconst 1, 1) := by decide +kernel
theorem dX5_isSame_558 : decode cX5_isSame 558 = .ok (.goto 4, 3) := by decide +kernel
theorem dX5_isSame_561 : decode cX5_isSame 561 = .ok (.iconst 0, 1) := by decide +kernel
theorem dX5_isSame_562 : decode cX5_isSame 562 = .ok (.ireturn, 1) := by decide +kernel
