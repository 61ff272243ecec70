theorem dX5_init_0 : decode cX5_init 0 = .ok (.aload_n 0, 1) := by decide +kernel
theorem dX5_init_1 : decode cX5_init 1 = .ok (.invokespecial 3, 3) := by decide +kernel
theorem dX5_init_4 : decode cX5_init 4 = .ok (.aload_n 0, 1) := by decide +kernel
theorem dX5_init_5 : decode cX5_init 5 = .ok (.bipush 12, 2) := by decide +kernel
theorem dX5_init_7 : decode cX5_init 7 = .ok (.newarray .int, 2) := by decide +kernel
theorem dX5_init_9 : decode cX5_init 9 = .ok (.putfield 9, 3) := by decide +kernel
theorem dX5_init_12 : decode cX5_init 12 = .ok (.aload_n 0, 1) := by decide +kernel
theorem dX5_init_13 : decode cX5_init 13 = .ok (.bipush 12, 2) := by decide +kernel
theorem dX5_init_15 : decode cX5_init 15 = .ok (.newarray .int, 2) := by decide +kernel
theorem dX5_init_17 : decode cX5_init 17 = .ok (.putfield 13, 3) := by decide +kernel
theorem dX5_init_20 : decode cX5_init 20 = .ok (.aload_n 0, 1) := by decide +kernel
theorem dX5_init_21 : decode cX5_init 21 = .ok (.bipush 12, 2) := by decide +kernel
theorem dX5_init_23 : decode cX5_init 23 = .ok (.newarray .int, 2) := by decide +kernel
theorem dX5_init_25 : decode cX5_init 25 = .ok (.putfield 16, 3) := by decide +kernel
theorem dX5_init_28 : decode cX5_init 28 = .ok (.aload_n 0, 1) := by decide +kernel
theorem dX5_init_29 : decode cX5_init 29 = .ok (.bipush 12, 2) := by decide +kernel
theorem dX5_init_31 : decode cX5_init 31 = .ok (.newarray .int, 2) := by decide +kernel
theorem dX5_init_33 : decode cX5_init 33 = .ok (.putfield 19, 3) := by decide +kernel
theorem dX5_init_36 : decode cX5_init 36 = .ok (.aload_n 0, 1) := by decide +kernel
theorem dX5_init_37 : decode cX5_init 37 = .ok (.bipush 12, 2) := by decide +kernel
theorem dX5_init_39 : decode cX5_init 39 = .ok (.newarray .boolean, 2) := by decide +kernel
theorem dX5_init_41 : decode cX5_init 41 = .ok (.putfield 22, 3) := by decide +kernel
theorem dX5_init_44 : decode cX5_init 44 = .ok (.aload_n 0, 1) := by decide +kernel
theorem dX5_init_45 : decode cX5_init 45 = .ok (.bipush 6, 2) := by decide +kernel
theorem dX5_init_47 : decode cX5_init 47 = .ok (.newarray .int, 2) := by decide +kernel
theorem dX5_init_49 : decode cX5_init 49 = .ok (.putfield 26, 3) := by decide +kernel
theorem dX5_init_52 : decode cX5_init 52 = .ok (.aload_n 0, 1) := by decide +kernel
theorem dX5_init_53 : decode cX5_init 53 = .ok (.bipush 55, 2) := by decide +kernel
theorem dX5_init_55 : decode cX5_init 55 = .ok (.newarray .int, 2) := by decide +kernel
theorem dX5_init_57 : decode cX5_init 57 = .ok (.putfield 29, 3) := by decide +kernel
theorem dX5_init_60 : decode cX5_init 60 = .ok (.aload_n 0, 1) := by decide +kernel
theorem dX5_init_61 : decode cX5_init 61 = .ok (.bipush 55, 2) := by decide +kernel
theorem dX5_init_63 : decode cX5_init 63 = .ok (.newarray .int, 2) := by decide +kernel
theorem dX5_init_65 : decode cX5_init 65 = .ok (.putfield 32, 3) := by decide +kernel
theorem dX5_init_68 : decode cX5_init 68 = .ok (.aload_n 0, 1) := by decide +kernel
theorem dX5_init_69 : decode cX5_init 69 = .ok (.getfield 29, 3) := by decide +kernel
theorem dX5_init_72 : decode cX5_init 72 = .ok (.iconst 1, 1) := by decide +kernel
theorem dX5_init_73 : decode cX5_init 73 = .ok (.sipush 200, 3) := by decide +kernel
theorem dX5_init_76 : decode cX5_init 76 = .ok (.iastore, 1) := by decide +kernel
theorem dX5_init_77 : decode cX5_init 77 = .ok (.return_, 1) := by decide +kernel
theorem dX5_thrown_0 : decode cX5_thrown 0 = .ok (.aload_n 0, 1) := by decide +kernel
theorem dX5_thrown_1 : decode cX5_thrown 1 = .ok (.getfield 35, 3) := by decide +kernel
theorem dX5_thrown_4 : decode cX5_thrown 4 = .ok (.ireturn, 1) := by decide +kernel
theorem dX5_no_0 : decode cX5_no 0 = .ok (.aload_n 0, 1) := by decide +kernel
theorem dX5_no_1 : decode cX5_no 1 = .ok (.iload_n 1, 1) := by decide +kernel
theorem dX5_no_2 : decode cX5_no 2 = .ok (.putfield 35, 3) := by decide +kernel
theorem dX5_no_5 : decode cX5_no 5 = .ok (.iconst 0, 1) := by decide +kernel
theorem dX5_no_6 : decode cX5_no 6 = .ok (.ireturn, 1) := by decide +kernel
theorem dX5_ok_0 : decode cX5_ok 0 = .ok (.aload_n 0, 1) := by decide +kernel
theorem dX5_ok_1 : decode cX5_ok 1 = .ok (.iconst 0, 1) := by decide +kernel
theorem dX5_ok_2 : decode cX5_ok 2 = .ok (.putfield 35, 3) := by decide +kernel
theorem dX5_ok_5 : decode cX5_ok 5 = .ok (.iload_n 1, 1) := by decide +kernel
theorem dX5_ok_6 : decode cX5_ok 6 = .ok (.ireturn, 1) := by decide +kernel
theorem dX5_isIn_0 : decode cX5_isIn 0 = .ok (.iload_n 0, 1) := by decide +kernel
theorem dX5_isIn_1 : decode cX5_isIn 1 = .ok (.iload_n 1, 1) := by decide +kernel
theorem dX5_isIn_2 : decode cX5_isIn 2 = .ok (.if_icmp .lt 12, 3) := by decide +kernel
theorem dX5_isIn_5 : decode cX5_isIn 5 = .ok (.iload_n 0, 1) := by decide +kernel
theorem dX5_isIn_6 : decode cX5_isIn 6 = .ok (.iload_n 2, 1) := by decide +kernel
theorem dX5_isIn_7 : decode cX5_isIn 7 = .ok (.if_icmp .gt 7, 3) := by decide +kernel
theorem dX5_isIn_10 : decode cX5_isIn 10 = .ok (.iconst 1, 1) := by decide +kernel
theorem dX5_isIn_11 : decode cX5_isIn 11 = .ok (.goto 4, 3) := by decide +kernel
theorem dX5_isIn_14 : decode cX5_isIn 14 = .ok (.iconst 0, 1) := by decide +kernel
theorem dX5_isIn_15 : decode cX5_isIn 15 = .ok (.ireturn, 1) := by decide +kernel
set_option maxRecDepth 20000 in
theorem ggX5_isRoom_X5_isIn : GoodIn wsX5_isRoom wsX5_isIn := goodIn_r _ [5] (by decide +kernel) (by decide +kernel)
set_option maxRecDepth 20000 in
theorem gX5_isRoom_X5_isIn : GoodIn wsX5_isRoom (va_wsS RX5 42 yX5_isIn wsX5_isIn) := goodIn_app (goodIn_of _ (by decide +kernel)) ggX5_isRoom_X5_isIn
theorem dX5_isRoom_0 : decode cX5_isRoom 0 = .ok (.iload_n 1, 1) := by decide +kernel
theorem dX5_isRoom_1 : decode cX5_isRoom 1 = .ok (.iconst 0, 1) := by decide +kernel
theorem dX5_isRoom_2 : decode cX5_isRoom 2 = .ok (.aload_n 0, 1) := by decide +kernel
theorem dX5_isRoom_3 : decode cX5_isRoom 3 = .ok (.getfield 39, 3) := by decide +kernel
theorem dX5_isRoom_6 : decode cX5_isRoom 6 = .ok (.iconst 1, 1) := by decide +kernel
theorem dX5_isRoom_7 : decode cX5_isRoom 7 = .ok (.isub, 1) := by decide +kernel
theorem dX5_isRoom_8 : decode cX5_isRoom 8 = .ok (.invokestatic 42, 3) := by decide +kernel
theorem dX5_isRoom_11 : decode cX5_isRoom 11 = .ok (.ireturn, 1) := by decide +kernel
set_option maxRecDepth 20000 in
theorem ggX5_isServant_X5_isIn : GoodIn wsX5_isServant wsX5_isIn := goodIn_r _ [5] (by decide +kernel) (by decide +kernel)
set_option maxRecDepth 20000 in
theorem gX5_isServant_X5_isIn : GoodIn wsX5_isServant (va_wsS RX5 42 yX5_isIn wsX5_isIn) := goodIn_app (goodIn_of _ (by decide +kernel)) ggX5_isServant_X5_isIn
theorem dX5_isServant_0 : decode cX5_isServant 0 = .ok (.iload_n 1, 1) := by decide +kernel
theorem dX5_isServant_1 : decode cX5_isServant 1 = .ok (.iconst 0, 1) := by decide +kernel
theorem dX5_isServant_2 : decode cX5_isServant 2 = .ok (.aload_n 0, 1) := by decide +kernel
theorem dX5_isServant_3 : decode cX5_isServant 3 = .ok (.getfield 46, 3) := by decide +kernel
theorem dX5_isServant_6 : decode cX5_isServant 6 = .ok (.iconst 1, 1) := by decide +kernel
theorem dX5_isServant_7 : decode cX5_isServant 7 = .ok (.isub, 1) := by decide +kernel
theorem dX5_isServant_8 : decode cX5_isServant 8 = .ok (.invokestatic 42, 3) := by decide +kernel
theorem dX5_isServant_11 : decode cX5_isServant 11 = .ok (.ireturn, 1) := by decide +kernel
theorem dX5_isKnown_0 : decode cX5_isKnown 0 = .ok (.aload_n 0, 1) := by decide +kernel
theorem dX5_isKnown_1 : decode cX5_isKnown 1 = .ok (.iload_n 1, 1) := by decide +kernel
theorem dX5_isKnown_2 : decode cX5_isKnown 2 = .ok (.ifCond .eq 7, 3) := by decide +kernel
theorem dX5_isKnown_5 : decode cX5_isKnown 5 = .ok (.iconst 0, 1) := by decide +kernel
theorem dX5_isKnown_6 : decode cX5_isKnown 6 = .ok (.goto 4, 3) := by decide +kernel
theorem dX5_isKnown_9 : decode cX5_isKnown 9 = .ok (.iconst 1, 1) := by decide +kernel
theorem dX5_isKnown_10 : decode cX5_isKnown 10 = .ok (.putfield 35, 3) := by decide +kernel
theorem dX5_isKnown_13 : decode cX5_isKnown 13 = .ok (.iload_n 1, 1) := by decide +kernel
theorem dX5_isKnown_14 : decode cX5_isKnown 14 = .ok (.ireturn, 1) := by decide +kernel
theorem dX5_keep_0 : decode cX5_keep 0 = .ok (.aload_n 0, 1) := by decide +kernel
theorem dX5_keep_1 : decode cX5_keep 1 = .ok (.getfield 29, 3) := by decide +kernel
theorem dX5_keep_4 : decode cX5_keep 4 = .ok (.iconst 0, 1) := by decide +kernel
theorem dX5_keep_5 : decode cX5_keep 5 = .ok (.aload_n 0, 1) := by decide +kernel
theorem dX5_keep_6 : decode cX5_keep 6 = .ok (.getfield 32, 3) := by decide +kernel
theorem dX5_keep_9 : decode cX5_keep 9 = .ok (.iconst 0, 1) := by decide +kernel
theorem dX5_keep_10 : decode cX5_keep 10 = .ok (.bipush 55, 2) := by decide +kernel
theorem dX5_keep_12 : decode cX5_keep 12 = .ok (.invokestatic 49, 3) := by decide +kernel
theorem dX5_keep_15 : decode cX5_keep 15 = .ok (.return_, 1) := by decide +kernel
theorem dX5_bringBack_0 : decode cX5_bringBack 0 = .ok (.aload_n 0, 1) := by decide +kernel
theorem dX5_bringBack_1 : decode cX5_bringBack 1 = .ok (.getfield 32, 3) := by decide +kernel
theorem dX5_bringBack_4 : decode cX5_bringBack 4 = .ok (.iconst 0, 1) := by decide +kernel
theorem dX5_bringBack_5 : decode cX5_bringBack 5 = .ok (.aload_n 0, 1) := by decide +kernel
theorem dX5_bringBack_6 : decode cX5_bringBack 6 = .ok (.getfield 29, 3) := by decide +kernel
theorem dX5_bringBack_9 : decode cX5_bringBack 9 = .ok (.iconst 0, 1) := by decide +kernel
theorem dX5_bringBack_10 : decode cX5_bringBack 10 = .ok (.bipush 55, 2) := by decide +kernel
theorem dX5_bringBack_12 : decode cX5_bringBack 12 = .ok (.invokestatic 49, 3) := by decide +kernel
theorem dX5_bringBack_15 : decode cX5_bringBack 15 = .ok (.return_, 1) := by decide +kernel
theorem dX5_inLine_0 : decode cX5_inLine 0 = .ok (.iconst 0, 1) := by decide +kernel
theorem dX5_inLine_1 : decode cX5_inLine 1 = .ok (.istore_n 2, 1) := by decide +kernel
theorem dX5_inLine_2 : decode cX5_inLine 2 = .ok (.iload_n 2, 1) := by decide +kernel
theorem dX5_inLine_3 : decode cX5_inLine 3 = .ok (.aload_n 0, 1) := by decide +kernel
theorem dX5_inLine_4 : decode cX5_inLine 4 = .ok (.getfield 29, 3) := by decide +kernel
theorem dX5_inLine_7 : decode cX5_inLine 7 = .ok (.bipush 6, 2) := by decide +kernel
theorem dX5_inLine_9 : decode cX5_inLine 9 = .ok (.iaload, 1) := by decide +kernel
theorem dX5_inLine_10 : decode cX5_inLine 10 = .ok (.if_icmp .ge 24, 3) := by decide +kernel
theorem dX5_inLine_13 : decode cX5_inLine 13 = .ok (.aload_n 0, 1) := by decide +kernel
theorem dX5_inLine_14 : decode cX5_inLine 14 = .ok (.getfield 29, 3) := by decide +kernel
theorem dX5_inLine_17 : decode cX5_inLine 17 = .ok (.bipush 19, 2) := by decide +kernel
theorem dX5_inLine_19 : decode cX5_inLine 19 = .ok (.iload_n 2, 1) := by decide +kernel
theorem dX5_inLine_20 : decode cX5_inLine 20 = .ok (.iadd, 1) := by decide +kernel
theorem dX5_inLine_21 : decode cX5_inLine 21 = .ok (.iaload, 1) := by decide +kernel
theorem dX5_inLine_22 : decode cX5_inLine 22 = .ok (.iload_n 1, 1) := by decide +kernel
theorem dX5_inLine_23 : decode cX5_inLine 23 = .ok (.if_icmp .ne 5, 3) := by decide +kernel
theorem dX5_inLine_26 : decode cX5_inLine 26 = .ok (.iload_n 2, 1) := by decide +kernel
theorem dX5_inLine_27 : decode cX5_inLine 27 = .ok (.ireturn, 1) := by decide +kernel
theorem dX5_inLine_28 : decode cX5_inLine 28 = .ok (.iinc 2 1, 3) := by decide +kernel
theorem dX5_inLine_31 : decode cX5_inLine 31 = .ok (.goto (-29), 3) := by decide +kernel
theorem dX5_inLine_34 : decode cX5_inLine 34 = .ok (.iconst (-1), 1) := by decide +kernel
theorem dX5_inLine_35 : decode cX5_inLine 35 = .ok (.ireturn, 1) := by decide +kernel
theorem dX5_takeOut_0 : decode cX5_takeOut 0 = .ok (.aload_n 0, 1) := by decide +kernel
theorem dX5_takeOut_1 : decode cX5_takeOut 1 = .ok (.getfield 29, 3) := by decide +kernel
theorem dX5_takeOut_4 : decode cX5_takeOut 4 = .ok (.bipush 6, 2) := by decide +kernel
theorem dX5_takeOut_6 : decode cX5_takeOut 6 = .ok (.dup2, 1) := by decide +kernel
theorem dX5_takeOut_7 : decode cX5_takeOut 7 = .ok (.iaload, 1) := by decide +kernel
theorem dX5_takeOut_8 : decode cX5_takeOut 8 = .ok (.iconst 1, 1) := by decide +kernel
theorem dX5_takeOut_9 : decode cX5_takeOut 9 = .ok (.isub, 1) := by decide +kernel
theorem dX5_takeOut_10 : decode cX5_takeOut 10 = .ok (.iastore, 1) := by decide +kernel
theorem dX5_takeOut_11 : decode cX5_takeOut 11 = .ok (.iload_n 1, 1) := by decide +kernel
theorem dX5_takeOut_12 : decode cX5_takeOut 12 = .ok (.istore_n 2, 1) := by decide +kernel
theorem dX5_takeOut_13 : decode cX5_takeOut 13 = .ok (.iload_n 2, 1) := by decide +kernel
theorem dX5_takeOut_14 : decode cX5_takeOut 14 = .ok (.aload_n 0, 1) := by decide +kernel
theorem dX5_takeOut_15 : decode cX5_takeOut 15 = .ok (.getfield 29, 3) := by decide +kernel
theorem dX5_takeOut_18 : decode cX5_takeOut 18 = .ok (.bipush 6, 2) := by decide +kernel
theorem dX5_takeOut_20 : decode cX5_takeOut 20 = .ok (.iaload, 1) := by decide +kernel
theorem dX5_takeOut_21 : decode cX5_takeOut 21 = .ok (.if_icmp .ge 29, 3) := by decide +kernel
theorem dX5_takeOut_24 : decode cX5_takeOut 24 = .ok (.aload_n 0, 1) := by decide +kernel
theorem dX5_takeOut_25 : decode cX5_takeOut 25 = .ok (.getfield 29, 3) := by decide +kernel
theorem dX5_takeOut_28 : decode cX5_takeOut 28 = .ok (.bipush 19, 2) := by decide +kernel
theorem dX5_takeOut_30 : decode cX5_takeOut 30 = .ok (.iload_n 2, 1) := by decide +kernel
theorem dX5_takeOut_31 : decode cX5_takeOut 31 = .ok (.iadd, 1) := by decide +kernel
theorem dX5_takeOut_32 : decode cX5_takeOut 32 = .ok (.aload_n 0, 1) := by decide +kernel
theorem dX5_takeOut_33 : decode cX5_takeOut 33 = .ok (.getfield 29, 3) := by decide +kernel
theorem dX5_takeOut_36 : decode cX5_takeOut 36 = .ok (.bipush 19, 2) := by decide +kernel
theorem dX5_takeOut_38 : decode cX5_takeOut 38 = .ok (.iload_n 2, 1) := by decide +kernel
theorem dX5_takeOut_39 : decode cX5_takeOut 39 = .ok (.iadd, 1) := by decide +kernel
theorem dX5_takeOut_40 : decode cX5_takeOut 40 = .ok (.iconst 1, 1) := by decide +kernel
theorem dX5_takeOut_41 : decode cX5_takeOut 41 = .ok (.iadd, 1) := by decide +kernel
theorem dX5_takeOut_42 : decode cX5_takeOut 42 = .ok (.iaload, 1) := by decide +kernel
theorem dX5_takeOut_43 : decode cX5_takeOut 43 = .ok (.iastore, 1) := by decide +kernel
theorem dX5_takeOut_44 : decode cX5_takeOut 44 = .ok (.iinc 2 1, 3) := by decide +kernel
theorem dX5_takeOut_47 : decode cX5_takeOut 47 = .ok (.goto (-34), 3) := by decide +kernel
theorem dX5_takeOut_50 : decode cX5_takeOut 50 = .ok (.return_, 1) := by decide +kernel
set_option maxRecDepth 20000 in
theorem ggX5_rings_X5_inLine : GoodIn wsX5_rings wsX5_inLine := goodIn_r _ [9, 2, 10, 11, 12, 13, 14, 15, 16, 17, 18, 19, 20] (by decide +kernel) (by decide +kernel)
set_option maxRecDepth 20000 in
theorem gX5_rings_X5_inLine : GoodIn wsX5_rings (wsV RX5 55 RX5 yX5_inLine wsX5_inLine) := goodIn_app (goodIn_of _ (by decide +kernel)) ggX5_rings_X5_inLine
theorem dX5_rings_0 : decode cX5_rings 0 = .ok (.aload_n 0, 1) := by decide +kernel
theorem dX5_rings_1 : decode cX5_rings 1 = .ok (.getfield 22, 3) := by decide +kernel
theorem dX5_rings_4 : decode cX5_rings 4 = .ok (.iload_n 1, 1) := by decide +kernel
theorem dX5_rings_5 : decode cX5_rings 5 = .ok (.baload, 1) := by decide +kernel
theorem dX5_rings_6 : decode cX5_rings 6 = .ok (.ifCond .ne 22, 3) := by decide +kernel
theorem dX5_rings_9 : decode cX5_rings 9 = .ok (.aload_n 0, 1) := by decide +kernel
theorem dX5_rings_10 : decode cX5_rings 10 = .ok (.getfield 29, 3) := by decide +kernel
theorem dX5_rings_13 : decode cX5_rings 13 = .ok (.iconst 1, 1) := by decide +kernel
theorem dX5_rings_14 : decode cX5_rings 14 = .ok (.iaload, 1) := by decide +kernel
theorem dX5_rings_15 : decode cX5_rings 15 = .ok (.aload_n 0, 1) := by decide +kernel
theorem dX5_rings_16 : decode cX5_rings 16 = .ok (.getfield 9, 3) := by decide +kernel
theorem dX5_rings_19 : decode cX5_rings 19 = .ok (.iload_n 1, 1) := by decide +kernel
theorem dX5_rings_20 : decode cX5_rings 20 = .ok (.iaload, 1) := by decide +kernel
theorem dX5_rings_21 : decode cX5_rings 21 = .ok (.if_icmp .le 7, 3) := by decide +kernel
theorem dX5_rings_24 : decode cX5_rings 24 = .ok (.iconst 1, 1) := by decide +kernel
theorem dX5_rings_25 : decode cX5_rings 25 = .ok (.goto 4, 3) := by decide +kernel
theorem dX5_rings_28 : decode cX5_rings 28 = .ok (.iconst 0, 1) := by decide +kernel
theorem dX5_rings_29 : decode cX5_rings 29 = .ok (.istore_n 2, 1) := by decide +kernel
theorem dX5_rings_30 : decode cX5_rings 30 = .ok (.iload_n 2, 1) := by decide +kernel
theorem dX5_rings_31 : decode cX5_rings 31 = .ok (.ifCond .ne 15, 3) := by decide +kernel
theorem dX5_rings_34 : decode cX5_rings 34 = .ok (.aload_n 0, 1) := by decide +kernel
theorem dX5_rings_35 : decode cX5_rings 35 = .ok (.getfield 29, 3) := by decide +kernel
theorem dX5_rings_38 : decode cX5_rings 38 = .ok (.iconst 5, 1) := by decide +kernel
theorem dX5_rings_39 : decode cX5_rings 39 = .ok (.dup2, 1) := by decide +kernel
theorem dX5_rings_40 : decode cX5_rings 40 = .ok (.iaload, 1) := by decide +kernel
theorem dX5_rings_41 : decode cX5_rings 41 = .ok (.iconst 1, 1) := by decide +kernel
theorem dX5_rings_42 : decode cX5_rings 42 = .ok (.iadd, 1) := by decide +kernel
theorem dX5_rings_43 : decode cX5_rings 43 = .ok (.iastore, 1) := by decide +kernel
theorem dX5_rings_44 : decode cX5_rings 44 = .ok (.iconst 0, 1) := by decide +kernel
theorem dX5_rings_45 : decode cX5_rings 45 = .ok (.ireturn, 1) := by decide +kernel
theorem dX5_rings_46 : decode cX5_rings 46 = .ok (.aload_n 0, 1) := by decide +kernel
theorem dX5_rings_47 : decode cX5_rings 47 = .ok (.getfield 29, 3) := by decide +kernel
theorem dX5_rings_50 : decode cX5_rings 50 = .ok (.iconst 1, 1) := by decide +kernel
theorem dX5_rings_51 : decode cX5_rings 51 = .ok (.dup2, 1) := by decide +kernel
theorem dX5_rings_52 : decode cX5_rings 52 = .ok (.iaload, 1) := by decide +kernel
theorem dX5_rings_53 : decode cX5_rings 53 = .ok (.aload_n 0, 1) := by decide +kernel
theorem dX5_rings_54 : decode cX5_rings 54 = .ok (.getfield 9, 3) := by decide +kernel
theorem dX5_rings_57 : decode cX5_rings 57 = .ok (.iload_n 1, 1) := by decide +kernel
theorem dX5_rings_58 : decode cX5_rings 58 = .ok (.iaload, 1) := by decide +kernel
theorem dX5_rings_59 : decode cX5_rings 59 = .ok (.iconst 1, 1) := by decide +kernel
theorem dX5_rings_60 : decode cX5_rings 60 = .ok (.iadd, 1) := by decide +kernel
theorem dX5_rings_61 : decode cX5_rings 61 = .ok (.isub, 1) := by decide +kernel
theorem dX5_rings_62 : decode cX5_rings 62 = .ok (.iastore, 1) := by decide +kernel
theorem dX5_rings_63 : decode cX5_rings 63 = .ok (.aload_n 0, 1) := by decide +kernel
theorem dX5_rings_64 : decode cX5_rings 64 = .ok (.aload_n 0, 1) := by decide +kernel
theorem dX5_rings_65 : decode cX5_rings 65 = .ok (.getfield 19, 3) := by decide +kernel
theorem dX5_rings_68 : decode cX5_rings 68 = .ok (.iload_n 1, 1) := by decide +kernel
theorem dX5_rings_69 : decode cX5_rings 69 = .ok (.iaload, 1) := by decide +kernel
theorem dX5_rings_70 : decode cX5_rings 70 = .ok (.invokevirtual 55, 3) := by decide +kernel
theorem dX5_rings_73 : decode cX5_rings 73 = .ok (.iconst (-1), 1) := by decide +kernel
theorem dX5_rings_74 : decode cX5_rings 74 = .ok (.if_icmp .ne 35, 3) := by decide +kernel
theorem dX5_rings_77 : decode cX5_rings 77 = .ok (.aload_n 0, 1) := by decide +kernel
theorem dX5_rings_78 : decode cX5_rings 78 = .ok (.getfield 29, 3) := by decide +kernel
theorem dX5_rings_81 : decode cX5_rings 81 = .ok (.bipush 19, 2) := by decide +kernel
theorem dX5_rings_83 : decode cX5_rings 83 = .ok (.aload_n 0, 1) := by decide +kernel
theorem dX5_rings_84 : decode cX5_rings 84 = .ok (.getfield 29, 3) := by decide +kernel
theorem dX5_rings_87 : decode cX5_rings 87 = .ok (.bipush 6, 2) := by decide +kernel
theorem dX5_rings_89 : decode cX5_rings 89 = .ok (.iaload, 1) := by decide +kernel
theorem dX5_rings_90 : decode cX5_rings 90 = .ok (.iadd, 1) := by decide +kernel
theorem dX5_rings_91 : decode cX5_rings 91 = .ok (.aload_n 0, 1) := by decide +kernel
theorem dX5_rings_92 : decode cX5_rings 92 = .ok (.getfield 19, 3) := by decide +kernel
theorem dX5_rings_95 : decode cX5_rings 95 = .ok (.iload_n 1, 1) := by decide +kernel
theorem dX5_rings_96 : decode cX5_rings 96 = .ok (.iaload, 1) := by decide +kernel
theorem dX5_rings_97 : decode cX5_rings 97 = .ok (.iastore, 1) := by decide +kernel
theorem dX5_rings_98 : decode cX5_rings 98 = .ok (.aload_n 0, 1) := by decide +kernel
theorem dX5_rings_99 : decode cX5_rings 99 = .ok (.getfield 29, 3) := by decide +kernel
theorem dX5_rings_102 : decode cX5_rings 102 = .ok (.bipush 6, 2) := by decide +kernel
theorem dX5_rings_104 : decode cX5_rings 104 = .ok (.dup2, 1) := by decide +kernel
theorem dX5_rings_105 : decode cX5_rings 105 = .ok (.iaload, 1) := by decide +kernel
theorem dX5_rings_106 : decode cX5_rings 106 = .ok (.iconst 1, 1) := by decide +kernel
theorem dX5_rings_107 : decode cX5_rings 107 = .ok (.iadd, 1) := by decide +kernel
theorem dX5_rings_108 : decode cX5_rings 108 = .ok (.iastore, 1) := by decide +kernel
theorem dX5_rings_109 : decode cX5_rings 109 = .ok (.iconst 1, 1) := by decide +kernel
theorem dX5_rings_110 : decode cX5_rings 110 = .ok (.ireturn, 1) := by decide +kernel
theorem dX5_way_0 : decode cX5_way 0 = .ok (.iconst 1, 1) := by decide +kernel
theorem dX5_way_1 : decode cX5_way 1 = .ok (.aload_n 0, 1) := by decide +kernel
theorem dX5_way_2 : decode cX5_way 2 = .ok (.getfield 29, 3) := by decide +kernel
theorem dX5_way_5 : decode cX5_way 5 = .ok (.bipush 31, 2) := by decide +kernel
theorem dX5_way_7 : decode cX5_way 7 = .ok (.iload_n 1, 1) := by decide +kernel
theorem dX5_way_8 : decode cX5_way 8 = .ok (.iadd, 1) := by decide +kernel
theorem dX5_way_9 : decode cX5_way 9 = .ok (.iaload, 1) := by decide +kernel
theorem dX5_way_10 : decode cX5_way 10 = .ok (.aload_n 0, 1) := by decide +kernel
theorem dX5_way_11 : decode cX5_way 11 = .ok (.getfield 9, 3) := by decide +kernel
theorem dX5_way_14 : decode cX5_way 14 = .ok (.iload_n 2, 1) := by decide +kernel
theorem dX5_way_15 : decode cX5_way 15 = .ok (.iaload, 1) := by decide +kernel
theorem dX5_way_16 : decode cX5_way 16 = .ok (.isub, 1) := by decide +kernel
theorem dX5_way_17 : decode cX5_way 17 = .ok (.invokestatic 59, 3) := by decide +kernel
theorem dX5_way_20 : decode cX5_way 20 = .ok (.aload_n 0, 1) := by decide +kernel
theorem dX5_way_21 : decode cX5_way 21 = .ok (.getfield 26, 3) := by decide +kernel
theorem dX5_way_24 : decode cX5_way 24 = .ok (.iload_n 1, 1) := by decide +kernel
theorem dX5_way_25 : decode cX5_way 25 = .ok (.iaload, 1) := by decide +kernel
theorem dX5_way_26 : decode cX5_way 26 = .ok (.iadd, 1) := by decide +kernel
theorem dX5_way_27 : decode cX5_way 27 = .ok (.iconst 1, 1) := by decide +kernel
theorem dX5_way_28 : decode cX5_way 28 = .ok (.isub, 1) := by decide +kernel
theorem dX5_way_29 : decode cX5_way 29 = .ok (.aload_n 0, 1) := by decide +kernel
theorem dX5_way_30 : decode cX5_way 30 = .ok (.getfield 26, 3) := by decide +kernel
theorem dX5_way_33 : decode cX5_way 33 = .ok (.iload_n 1, 1) := by decide +kernel
theorem dX5_way_34 : decode cX5_way 34 = .ok (.iaload, 1) := by decide +kernel
theorem dX5_way_35 : decode cX5_way 35 = .ok (.idiv, 1) := by decide +kernel
theorem dX5_way_36 : decode cX5_way 36 = .ok (.invokestatic 64, 3) := by decide +kernel
theorem dX5_way_39 : decode cX5_way 39 = .ok (.ireturn, 1) := by decide +kernel
set_option maxRecDepth 20000 in
theorem ggX5_nearest_X5_way : GoodIn wsX5_nearest wsX5_way := goodIn_r _ [7, 2, 8, 9, 10, 11, 12, 13, 14, 15, 16, 17, 18, 19, 20, 21, 22, 23, 24, 25, 26, 27] (by decide +kernel) (by decide +kernel)
set_option maxRecDepth 20000 in
theorem gX5_nearest_X5_way : GoodIn wsX5_nearest (wsV RX5 68 RX5 yX5_way wsX5_way) := goodIn_app (goodIn_of _ (by decide +kernel)) ggX5_nearest_X5_way
theorem dX5_nearest_0 : decode cX5_nearest 0 = .ok (.iconst (-1), 1) := by decide +kernel
theorem dX5_nearest_1 : decode cX5_nearest 1 = .ok (.istore_n 2, 1) := by decide +kernel
theorem dX5_nearest_2 : decode cX5_nearest 2 = .ok (.iconst 0, 1) := by decide +kernel
theorem dX5_nearest_3 : decode cX5_nearest 3 = .ok (.istore_n 3, 1) := by decide +kernel
theorem dX5_nearest_4 : decode cX5_nearest 4 = .ok (.iload_n 3, 1) := by decide +kernel
theorem dX5_nearest_5 : decode cX5_nearest 5 = .ok (.aload_n 0, 1) := by decide +kernel
theorem dX5_nearest_6 : decode cX5_nearest 6 = .ok (.getfield 46, 3) := by decide +kernel
theorem dX5_nearest_9 : decode cX5_nearest 9 = .ok (.if_icmp .ge 43, 3) := by decide +kernel
theorem dX5_nearest_12 : decode cX5_nearest 12 = .ok (.aload_n 0, 1) := by decide +kernel
theorem dX5_nearest_13 : decode cX5_nearest 13 = .ok (.getfield 29, 3) := by decide +kernel
theorem dX5_nearest_16 : decode cX5_nearest 16 = .ok (.bipush 37, 2) := by decide +kernel
theorem dX5_nearest_18 : decode cX5_nearest 18 = .ok (.iload_n 3, 1) := by decide +kernel
theorem dX5_nearest_19 : decode cX5_nearest 19 = .ok (.iadd, 1) := by decide +kernel
theorem dX5_nearest_20 : decode cX5_nearest 20 = .ok (.iaload, 1) := by decide +kernel
theorem dX5_nearest_21 : decode cX5_nearest 21 = .ok (.ifCond .ne 25, 3) := by decide +kernel
theorem dX5_nearest_24 : decode cX5_nearest 24 = .ok (.iload_n 2, 1) := by decide +kernel
theorem dX5_nearest_25 : decode cX5_nearest 25 = .ok (.iconst (-1), 1) := by decide +kernel
theorem dX5_nearest_26 : decode cX5_nearest 26 = .ok (.if_icmp .eq 18, 3) := by decide +kernel
theorem dX5_nearest_29 : decode cX5_nearest 29 = .ok (.aload_n 0, 1) := by decide +kernel
theorem dX5_nearest_30 : decode cX5_nearest 30 = .ok (.iload_n 3, 1) := by decide +kernel
theorem dX5_nearest_31 : decode cX5_nearest 31 = .ok (.iload_n 1, 1) := by decide +kernel
theorem dX5_nearest_32 : decode cX5_nearest 32 = .ok (.invokevirtual 68, 3) := by decide +kernel
theorem dX5_nearest_35 : decode cX5_nearest 35 = .ok (.aload_n 0, 1) := by decide +kernel
theorem dX5_nearest_36 : decode cX5_nearest 36 = .ok (.iload_n 2, 1) := by decide +kernel
theorem dX5_nearest_37 : decode cX5_nearest 37 = .ok (.iload_n 1, 1) := by decide +kernel
theorem dX5_nearest_38 : decode cX5_nearest 38 = .ok (.invokevirtual 68, 3) := by decide +kernel
theorem dX5_nearest_41 : decode cX5_nearest 41 = .ok (.if_icmp .ge 5, 3) := by decide +kernel
theorem dX5_nearest_44 : decode cX5_nearest 44 = .ok (.iload_n 3, 1) := by decide +kernel
theorem dX5_nearest_45 : decode cX5_nearest 45 = .ok (.istore_n 2, 1) := by decide +kernel
theorem dX5_nearest_46 : decode cX5_nearest 46 = .ok (.iinc 3 1, 3) := by decide +kernel
theorem dX5_nearest_49 : decode cX5_nearest 49 = .ok (.goto (-45), 3) := by decide +kernel
theorem dX5_nearest_52 : decode cX5_nearest 52 = .ok (.iload_n 2, 1) := by decide +kernel
theorem dX5_nearest_53 : decode cX5_nearest 53 = .ok (.ireturn, 1) := by decide +kernel
theorem dX5_give_0 : decode cX5_give 0 = .ok (.aload_n 0, 1) := by decide +kernel
theorem dX5_give_1 : decode cX5_give 1 = .ok (.getfield 29, 3) := by decide +kernel
theorem dX5_give_4 : decode cX5_give 4 = .ok (.bipush 37, 2) := by decide +kernel
theorem dX5_give_6 : decode cX5_give 6 = .ok (.iload_n 1, 1) := by decide +kernel
theorem dX5_give_7 : decode cX5_give 7 = .ok (.iadd, 1) := by decide +kernel
theorem dX5_give_8 : decode cX5_give 8 = .ok (.iload_n 2, 1) := by decide +kernel
theorem dX5_give_9 : decode cX5_give 9 = .ok (.iastore, 1) := by decide +kernel
theorem dX5_give_10 : decode cX5_give 10 = .ok (.aload_n 0, 1) := by decide +kernel
theorem dX5_give_11 : decode cX5_give 11 = .ok (.getfield 29, 3) := by decide +kernel
theorem dX5_give_14 : decode cX5_give 14 = .ok (.bipush 43, 2) := by decide +kernel
theorem dX5_give_16 : decode cX5_give 16 = .ok (.iload_n 1, 1) := by decide +kernel
theorem dX5_give_17 : decode cX5_give 17 = .ok (.iadd, 1) := by decide +kernel
theorem dX5_give_18 : decode cX5_give 18 = .ok (.iload_n 3, 1) := by decide +kernel
theorem dX5_give_19 : decode cX5_give 19 = .ok (.iastore, 1) := by decide +kernel
theorem dX5_give_20 : decode cX5_give 20 = .ok (.aload_n 0, 1) := by decide +kernel
theorem dX5_give_21 : decode cX5_give 21 = .ok (.getfield 29, 3) := by decide +kernel
theorem dX5_give_24 : decode cX5_give 24 = .ok (.bipush 49, 2) := by decide +kernel
theorem dX5_give_26 : decode cX5_give 26 = .ok (.iload_n 1, 1) := by decide +kernel
theorem dX5_give_27 : decode cX5_give 27 = .ok (.iadd, 1) := by decide +kernel
theorem dX5_give_28 : decode cX5_give 28 = .ok (.iload 4, 2) := by decide +kernel
theorem dX5_give_30 : decode cX5_give 30 = .ok (.iastore, 1) := by decide +kernel
theorem dX5_give_31 : decode cX5_give 31 = .ok (.return_, 1) := by decide +kernel
set_option maxRecDepth 20000 in
theorem ggX5_comeTo_X5_give : GoodIn wsX5_comeTo wsX5_give := goodIn_r _ [8, 1, 9, 10, 11, 12, 13, 14, 15, 16, 17, 18, 19] (by decide +kernel) (by decide +kernel)
set_option maxRecDepth 20000 in
theorem gX5_comeTo_X5_give : GoodIn wsX5_comeTo (wsV RX5 71 RX5 yX5_give wsX5_give) := goodIn_app (goodIn_of _ (by decide +kernel)) ggX5_comeTo_X5_give
theorem dX5_comeTo_0 : decode cX5_comeTo 0 = .ok (.aload_n 0, 1) := by decide +kernel
theorem dX5_comeTo_1 : decode cX5_comeTo 1 = .ok (.getfield 29, 3) := by decide +kernel
theorem dX5_comeTo_4 : decode cX5_comeTo 4 = .ok (.bipush 31, 2) := by decide +kernel
theorem dX5_comeTo_6 : decode cX5_comeTo 6 = .ok (.iload_n 1, 1) := by decide +kernel
theorem dX5_comeTo_7 : decode cX5_comeTo 7 = .ok (.iadd, 1) := by decide +kernel
theorem dX5_comeTo_8 : decode cX5_comeTo 8 = .ok (.aload_n 0, 1) := by decide +kernel
theorem dX5_comeTo_9 : decode cX5_comeTo 9 = .ok (.getfield 9, 3) := by decide +kernel
theorem dX5_comeTo_12 : decode cX5_comeTo 12 = .ok (.iload_n 2, 1) := by decide +kernel
theorem dX5_comeTo_13 : decode cX5_comeTo 13 = .ok (.iaload, 1) := by decide +kernel
theorem dX5_comeTo_14 : decode cX5_comeTo 14 = .ok (.iastore, 1) := by decide +kernel
theorem dX5_comeTo_15 : decode cX5_comeTo 15 = .ok (.aload_n 0, 1) := by decide +kernel
theorem dX5_comeTo_16 : decode cX5_comeTo 16 = .ok (.getfield 29, 3) := by decide +kernel
theorem dX5_comeTo_19 : decode cX5_comeTo 19 = .ok (.bipush 7, 2) := by decide +kernel
theorem dX5_comeTo_21 : decode cX5_comeTo 21 = .ok (.iload_n 2, 1) := by decide +kernel
theorem dX5_comeTo_22 : decode cX5_comeTo 22 = .ok (.iadd, 1) := by decide +kernel
theorem dX5_comeTo_23 : decode cX5_comeTo 23 = .ok (.iaload, 1) := by decide +kernel
theorem dX5_comeTo_24 : decode cX5_comeTo 24 = .ok (.iconst (-1), 1) := by decide +kernel
theorem dX5_comeTo_25 : decode cX5_comeTo 25 = .ok (.if_icmp .ne 22, 3) := by decide +kernel
theorem dX5_comeTo_28 : decode cX5_comeTo 28 = .ok (.aload_n 0, 1) := by decide +kernel
theorem dX5_comeTo_29 : decode cX5_comeTo 29 = .ok (.getfield 29, 3) := by decide +kernel
theorem dX5_comeTo_32 : decode cX5_comeTo 32 = .ok (.iconst 3, 1) := by decide +kernel
theorem dX5_comeTo_33 : decode cX5_comeTo 33 = .ok (.dup2, 1) := by decide +kernel
theorem dX5_comeTo_34 : decode cX5_comeTo 34 = .ok (.iaload, 1) := by decide +kernel
theorem dX5_comeTo_35 : decode cX5_comeTo 35 = .ok (.iconst 1, 1) := by decide +kernel
theorem dX5_comeTo_36 : decode cX5_comeTo 36 = .ok (.iadd, 1) := by decide +kernel
theorem dX5_comeTo_37 : decode cX5_comeTo 37 = .ok (.iastore, 1) := by decide +kernel
theorem dX5_comeTo_38 : decode cX5_comeTo 38 = .ok (.aload_n 0, 1) := by decide +kernel
theorem dX5_comeTo_39 : decode cX5_comeTo 39 = .ok (.iload_n 1, 1) := by decide +kernel
theorem dX5_comeTo_40 : decode cX5_comeTo 40 = .ok (.iconst 0, 1) := by decide +kernel
theorem dX5_comeTo_41 : decode cX5_comeTo 41 = .ok (.iconst 0, 1) := by decide +kernel
theorem dX5_comeTo_42 : decode cX5_comeTo 42 = .ok (.iconst 0, 1) := by decide +kernel
theorem dX5_comeTo_43 : decode cX5_comeTo 43 = .ok (.invokevirtual 71, 3) := by decide +kernel
theorem dX5_comeTo_46 : decode cX5_comeTo 46 = .ok (.return_, 1) := by decide +kernel
theorem dX5_comeTo_47 : decode cX5_comeTo 47 = .ok (.aload_n 0, 1) := by decide +kernel
theorem dX5_comeTo_48 : decode cX5_comeTo 48 = .ok (.getfield 29, 3) := by decide +kernel
theorem dX5_comeTo_51 : decode cX5_comeTo 51 = .ok (.bipush 7, 2) := by decide +kernel
theorem dX5_comeTo_53 : decode cX5_comeTo 53 = .ok (.iload_n 2, 1) := by decide +kernel
theorem dX5_comeTo_54 : decode cX5_comeTo 54 = .ok (.iadd, 1) := by decide +kernel
theorem dX5_comeTo_55 : decode cX5_comeTo 55 = .ok (.iconst (-1), 1) := by decide +kernel
theorem dX5_comeTo_56 : decode cX5_comeTo 56 = .ok (.iastore, 1) := by decide +kernel
theorem dX5_comeTo_57 : decode cX5_comeTo 57 = .ok (.aload_n 0, 1) := by decide +kernel
theorem dX5_comeTo_58 : decode cX5_comeTo 58 = .ok (.getfield 29, 3) := by decide +kernel
theorem dX5_comeTo_61 : decode cX5_comeTo 61 = .ok (.iconst 2, 1) := by decide +kernel
theorem dX5_comeTo_62 : decode cX5_comeTo 62 = .ok (.dup2, 1) := by decide +kernel
theorem dX5_comeTo_63 : decode cX5_comeTo 63 = .ok (.iaload, 1) := by decide +kernel
theorem dX5_comeTo_64 : decode cX5_comeTo 64 = .ok (.iconst 1, 1) := by decide +kernel
theorem dX5_comeTo_65 : decode cX5_comeTo 65 = .ok (.iadd, 1) := by decide +kernel
theorem dX5_comeTo_66 : decode cX5_comeTo 66 = .ok (.iastore, 1) := by decide +kernel
theorem dX5_comeTo_67 : decode cX5_comeTo 67 = .ok (.aload_n 0, 1) := by decide +kernel
theorem dX5_comeTo_68 : decode cX5_comeTo 68 = .ok (.iload_n 1, 1) := by decide +kernel
theorem dX5_comeTo_69 : decode cX5_comeTo 69 = .ok (.iconst 2, 1) := by decide +kernel
theorem dX5_comeTo_70 : decode cX5_comeTo 70 = .ok (.iload_n 2, 1) := by decide +kernel
theorem dX5_comeTo_71 : decode cX5_comeTo 71 = .ok (.aload_n 0, 1) := by decide +kernel
theorem dX5_comeTo_72 : decode cX5_comeTo 72 = .ok (.getfield 16, 3) := by decide +kernel
theorem dX5_comeTo_75 : decode cX5_comeTo 75 = .ok (.iload_n 2, 1) := by decide +kernel
theorem dX5_comeTo_76 : decode cX5_comeTo 76 = .ok (.iaload, 1) := by decide +kernel
theorem dX5_comeTo_77 : decode cX5_comeTo 77 = .ok (.invokevirtual 71, 3) := by decide +kernel
theorem dX5_comeTo_80 : decode cX5_comeTo 80 = .ok (.return_, 1) := by decide +kernel
set_option maxRecDepth 20000 in
theorem ggX5_hold_X5_rings : GoodIn wsX5_hold wsX5_rings := goodIn_r _ [7, 8, 1, 9, 10, 11, 12, 13, 6, 14, 15, 16, 17, 18, 19, 20, 21, 22, 23, 24, 25] (by decide +kernel) (by decide +kernel)
set_option maxRecDepth 20000 in
theorem gX5_hold_X5_rings : GoodIn wsX5_hold (wsV RX5 75 RX5 yX5_rings wsX5_rings) := goodIn_app (goodIn_of _ (by decide +kernel)) ggX5_hold_X5_rings
theorem dX5_hold_0 : decode cX5_hold 0 = .ok (.aload_n 0, 1) := by decide +kernel
theorem dX5_hold_1 : decode cX5_hold 1 = .ok (.getfield 29, 3) := by decide +kernel
theorem dX5_hold_4 : decode cX5_hold 4 = .ok (.bipush 7, 2) := by decide +kernel
theorem dX5_hold_6 : decode cX5_hold 6 = .ok (.iload_n 1, 1) := by decide +kernel
theorem dX5_hold_7 : decode cX5_hold 7 = .ok (.iadd, 1) := by decide +kernel
theorem dX5_hold_8 : decode cX5_hold 8 = .ok (.dup2, 1) := by decide +kernel
theorem dX5_hold_9 : decode cX5_hold 9 = .ok (.iaload, 1) := by decide +kernel
theorem dX5_hold_10 : decode cX5_hold 10 = .ok (.iconst 1, 1) := by decide +kernel
theorem dX5_hold_11 : decode cX5_hold 11 = .ok (.iadd, 1) := by decide +kernel
theorem dX5_hold_12 : decode cX5_hold 12 = .ok (.iastore, 1) := by decide +kernel
theorem dX5_hold_13 : decode cX5_hold 13 = .ok (.aload_n 0, 1) := by decide +kernel
theorem dX5_hold_14 : decode cX5_hold 14 = .ok (.getfield 29, 3) := by decide +kernel
theorem dX5_hold_17 : decode cX5_hold 17 = .ok (.bipush 7, 2) := by decide +kernel
theorem dX5_hold_19 : decode cX5_hold 19 = .ok (.iload_n 1, 1) := by decide +kernel
theorem dX5_hold_20 : decode cX5_hold 20 = .ok (.iadd, 1) := by decide +kernel
theorem dX5_hold_21 : decode cX5_hold 21 = .ok (.iaload, 1) := by decide +kernel
theorem dX5_hold_22 : decode cX5_hold 22 = .ok (.bipush 30, 2) := by decide +kernel
theorem dX5_hold_24 : decode cX5_hold 24 = .ok (.if_icmp .ne 26, 3) := by decide +kernel
theorem dX5_hold_27 : decode cX5_hold 27 = .ok (.aload_n 0, 1) := by decide +kernel
theorem dX5_hold_28 : decode cX5_hold 28 = .ok (.getfield 29, 3) := by decide +kernel
theorem dX5_hold_31 : decode cX5_hold 31 = .ok (.bipush 7, 2) := by decide +kernel
theorem dX5_hold_33 : decode cX5_hold 33 = .ok (.iload_n 1, 1) := by decide +kernel
theorem dX5_hold_34 : decode cX5_hold 34 = .ok (.iadd, 1) := by decide +kernel
theorem dX5_hold_35 : decode cX5_hold 35 = .ok (.iconst (-1), 1) := by decide +kernel
theorem dX5_hold_36 : decode cX5_hold 36 = .ok (.iastore, 1) := by decide +kernel
theorem dX5_hold_37 : decode cX5_hold 37 = .ok (.aload_n 0, 1) := by decide +kernel
theorem dX5_hold_38 : decode cX5_hold 38 = .ok (.getfield 29, 3) := by decide +kernel
theorem dX5_hold_41 : decode cX5_hold 41 = .ok (.iconst 4, 1) := by decide +kernel
theorem dX5_hold_42 : decode cX5_hold 42 = .ok (.dup2, 1) := by decide +kernel
theorem dX5_hold_43 : decode cX5_hold 43 = .ok (.iaload, 1) := by decide +kernel
theorem dX5_hold_44 : decode cX5_hold 44 = .ok (.iconst 1, 1) := by decide +kernel
theorem dX5_hold_45 : decode cX5_hold 45 = .ok (.iadd, 1) := by decide +kernel
theorem dX5_hold_46 : decode cX5_hold 46 = .ok (.iastore, 1) := by decide +kernel
theorem dX5_hold_47 : decode cX5_hold 47 = .ok (.goto 28, 3) := by decide +kernel
theorem dX5_hold_50 : decode cX5_hold 50 = .ok (.aload_n 0, 1) := by decide +kernel
theorem dX5_hold_51 : decode cX5_hold 51 = .ok (.getfield 29, 3) := by decide +kernel
theorem dX5_hold_54 : decode cX5_hold 54 = .ok (.bipush 7, 2) := by decide +kernel
theorem dX5_hold_56 : decode cX5_hold 56 = .ok (.iload_n 1, 1) := by decide +kernel
theorem dX5_hold_57 : decode cX5_hold 57 = .ok (.iadd, 1) := by decide +kernel
theorem dX5_hold_58 : decode cX5_hold 58 = .ok (.iaload, 1) := by decide +kernel
theorem dX5_hold_59 : decode cX5_hold 59 = .ok (.aload_n 0, 1) := by decide +kernel
theorem dX5_hold_60 : decode cX5_hold 60 = .ok (.getfield 13, 3) := by decide +kernel
theorem dX5_hold_63 : decode cX5_hold 63 = .ok (.iload_n 1, 1) := by decide +kernel
theorem dX5_hold_64 : decode cX5_hold 64 = .ok (.iaload, 1) := by decide +kernel
theorem dX5_hold_65 : decode cX5_hold 65 = .ok (.irem, 1) := by decide +kernel
theorem dX5_hold_66 : decode cX5_hold 66 = .ok (.ifCond .ne 9, 3) := by decide +kernel
theorem dX5_hold_69 : decode cX5_hold 69 = .ok (.aload_n 0, 1) := by decide +kernel
theorem dX5_hold_70 : decode cX5_hold 70 = .ok (.iload_n 1, 1) := by decide +kernel
theorem dX5_hold_71 : decode cX5_hold 71 = .ok (.invokevirtual 75, 3) := by decide +kernel
theorem dX5_hold_74 : decode cX5_hold 74 = .ok (.pop, 1) := by decide +kernel
theorem dX5_hold_75 : decode cX5_hold 75 = .ok (.return_, 1) := by decide +kernel
set_option maxRecDepth 20000 in
theorem ggX5_work_X5_comeTo : GoodIn wsX5_work wsX5_comeTo := goodIn_r _ [6, 1, 7, 8, 9, 10, 11, 5, 12, 13, 14, 15, 16, 17, 18, 19, 20, 21, 22, 23] (by decide +kernel) (by decide +kernel)
set_option maxRecDepth 20000 in
theorem gX5_work_X5_comeTo : GoodIn wsX5_work (wsV RX5 79 RX5 yX5_comeTo wsX5_comeTo) := goodIn_app (goodIn_of _ (by decide +kernel)) ggX5_work_X5_comeTo
set_option maxRecDepth 20000 in
theorem ggX5_work_X5_give : GoodIn wsX5_work wsX5_give := goodIn_r _ [12, 1, 13, 14, 15, 16, 17, 18, 19, 20, 21, 22, 23] (by decide +kernel) (by decide +kernel)
set_option maxRecDepth 20000 in
theorem gX5_work_X5_give : GoodIn wsX5_work (wsV RX5 71 RX5 yX5_give wsX5_give) := goodIn_app (goodIn_of _ (by decide +kernel)) ggX5_work_X5_give
theorem dX5_work_0 : decode cX5_work 0 = .ok (.aload_n 0, 1) := by decide +kernel
theorem dX5_work_1 : decode cX5_work 1 = .ok (.getfield 29, 3) := by decide +kernel
theorem dX5_work_4 : decode cX5_work 4 = .ok (.bipush 49, 2) := by decide +kernel
theorem dX5_work_6 : decode cX5_work 6 = .ok (.iload_n 1, 1) := by decide +kernel
theorem dX5_work_7 : decode cX5_work 7 = .ok (.iadd, 1) := by decide +kernel
theorem dX5_work_8 : decode cX5_work 8 = .ok (.dup2, 1) := by decide +kernel
theorem dX5_work_9 : decode cX5_work 9 = .ok (.iaload, 1) := by decide +kernel
theorem dX5_work_10 : decode cX5_work 10 = .ok (.iconst 1, 1) := by decide +kernel
theorem dX5_work_11 : decode cX5_work 11 = .ok (.isub, 1) := by decide +kernel
theorem dX5_work_12 : decode cX5_work 12 = .ok (.iastore, 1) := by decide +kernel
theorem dX5_work_13 : decode cX5_work 13 = .ok (.aload_n 0, 1) := by decide +kernel
theorem dX5_work_14 : decode cX5_work 14 = .ok (.getfield 29, 3) := by decide +kernel
theorem dX5_work_17 : decode cX5_work 17 = .ok (.bipush 49, 2) := by decide +kernel
theorem dX5_work_19 : decode cX5_work 19 = .ok (.iload_n 1, 1) := by decide +kernel
theorem dX5_work_20 : decode cX5_work 20 = .ok (.iadd, 1) := by decide +kernel
theorem dX5_work_21 : decode cX5_work 21 = .ok (.iaload, 1) := by decide +kernel
theorem dX5_work_22 : decode cX5_work 22 = .ok (.ifCond .le 4, 3) := by decide +kernel
theorem dX5_work_25 : decode cX5_work 25 = .ok (.return_, 1) := by decide +kernel
theorem dX5_work_26 : decode cX5_work 26 = .ok (.aload_n 0, 1) := by decide +kernel
theorem dX5_work_27 : decode cX5_work 27 = .ok (.getfield 29, 3) := by decide +kernel
theorem dX5_work_30 : decode cX5_work 30 = .ok (.bipush 37, 2) := by decide +kernel
theorem dX5_work_32 : decode cX5_work 32 = .ok (.iload_n 1, 1) := by decide +kernel
theorem dX5_work_33 : decode cX5_work 33 = .ok (.iadd, 1) := by decide +kernel
theorem dX5_work_34 : decode cX5_work 34 = .ok (.iaload, 1) := by decide +kernel
theorem dX5_work_35 : decode cX5_work 35 = .ok (.iconst 1, 1) := by decide +kernel
theorem dX5_work_36 : decode cX5_work 36 = .ok (.if_icmp .ne 20, 3) := by decide +kernel
theorem dX5_work_39 : decode cX5_work 39 = .ok (.aload_n 0, 1) := by decide +kernel
theorem dX5_work_40 : decode cX5_work 40 = .ok (.iload_n 1, 1) := by decide +kernel
theorem dX5_work_41 : decode cX5_work 41 = .ok (.aload_n 0, 1) := by decide +kernel
theorem dX5_work_42 : decode cX5_work 42 = .ok (.getfield 29, 3) := by decide +kernel
theorem dX5_work_45 : decode cX5_work 45 = .ok (.bipush 43, 2) := by decide +kernel
theorem dX5_work_47 : decode cX5_work 47 = .ok (.iload_n 1, 1) := by decide +kernel
theorem dX5_work_48 : decode cX5_work 48 = .ok (.iadd, 1) := by decide +kernel
theorem dX5_work_49 : decode cX5_work 49 = .ok (.iaload, 1) := by decide +kernel
theorem dX5_work_50 : decode cX5_work 50 = .ok (.invokevirtual 79, 3) := by decide +kernel
theorem dX5_work_53 : decode cX5_work 53 = .ok (.goto 11, 3) := by decide +kernel
theorem dX5_work_56 : decode cX5_work 56 = .ok (.aload_n 0, 1) := by decide +kernel
theorem dX5_work_57 : decode cX5_work 57 = .ok (.iload_n 1, 1) := by decide +kernel
theorem dX5_work_58 : decode cX5_work 58 = .ok (.iconst 0, 1) := by decide +kernel
theorem dX5_work_59 : decode cX5_work 59 = .ok (.iconst 0, 1) := by decide +kernel
theorem dX5_work_60 : decode cX5_work 60 = .ok (.iconst 0, 1) := by decide +kernel
theorem dX5_work_61 : decode cX5_work 61 = .ok (.invokevirtual 71, 3) := by decide +kernel
theorem dX5_work_64 : decode cX5_work 64 = .ok (.return_, 1) := by decide +kernel
set_option maxRecDepth 20000 in
theorem ggX5_sends_X5_nearest : GoodIn wsX5_sends wsX5_nearest := goodIn_r _ [6, 7, 1, 8, 9, 10, 5, 11, 12, 13, 14, 15, 16, 17, 18, 19, 20, 29, 30, 31, 32, 33, 34, 35, 36, 37, 38, 39] (by decide +kernel) (by decide +kernel)
set_option maxRecDepth 20000 in
theorem gX5_sends_X5_nearest : GoodIn wsX5_sends (wsV RX5 83 RX5 yX5_nearest wsX5_nearest) := goodIn_app (goodIn_of _ (by decide +kernel)) ggX5_sends_X5_nearest
set_option maxRecDepth 20000 in
theorem ggX5_sends_X5_takeOut : GoodIn wsX5_sends wsX5_takeOut := goodIn_r _ [24, 1, 29, 30, 31, 32, 33, 34, 35, 36, 37, 38, 39] (by decide +kernel) (by decide +kernel)
set_option maxRecDepth 20000 in
theorem gX5_sends_X5_takeOut : GoodIn wsX5_sends (wsV RX5 86 RX5 yX5_takeOut wsX5_takeOut) := goodIn_app (goodIn_of _ (by decide +kernel)) ggX5_sends_X5_takeOut
set_option maxRecDepth 20000 in
theorem ggX5_sends_X5_way : GoodIn wsX5_sends wsX5_way := goodIn_r _ [11, 1, 12, 13, 14, 15, 16, 17, 18, 19, 20, 29, 30, 31, 32, 33, 34, 35, 36, 37, 38, 39] (by decide +kernel) (by decide +kernel)
set_option maxRecDepth 20000 in
theorem gX5_sends_X5_way : GoodIn wsX5_sends (wsV RX5 68 RX5 yX5_way wsX5_way) := goodIn_app (goodIn_of _ (by decide +kernel)) ggX5_sends_X5_way
set_option maxRecDepth 20000 in
theorem ggX5_sends_X5_give : GoodIn wsX5_sends wsX5_give := goodIn_r _ [28, 1, 29, 30, 31, 32, 33, 34, 35, 36, 37, 38, 39] (by decide +kernel) (by decide +kernel)
set_option maxRecDepth 20000 in
theorem gX5_sends_X5_give : GoodIn wsX5_sends (wsV RX5 71 RX5 yX5_give wsX5_give) := goodIn_app (goodIn_of _ (by decide +kernel)) ggX5_sends_X5_give
theorem dX5_sends_0 : decode cX5_sends 0 = .ok (.aload_n 0, 1) := by decide +kernel
theorem dX5_sends_1 : decode cX5_sends 1 = .ok (.getfield 29, 3) := by decide +kernel
theorem dX5_sends_4 : decode cX5_sends 4 = .ok (.bipush 6, 2) := by decide +kernel
theorem dX5_sends_6 : decode cX5_sends 6 = .ok (.iaload, 1) := by decide +kernel
theorem dX5_sends_7 : decode cX5_sends 7 = .ok (.ifCond .ne 5, 3) := by decide +kernel
theorem dX5_sends_10 : decode cX5_sends 10 = .ok (.iconst 0, 1) := by decide +kernel
theorem dX5_sends_11 : decode cX5_sends 11 = .ok (.ireturn, 1) := by decide +kernel
theorem dX5_sends_12 : decode cX5_sends 12 = .ok (.aload_n 0, 1) := by decide +kernel
theorem dX5_sends_13 : decode cX5_sends 13 = .ok (.getfield 29, 3) := by decide +kernel
theorem dX5_sends_16 : decode cX5_sends 16 = .ok (.bipush 19, 2) := by decide +kernel
theorem dX5_sends_18 : decode cX5_sends 18 = .ok (.iaload, 1) := by decide +kernel
theorem dX5_sends_19 : decode cX5_sends 19 = .ok (.istore_n 1, 1) := by decide +kernel
theorem dX5_sends_20 : decode cX5_sends 20 = .ok (.aload_n 0, 1) := by decide +kernel
theorem dX5_sends_21 : decode cX5_sends 21 = .ok (.iload_n 1, 1) := by decide +kernel
theorem dX5_sends_22 : decode cX5_sends 22 = .ok (.invokevirtual 83, 3) := by decide +kernel
theorem dX5_sends_25 : decode cX5_sends 25 = .ok (.istore_n 2, 1) := by decide +kernel
theorem dX5_sends_26 : decode cX5_sends 26 = .ok (.iload_n 2, 1) := by decide +kernel
theorem dX5_sends_27 : decode cX5_sends 27 = .ok (.iconst (-1), 1) := by decide +kernel
theorem dX5_sends_28 : decode cX5_sends 28 = .ok (.if_icmp .ne 5, 3) := by decide +kernel
theorem dX5_sends_31 : decode cX5_sends 31 = .ok (.iconst 0, 1) := by decide +kernel
theorem dX5_sends_32 : decode cX5_sends 32 = .ok (.ireturn, 1) := by decide +kernel
theorem dX5_sends_33 : decode cX5_sends 33 = .ok (.aload_n 0, 1) := by decide +kernel
theorem dX5_sends_34 : decode cX5_sends 34 = .ok (.iconst 0, 1) := by decide +kernel
theorem dX5_sends_35 : decode cX5_sends 35 = .ok (.invokevirtual 86, 3) := by decide +kernel
theorem dX5_sends_38 : decode cX5_sends 38 = .ok (.aload_n 0, 1) := by decide +kernel
theorem dX5_sends_39 : decode cX5_sends 39 = .ok (.iload_n 2, 1) := by decide +kernel
theorem dX5_sends_40 : decode cX5_sends 40 = .ok (.iconst 1, 1) := by decide +kernel
theorem dX5_sends_41 : decode cX5_sends 41 = .ok (.iload_n 1, 1) := by decide +kernel
theorem dX5_sends_42 : decode cX5_sends 42 = .ok (.aload_n 0, 1) := by decide +kernel
theorem dX5_sends_43 : decode cX5_sends 43 = .ok (.iload_n 2, 1) := by decide +kernel
theorem dX5_sends_44 : decode cX5_sends 44 = .ok (.iload_n 1, 1) := by decide +kernel
theorem dX5_sends_45 : decode cX5_sends 45 = .ok (.invokevirtual 68, 3) := by decide +kernel
theorem dX5_sends_48 : decode cX5_sends 48 = .ok (.invokevirtual 71, 3) := by decide +kernel
theorem dX5_sends_51 : decode cX5_sends 51 = .ok (.iconst 1, 1) := by decide +kernel
theorem dX5_sends_52 : decode cX5_sends 52 = .ok (.ireturn, 1) := by decide +kernel
set_option maxRecDepth 20000 in
theorem ggX5_minuteOn_X5_hold : GoodIn wsX5_minuteOn wsX5_hold := goodIn_r _ [8, 2, 9, 10, 11, 12, 7, 13, 14, 15, 16, 17, 18, 19, 20, 58, 59, 60, 61, 62, 63, 64, 65, 66, 67, 68] (by decide +kernel) (by decide +kernel)
set_option maxRecDepth 20000 in
theorem gX5_minuteOn_X5_hold : GoodIn wsX5_minuteOn (wsV RX5 90 RX5 yX5_hold wsX5_hold) := goodIn_app (goodIn_of _ (by decide +kernel)) ggX5_minuteOn_X5_hold
set_option maxRecDepth 20000 in
theorem ggX5_minuteOn_X5_work : GoodIn wsX5_minuteOn wsX5_work := goodIn_r _ [24, 2, 25, 26, 27, 7, 28, 15, 29, 30, 31, 32, 33, 58, 59, 60, 61, 62, 63, 64, 65, 66, 67, 68] (by decide +kernel) (by decide +kernel)
set_option maxRecDepth 20000 in
theorem gX5_minuteOn_X5_work : GoodIn wsX5_minuteOn (wsV RX5 93 RX5 yX5_work wsX5_work) := goodIn_app (goodIn_of _ (by decide +kernel)) ggX5_minuteOn_X5_work
set_option maxRecDepth 20000 in
theorem ggX5_minuteOn_X5_sends : GoodIn wsX5_minuteOn wsX5_sends := goodIn_r _ [37, 2, 38, 39, 40, 7, 41, 3, 42, 43, 44, 45, 15, 46, 47, 48, 49, 50, 51, 52, 53, 54, 55, 56, 57, 30, 31, 32, 33, 58, 59, 60, 61, 62, 63, 64, 65, 66, 67, 68] (by decide +kernel) (by decide +kernel)
set_option maxRecDepth 20000 in
theorem gX5_minuteOn_X5_sends : GoodIn wsX5_minuteOn (wsV RX5 96 RX5 yX5_sends wsX5_sends) := goodIn_app (goodIn_of _ (by decide +kernel)) ggX5_minuteOn_X5_sends
theorem dX5_minuteOn_0 : decode cX5_minuteOn 0 = .ok (.iconst 0, 1) := by decide +kernel
theorem dX5_minuteOn_1 : decode cX5_minuteOn 1 = .ok (.istore_n 1, 1) := by decide +kernel
theorem dX5_minuteOn_2 : decode cX5_minuteOn 2 = .ok (.iload_n 1, 1) := by decide +kernel
theorem dX5_minuteOn_3 : decode cX5_minuteOn 3 = .ok (.aload_n 0, 1) := by decide +kernel
theorem dX5_minuteOn_4 : decode cX5_minuteOn 4 = .ok (.getfield 39, 3) := by decide +kernel
theorem dX5_minuteOn_7 : decode cX5_minuteOn 7 = .ok (.if_icmp .ge 27, 3) := by decide +kernel
theorem dX5_minuteOn_10 : decode cX5_minuteOn 10 = .ok (.aload_n 0, 1) := by decide +kernel
theorem dX5_minuteOn_11 : decode cX5_minuteOn 11 = .ok (.getfield 29, 3) := by decide +kernel
theorem dX5_minuteOn_14 : decode cX5_minuteOn 14 = .ok (.bipush 7, 2) := by decide +kernel
theorem dX5_minuteOn_16 : decode cX5_minuteOn 16 = .ok (.iload_n 1, 1) := by decide +kernel
theorem dX5_minuteOn_17 : decode cX5_minuteOn 17 = .ok (.iadd, 1) := by decide +kernel
theorem dX5_minuteOn_18 : decode cX5_minuteOn 18 = .ok (.iaload, 1) := by decide +kernel
theorem dX5_minuteOn_19 : decode cX5_minuteOn 19 = .ok (.iconst (-1), 1) := by decide +kernel
theorem dX5_minuteOn_20 : decode cX5_minuteOn 20 = .ok (.if_icmp .eq 8, 3) := by decide +kernel
theorem dX5_minuteOn_23 : decode cX5_minuteOn 23 = .ok (.aload_n 0, 1) := by decide +kernel
theorem dX5_minuteOn_24 : decode cX5_minuteOn 24 = .ok (.iload_n 1, 1) := by decide +kernel
theorem dX5_minuteOn_25 : decode cX5_minuteOn 25 = .ok (.invokevirtual 90, 3) := by decide +kernel
theorem dX5_minuteOn_28 : decode cX5_minuteOn 28 = .ok (.iinc 1 1, 3) := by decide +kernel
theorem dX5_minuteOn_31 : decode cX5_minuteOn 31 = .ok (.goto (-29), 3) := by decide +kernel
theorem dX5_minuteOn_34 : decode cX5_minuteOn 34 = .ok (.iconst 0, 1) := by decide +kernel
theorem dX5_minuteOn_35 : decode cX5_minuteOn 35 = .ok (.istore_n 1, 1) := by decide +kernel
theorem dX5_minuteOn_36 : decode cX5_minuteOn 36 = .ok (.iload_n 1, 1) := by decide +kernel
theorem dX5_minuteOn_37 : decode cX5_minuteOn 37 = .ok (.aload_n 0, 1) := by decide +kernel
theorem dX5_minuteOn_38 : decode cX5_minuteOn 38 = .ok (.getfield 46, 3) := by decide +kernel
theorem dX5_minuteOn_41 : decode cX5_minuteOn 41 = .ok (.if_icmp .ge 26, 3) := by decide +kernel
theorem dX5_minuteOn_44 : decode cX5_minuteOn 44 = .ok (.aload_n 0, 1) := by decide +kernel
theorem dX5_minuteOn_45 : decode cX5_minuteOn 45 = .ok (.getfield 29, 3) := by decide +kernel
theorem dX5_minuteOn_48 : decode cX5_minuteOn 48 = .ok (.bipush 37, 2) := by decide +kernel
theorem dX5_minuteOn_50 : decode cX5_minuteOn 50 = .ok (.iload_n 1, 1) := by decide +kernel
theorem dX5_minuteOn_51 : decode cX5_minuteOn 51 = .ok (.iadd, 1) := by decide +kernel
theorem dX5_minuteOn_52 : decode cX5_minuteOn 52 = .ok (.iaload, 1) := by decide +kernel
theorem dX5_minuteOn_53 : decode cX5_minuteOn 53 = .ok (.ifCond .eq 8, 3) := by decide +kernel
theorem dX5_minuteOn_56 : decode cX5_minuteOn 56 = .ok (.aload_n 0, 1) := by decide +kernel
theorem dX5_minuteOn_57 : decode cX5_minuteOn 57 = .ok (.iload_n 1, 1) := by decide +kernel
theorem dX5_minuteOn_58 : decode cX5_minuteOn 58 = .ok (.invokevirtual 93, 3) := by decide +kernel
theorem dX5_minuteOn_61 : decode cX5_minuteOn 61 = .ok (.iinc 1 1, 3) := by decide +kernel
theorem dX5_minuteOn_64 : decode cX5_minuteOn 64 = .ok (.goto (-28), 3) := by decide +kernel
theorem dX5_minuteOn_67 : decode cX5_minuteOn 67 = .ok (.iconst 1, 1) := by decide +kernel
theorem dX5_minuteOn_68 : decode cX5_minuteOn 68 = .ok (.istore_n 1, 1) := by decide +kernel
theorem dX5_minuteOn_69 : decode cX5_minuteOn 69 = .ok (.iload_n 1, 1) := by decide +kernel
theorem dX5_minuteOn_70 : decode cX5_minuteOn 70 = .ok (.ifCond .eq 11, 3) := by decide +kernel
theorem dX5_minuteOn_73 : decode cX5_minuteOn 73 = .ok (.aload_n 0, 1) := by decide +kernel
theorem dX5_minuteOn_74 : decode cX5_minuteOn 74 = .ok (.invokevirtual 96, 3) := by decide +kernel
theorem dX5_minuteOn_77 : decode cX5_minuteOn 77 = .ok (.istore_n 1, 1) := by decide +kernel
theorem dX5_minuteOn_78 : decode cX5_minuteOn 78 = .ok (.goto (-9), 3) := by decide +kernel
theorem dX5_minuteOn_81 : decode cX5_minuteOn 81 = .ok (.aload_n 0, 1) := by decide +kernel
theorem dX5_minuteOn_82 : decode cX5_minuteOn 82 = .ok (.getfield 29, 3) := by decide +kernel
theorem dX5_minuteOn_85 : decode cX5_minuteOn 85 = .ok (.iconst 0, 1) := by decide +kernel
theorem dX5_minuteOn_86 : decode cX5_minuteOn 86 = .ok (.dup2, 1) := by decide +kernel
theorem dX5_minuteOn_87 : decode cX5_minuteOn 87 = .ok (.iaload, 1) := by decide +kernel
theorem dX5_minuteOn_88 : decode cX5_minuteOn 88 = .ok (.iconst 1, 1) := by decide +kernel
theorem dX5_minuteOn_89 : decode cX5_minuteOn 89 = .ok (.iadd, 1) := by decide +kernel
theorem dX5_minuteOn_90 : decode cX5_minuteOn 90 = .ok (.iastore, 1) := by decide +kernel
theorem dX5_minuteOn_91 : decode cX5_minuteOn 91 = .ok (.return_, 1) := by decide +kernel
set_option maxRecDepth 20000 in
theorem ggX5_minutesOn_X5_minuteOn : GoodIn wsX5_minutesOn wsX5_minuteOn := goodIn_r _ [5, 6, 7, 8, 9, 10, 11, 4, 12, 13, 14, 15, 16, 17, 18, 19, 20, 21, 22, 23, 24, 25, 26, 27, 28, 29, 30, 31, 32, 33, 34, 35, 36, 37, 38, 39, 40, 41, 42, 43, 44, 45, 46, 47, 48, 49, 50, 51, 52, 53, 54, 55, 56, 57, 58, 59, 60, 61, 62, 63, 64, 65, 66, 67, 68, 69, 70, 71, 72] (by decide +kernel) (by decide +kernel)
set_option maxRecDepth 20000 in
theorem gX5_minutesOn_X5_minuteOn : GoodIn wsX5_minutesOn (wsV RX5 100 RX5 yX5_minuteOn wsX5_minuteOn) := goodIn_app (goodIn_of _ (by decide +kernel)) ggX5_minutesOn_X5_minuteOn
theorem dX5_minutesOn_0 : decode cX5_minutesOn 0 = .ok (.iconst 0, 1) := by decide +kernel
theorem dX5_minutesOn_1 : decode cX5_minutesOn 1 = .ok (.istore_n 2, 1) := by decide +kernel
theorem dX5_minutesOn_2 : decode cX5_minutesOn 2 = .ok (.iload_n 2, 1) := by decide +kernel
theorem dX5_minutesOn_3 : decode cX5_minutesOn 3 = .ok (.iload_n 1, 1) := by decide +kernel
theorem dX5_minutesOn_4 : decode cX5_minutesOn 4 = .ok (.if_icmp .ge 13, 3) := by decide +kernel
theorem dX5_minutesOn_7 : decode cX5_minutesOn 7 = .ok (.aload_n 0, 1) := by decide +kernel
theorem dX5_minutesOn_8 : decode cX5_minutesOn 8 = .ok (.invokevirtual 100, 3) := by decide +kernel
theorem dX5_minutesOn_11 : decode cX5_minutesOn 11 = .ok (.iinc 2 1, 3) := by decide +kernel
theorem dX5_minutesOn_14 : decode cX5_minutesOn 14 = .ok (.goto (-12), 3) := by decide +kernel
theorem dX5_minutesOn_17 : decode cX5_minutesOn 17 = .ok (.return_, 1) := by decide +kernel
set_option maxRecDepth 20000 in
theorem ggX5_addRoom_X5_isIn : GoodIn wsX5_addRoom wsX5_isIn := goodIn_r _ [11] (by decide +kernel) (by decide +kernel)
set_option maxRecDepth 20000 in
theorem gX5_addRoom_X5_isIn : GoodIn wsX5_addRoom (va_wsS RX5 42 yX5_isIn wsX5_isIn) := goodIn_app (goodIn_of _ (by decide +kernel)) ggX5_addRoom_X5_isIn
set_option maxRecDepth 20000 in
theorem ggX5_addRoom_X5_no : GoodIn wsX5_addRoom wsX5_no := goodIn_r _ [15, 1, 16, 17, 18, 19, 20, 21, 22, 23, 24, 25, 26] (by decide +kernel) (by decide +kernel)
set_option maxRecDepth 20000 in
theorem gX5_addRoom_X5_no : GoodIn wsX5_addRoom (wsV RX5 103 RX5 yX5_no wsX5_no) := goodIn_app (goodIn_of _ (by decide +kernel)) ggX5_addRoom_X5_no
theorem dX5_addRoom_0 : decode cX5_addRoom 0 = .ok (.aload_n 0, 1) := by decide +kernel
theorem dX5_addRoom_1 : decode cX5_addRoom 1 = .ok (.iconst 0, 1) := by decide +kernel
theorem dX5_addRoom_2 : decode cX5_addRoom 2 = .ok (.putfield 35, 3) := by decide +kernel
theorem dX5_addRoom_5 : decode cX5_addRoom 5 = .ok (.iload_n 1, 1) := by decide +kernel
theorem dX5_addRoom_6 : decode cX5_addRoom 6 = .ok (.iconst 0, 1) := by decide +kernel
theorem dX5_addRoom_7 : decode cX5_addRoom 7 = .ok (.iconst 5, 1) := by decide +kernel
theorem dX5_addRoom_8 : decode cX5_addRoom 8 = .ok (.invokestatic 42, 3) := by decide +kernel
theorem dX5_addRoom_11 : decode cX5_addRoom 11 = .ok (.ifCond .eq 23, 3) := by decide +kernel
theorem dX5_addRoom_14 : decode cX5_addRoom 14 = .ok (.iload_n 2, 1) := by decide +kernel
theorem dX5_addRoom_15 : decode cX5_addRoom 15 = .ok (.iconst 1, 1) := by decide +kernel
theorem dX5_addRoom_16 : decode cX5_addRoom 16 = .ok (.bipush 9, 2) := by decide +kernel
theorem dX5_addRoom_18 : decode cX5_addRoom 18 = .ok (.invokestatic 42, 3) := by decide +kernel
theorem dX5_addRoom_21 : decode cX5_addRoom 21 = .ok (.ifCond .eq 13, 3) := by decide +kernel
theorem dX5_addRoom_24 : decode cX5_addRoom 24 = .ok (.iload_n 3, 1) := by decide +kernel
theorem dX5_addRoom_25 : decode cX5_addRoom 25 = .ok (.iconst 1, 1) := by decide +kernel
theorem dX5_addRoom_26 : decode cX5_addRoom 26 = .ok (.bipush 9, 2) := by decide +kernel
theorem dX5_addRoom_28 : decode cX5_addRoom 28 = .ok (.invokestatic 42, 3) := by decide +kernel
theorem dX5_addRoom_31 : decode cX5_addRoom 31 = .ok (.ifCond .ne 9, 3) := by decide +kernel
theorem dX5_addRoom_34 : decode cX5_addRoom 34 = .ok (.aload_n 0, 1) := by decide +kernel
theorem dX5_addRoom_35 : decode cX5_addRoom 35 = .ok (.iconst 1, 1) := by decide +kernel
theorem dX5_addRoom_36 : decode cX5_addRoom 36 = .ok (.invokevirtual 103, 3) := by decide +kernel
theorem dX5_addRoom_39 : decode cX5_addRoom 39 = .ok (.ireturn, 1) := by decide +kernel
theorem dX5_addRoom_40 : decode cX5_addRoom 40 = .ok (.aload_n 0, 1) := by decide +kernel
theorem dX5_addRoom_41 : decode cX5_addRoom 41 = .ok (.getfield 39, 3) := by decide +kernel
theorem dX5_addRoom_44 : decode cX5_addRoom 44 = .ok (.bipush 12, 2) := by decide +kernel
theorem dX5_addRoom_46 : decode cX5_addRoom 46 = .ok (.if_icmp .ne 9, 3) := by decide +kernel
theorem dX5_addRoom_49 : decode cX5_addRoom 49 = .ok (.aload_n 0, 1) := by decide +kernel
theorem dX5_addRoom_50 : decode cX5_addRoom 50 = .ok (.iconst 2, 1) := by decide +kernel
theorem dX5_addRoom_51 : decode cX5_addRoom 51 = .ok (.invokevirtual 103, 3) := by decide +kernel
theorem dX5_addRoom_54 : decode cX5_addRoom 54 = .ok (.ireturn, 1) := by decide +kernel
theorem dX5_addRoom_55 : decode cX5_addRoom 55 = .ok (.aload_n 0, 1) := by decide +kernel
theorem dX5_addRoom_56 : decode cX5_addRoom 56 = .ok (.getfield 9, 3) := by decide +kernel
theorem dX5_addRoom_59 : decode cX5_addRoom 59 = .ok (.aload_n 0, 1) := by decide +kernel
theorem dX5_addRoom_60 : decode cX5_addRoom 60 = .ok (.getfield 39, 3) := by decide +kernel
theorem dX5_addRoom_63 : decode cX5_addRoom 63 = .ok (.iload_n 1, 1) := by decide +kernel
theorem dX5_addRoom_64 : decode cX5_addRoom 64 = .ok (.iastore, 1) := by decide +kernel
theorem dX5_addRoom_65 : decode cX5_addRoom 65 = .ok (.aload_n 0, 1) := by decide +kernel
theorem dX5_addRoom_66 : decode cX5_addRoom 66 = .ok (.getfield 13, 3) := by decide +kernel
theorem dX5_addRoom_69 : decode cX5_addRoom 69 = .ok (.aload_n 0, 1) := by decide +kernel
theorem dX5_addRoom_70 : decode cX5_addRoom 70 = .ok (.getfield 39, 3) := by decide +kernel
theorem dX5_addRoom_73 : decode cX5_addRoom 73 = .ok (.iload_n 2, 1) := by decide +kernel
theorem dX5_addRoom_74 : decode cX5_addRoom 74 = .ok (.iastore, 1) := by decide +kernel
theorem dX5_addRoom_75 : decode cX5_addRoom 75 = .ok (.aload_n 0, 1) := by decide +kernel
theorem dX5_addRoom_76 : decode cX5_addRoom 76 = .ok (.getfield 16, 3) := by decide +kernel
theorem dX5_addRoom_79 : decode cX5_addRoom 79 = .ok (.aload_n 0, 1) := by decide +kernel
theorem dX5_addRoom_80 : decode cX5_addRoom 80 = .ok (.getfield 39, 3) := by decide +kernel
theorem dX5_addRoom_83 : decode cX5_addRoom 83 = .ok (.iload_n 3, 1) := by decide +kernel
theorem dX5_addRoom_84 : decode cX5_addRoom 84 = .ok (.iastore, 1) := by decide +kernel
theorem dX5_addRoom_85 : decode cX5_addRoom 85 = .ok (.aload_n 0, 1) := by decide +kernel
theorem dX5_addRoom_86 : decode cX5_addRoom 86 = .ok (.getfield 19, 3) := by decide +kernel
theorem dX5_addRoom_89 : decode cX5_addRoom 89 = .ok (.aload_n 0, 1) := by decide +kernel
theorem dX5_addRoom_90 : decode cX5_addRoom 90 = .ok (.getfield 39, 3) := by decide +kernel
theorem dX5_addRoom_93 : decode cX5_addRoom 93 = .ok (.aload_n 0, 1) := by decide +kernel
theorem dX5_addRoom_94 : decode cX5_addRoom 94 = .ok (.getfield 39, 3) := by decide +kernel
theorem dX5_addRoom_97 : decode cX5_addRoom 97 = .ok (.iastore, 1) := by decide +kernel
theorem dX5_addRoom_98 : decode cX5_addRoom 98 = .ok (.aload_n 0, 1) := by decide +kernel
theorem dX5_addRoom_99 : decode cX5_addRoom 99 = .ok (.getfield 29, 3) := by decide +kernel
theorem dX5_addRoom_102 : decode cX5_addRoom 102 = .ok (.bipush 7, 2) := by decide +kernel
theorem dX5_addRoom_104 : decode cX5_addRoom 104 = .ok (.aload_n 0, 1) := by decide +kernel
theorem dX5_addRoom_105 : decode cX5_addRoom 105 = .ok (.getfield 39, 3) := by decide +kernel
theorem dX5_addRoom_108 : decode cX5_addRoom 108 = .ok (.iadd, 1) := by decide +kernel
theorem dX5_addRoom_109 : decode cX5_addRoom 109 = .ok (.iconst (-1), 1) := by decide +kernel
theorem dX5_addRoom_110 : decode cX5_addRoom 110 = .ok (.iastore, 1) := by decide +kernel
theorem dX5_addRoom_111 : decode cX5_addRoom 111 = .ok (.aload_n 0, 1) := by decide +kernel
theorem dX5_addRoom_112 : decode cX5_addRoom 112 = .ok (.dup, 1) := by decide +kernel
theorem dX5_addRoom_113 : decode cX5_addRoom 113 = .ok (.getfield 39, 3) := by decide +kernel
theorem dX5_addRoom_116 : decode cX5_addRoom 116 = .ok (.iconst 1, 1) := by decide +kernel
theorem dX5_addRoom_117 : decode cX5_addRoom 117 = .ok (.iadd, 1) := by decide +kernel
theorem dX5_addRoom_118 : decode cX5_addRoom 118 = .ok (.putfield 39, 3) := by decide +kernel
theorem dX5_addRoom_121 : decode cX5_addRoom 121 = .ok (.aload_n 0, 1) := by decide +kernel
theorem dX5_addRoom_122 : decode cX5_addRoom 122 = .ok (.getfield 39, 3) := by decide +kernel
theorem dX5_addRoom_125 : decode cX5_addRoom 125 = .ok (.iconst 1, 1) := by decide +kernel
theorem dX5_addRoom_126 : decode cX5_addRoom 126 = .ok (.isub, 1) := by decide +kernel
theorem dX5_addRoom_127 : decode cX5_addRoom 127 = .ok (.ireturn, 1) := by decide +kernel
set_option maxRecDepth 20000 in
theorem ggX5_addServant_X5_isIn : GoodIn wsX5_addServant wsX5_isIn := goodIn_r _ [7] (by decide +kernel) (by decide +kernel)
set_option maxRecDepth 20000 in
theorem gX5_addServant_X5_isIn : GoodIn wsX5_addServant (va_wsS RX5 42 yX5_isIn wsX5_isIn) := goodIn_app (goodIn_of _ (by decide +kernel)) ggX5_addServant_X5_isIn
set_option maxRecDepth 20000 in
theorem ggX5_addServant_X5_no : GoodIn wsX5_addServant wsX5_no := goodIn_r _ [11, 1, 12, 13, 14, 15, 16, 17, 18, 19, 20, 21, 22] (by decide +kernel) (by decide +kernel)
set_option maxRecDepth 20000 in
theorem gX5_addServant_X5_no : GoodIn wsX5_addServant (wsV RX5 103 RX5 yX5_no wsX5_no) := goodIn_app (goodIn_of _ (by decide +kernel)) ggX5_addServant_X5_no
theorem dX5_addServant_0 : decode cX5_addServant 0 = .ok (.aload_n 0, 1) := by decide +kernel
theorem dX5_addServant_1 : decode cX5_addServant 1 = .ok (.iconst 0, 1) := by decide +kernel
theorem dX5_addServant_2 : decode cX5_addServant 2 = .ok (.putfield 35, 3) := by decide +kernel
theorem dX5_addServant_5 : decode cX5_addServant 5 = .ok (.iload_n 1, 1) := by decide +kernel
theorem dX5_addServant_6 : decode cX5_addServant 6 = .ok (.iconst 1, 1) := by decide +kernel
theorem dX5_addServant_7 : decode cX5_addServant 7 = .ok (.iconst 4, 1) := by decide +kernel
theorem dX5_addServant_8 : decode cX5_addServant 8 = .ok (.invokestatic 42, 3) := by decide +kernel
theorem dX5_addServant_11 : decode cX5_addServant 11 = .ok (.ifCond .ne 9, 3) := by decide +kernel
theorem dX5_addServant_14 : decode cX5_addServant 14 = .ok (.aload_n 0, 1) := by decide +kernel
theorem dX5_addServant_15 : decode cX5_addServant 15 = .ok (.iconst 1, 1) := by decide +kernel
theorem dX5_addServant_16 : decode cX5_addServant 16 = .ok (.invokevirtual 103, 3) := by decide +kernel
theorem dX5_addServant_19 : decode cX5_addServant 19 = .ok (.ireturn, 1) := by decide +kernel
theorem dX5_addServant_20 : decode cX5_addServant 20 = .ok (.aload_n 0, 1) := by decide +kernel
theorem dX5_addServant_21 : decode cX5_addServant 21 = .ok (.getfield 46, 3) := by decide +kernel
theorem dX5_addServant_24 : decode cX5_addServant 24 = .ok (.bipush 6, 2) := by decide +kernel
theorem dX5_addServant_26 : decode cX5_addServant 26 = .ok (.if_icmp .ne 9, 3) := by decide +kernel
theorem dX5_addServant_29 : decode cX5_addServant 29 = .ok (.aload_n 0, 1) := by decide +kernel
theorem dX5_addServant_30 : decode cX5_addServant 30 = .ok (.iconst 2, 1) := by decide +kernel
theorem dX5_addServant_31 : decode cX5_addServant 31 = .ok (.invokevirtual 103, 3) := by decide +kernel
theorem dX5_addServant_34 : decode cX5_addServant 34 = .ok (.ireturn, 1) := by decide +kernel
theorem dX5_addServant_35 : decode cX5_addServant 35 = .ok (.aload_n 0, 1) := by decide +kernel
theorem dX5_addServant_36 : decode cX5_addServant 36 = .ok (.getfield 26, 3) := by decide +kernel
theorem dX5_addServant_39 : decode cX5_addServant 39 = .ok (.aload_n 0, 1) := by decide +kernel
theorem dX5_addServant_40 : decode cX5_addServant 40 = .ok (.getfield 46, 3) := by decide +kernel
theorem dX5_addServant_43 : decode cX5_addServant 43 = .ok (.iload_n 1, 1) := by decide +kernel
theorem dX5_addServant_44 : decode cX5_addServant 44 = .ok (.iastore, 1) := by decide +kernel
theorem dX5_addServant_45 : decode cX5_addServant 45 = .ok (.aload_n 0, 1) := by decide +kernel
theorem dX5_addServant_46 : decode cX5_addServant 46 = .ok (.dup, 1) := by decide +kernel
theorem dX5_addServant_47 : decode cX5_addServant 47 = .ok (.getfield 46, 3) := by decide +kernel
theorem dX5_addServant_50 : decode cX5_addServant 50 = .ok (.iconst 1, 1) := by decide +kernel
theorem dX5_addServant_51 : decode cX5_addServant 51 = .ok (.iadd, 1) := by decide +kernel
theorem dX5_addServant_52 : decode cX5_addServant 52 = .ok (.putfield 46, 3) := by decide +kernel
theorem dX5_addServant_55 : decode cX5_addServant 55 = .ok (.aload_n 0, 1) := by decide +kernel
theorem dX5_addServant_56 : decode cX5_addServant 56 = .ok (.getfield 46, 3) := by decide +kernel
theorem dX5_addServant_59 : decode cX5_addServant 59 = .ok (.iconst 1, 1) := by decide +kernel
theorem dX5_addServant_60 : decode cX5_addServant 60 = .ok (.isub, 1) := by decide +kernel
theorem dX5_addServant_61 : decode cX5_addServant 61 = .ok (.ireturn, 1) := by decide +kernel
set_option maxRecDepth 20000 in
theorem ggX5_ring_X5_isRoom : GoodIn wsX5_ring wsX5_isRoom := goodIn_r _ [6, 7, 8, 9, 5, 10, 27, 28, 29, 30, 31, 32, 33, 34, 35, 36, 37] (by decide +kernel) (by decide +kernel)
set_option maxRecDepth 20000 in
theorem gX5_ring_X5_isRoom : GoodIn wsX5_ring (wsV RX5 106 RX5 yX5_isRoom wsX5_isRoom) := goodIn_app (goodIn_of _ (by decide +kernel)) ggX5_ring_X5_isRoom
set_option maxRecDepth 20000 in
theorem ggX5_ring_X5_isKnown : GoodIn wsX5_ring wsX5_isKnown := goodIn_r _ [14, 15, 27, 28, 29, 30, 31, 32, 33, 34, 35, 36, 37] (by decide +kernel) (by decide +kernel)
set_option maxRecDepth 20000 in
theorem gX5_ring_X5_isKnown : GoodIn wsX5_ring (wsV RX5 109 RX5 yX5_isKnown wsX5_isKnown) := goodIn_app (goodIn_of _ (by decide +kernel)) ggX5_ring_X5_isKnown
set_option maxRecDepth 20000 in
theorem ggX5_ring_X5_rings : GoodIn wsX5_ring wsX5_rings := goodIn_r _ [19, 20, 1, 21, 22, 23, 24, 25, 5, 26, 27, 28, 29, 30, 31, 32, 33, 34, 35, 36, 37] (by decide +kernel) (by decide +kernel)
set_option maxRecDepth 20000 in
theorem gX5_ring_X5_rings : GoodIn wsX5_ring (wsV RX5 75 RX5 yX5_rings wsX5_rings) := goodIn_app (goodIn_of _ (by decide +kernel)) ggX5_ring_X5_rings
theorem dX5_ring_0 : decode cX5_ring 0 = .ok (.aload_n 0, 1) := by decide +kernel
theorem dX5_ring_1 : decode cX5_ring 1 = .ok (.aload_n 0, 1) := by decide +kernel
theorem dX5_ring_2 : decode cX5_ring 2 = .ok (.iload_n 1, 1) := by decide +kernel
theorem dX5_ring_3 : decode cX5_ring 3 = .ok (.invokevirtual 106, 3) := by decide +kernel
theorem dX5_ring_6 : decode cX5_ring 6 = .ok (.invokevirtual 109, 3) := by decide +kernel
theorem dX5_ring_9 : decode cX5_ring 9 = .ok (.ifCond .ne 5, 3) := by decide +kernel
theorem dX5_ring_12 : decode cX5_ring 12 = .ok (.iconst 0, 1) := by decide +kernel
theorem dX5_ring_13 : decode cX5_ring 13 = .ok (.ireturn, 1) := by decide +kernel
theorem dX5_ring_14 : decode cX5_ring 14 = .ok (.aload_n 0, 1) := by decide +kernel
theorem dX5_ring_15 : decode cX5_ring 15 = .ok (.getfield 29, 3) := by decide +kernel
theorem dX5_ring_18 : decode cX5_ring 18 = .ok (.bipush 7, 2) := by decide +kernel
theorem dX5_ring_20 : decode cX5_ring 20 = .ok (.iload_n 1, 1) := by decide +kernel
theorem dX5_ring_21 : decode cX5_ring 21 = .ok (.iadd, 1) := by decide +kernel
theorem dX5_ring_22 : decode cX5_ring 22 = .ok (.iaload, 1) := by decide +kernel
theorem dX5_ring_23 : decode cX5_ring 23 = .ok (.iconst (-1), 1) := by decide +kernel
theorem dX5_ring_24 : decode cX5_ring 24 = .ok (.if_icmp .ne 13, 3) := by decide +kernel
theorem dX5_ring_27 : decode cX5_ring 27 = .ok (.aload_n 0, 1) := by decide +kernel
theorem dX5_ring_28 : decode cX5_ring 28 = .ok (.getfield 29, 3) := by decide +kernel
theorem dX5_ring_31 : decode cX5_ring 31 = .ok (.bipush 7, 2) := by decide +kernel
theorem dX5_ring_33 : decode cX5_ring 33 = .ok (.iload_n 1, 1) := by decide +kernel
theorem dX5_ring_34 : decode cX5_ring 34 = .ok (.iadd, 1) := by decide +kernel
theorem dX5_ring_35 : decode cX5_ring 35 = .ok (.iconst 0, 1) := by decide +kernel
theorem dX5_ring_36 : decode cX5_ring 36 = .ok (.iastore, 1) := by decide +kernel
theorem dX5_ring_37 : decode cX5_ring 37 = .ok (.aload_n 0, 1) := by decide +kernel
theorem dX5_ring_38 : decode cX5_ring 38 = .ok (.iload_n 1, 1) := by decide +kernel
theorem dX5_ring_39 : decode cX5_ring 39 = .ok (.invokevirtual 75, 3) := by decide +kernel
theorem dX5_ring_42 : decode cX5_ring 42 = .ok (.ireturn, 1) := by decide +kernel
theorem dX5_swap_0 : decode cX5_swap 0 = .ok (.aload_n 0, 1) := by decide +kernel
theorem dX5_swap_1 : decode cX5_swap 1 = .ok (.getfield 19, 3) := by decide +kernel
theorem dX5_swap_4 : decode cX5_swap 4 = .ok (.iload_n 1, 1) := by decide +kernel
theorem dX5_swap_5 : decode cX5_swap 5 = .ok (.iaload, 1) := by decide +kernel
theorem dX5_swap_6 : decode cX5_swap 6 = .ok (.istore_n 3, 1) := by decide +kernel
theorem dX5_swap_7 : decode cX5_swap 7 = .ok (.aload_n 0, 1) := by decide +kernel
theorem dX5_swap_8 : decode cX5_swap 8 = .ok (.getfield 19, 3) := by decide +kernel
theorem dX5_swap_11 : decode cX5_swap 11 = .ok (.iload_n 1, 1) := by decide +kernel
theorem dX5_swap_12 : decode cX5_swap 12 = .ok (.aload_n 0, 1) := by decide +kernel
theorem dX5_swap_13 : decode cX5_swap 13 = .ok (.getfield 19, 3) := by decide +kernel
theorem dX5_swap_16 : decode cX5_swap 16 = .ok (.iload_n 2, 1) := by decide +kernel
theorem dX5_swap_17 : decode cX5_swap 17 = .ok (.iaload, 1) := by decide +kernel
theorem dX5_swap_18 : decode cX5_swap 18 = .ok (.iastore, 1) := by decide +kernel
theorem dX5_swap_19 : decode cX5_swap 19 = .ok (.aload_n 0, 1) := by decide +kernel
theorem dX5_swap_20 : decode cX5_swap 20 = .ok (.getfield 19, 3) := by decide +kernel
theorem dX5_swap_23 : decode cX5_swap 23 = .ok (.iload_n 2, 1) := by decide +kernel
theorem dX5_swap_24 : decode cX5_swap 24 = .ok (.iload_n 3, 1) := by decide +kernel
theorem dX5_swap_25 : decode cX5_swap 25 = .ok (.iastore, 1) := by decide +kernel
theorem dX5_swap_26 : decode cX5_swap 26 = .ok (.return_, 1) := by decide +kernel
set_option maxRecDepth 20000 in
theorem ggX5_cross_X5_isRoom : GoodIn wsX5_cross wsX5_isRoom := goodIn_r _ [6, 7, 8, 9, 5, 10, 24, 25, 26, 27, 28, 29, 30, 31, 32, 33, 34] (by decide +kernel) (by decide +kernel)
set_option maxRecDepth 20000 in
theorem gX5_cross_X5_isRoom : GoodIn wsX5_cross (wsV RX5 106 RX5 yX5_isRoom wsX5_isRoom) := goodIn_app (goodIn_of _ (by decide +kernel)) ggX5_cross_X5_isRoom
set_option maxRecDepth 20000 in
theorem ggX5_cross_X5_isKnown : GoodIn wsX5_cross wsX5_isKnown := goodIn_r _ [14, 15, 24, 25, 26, 27, 28, 29, 30, 31, 32, 33, 34] (by decide +kernel) (by decide +kernel)
set_option maxRecDepth 20000 in
theorem gX5_cross_X5_isKnown : GoodIn wsX5_cross (wsV RX5 109 RX5 yX5_isKnown wsX5_isKnown) := goodIn_app (goodIn_of _ (by decide +kernel)) ggX5_cross_X5_isKnown
set_option maxRecDepth 20000 in
theorem ggX5_cross_X5_no : GoodIn wsX5_cross wsX5_no := goodIn_r _ [19, 15, 24, 25, 26, 27, 28, 29, 30, 31, 32, 33, 34] (by decide +kernel) (by decide +kernel)
set_option maxRecDepth 20000 in
theorem gX5_cross_X5_no : GoodIn wsX5_cross (wsV RX5 103 RX5 yX5_no wsX5_no) := goodIn_app (goodIn_of _ (by decide +kernel)) ggX5_cross_X5_no
set_option maxRecDepth 20000 in
theorem ggX5_cross_X5_swap : GoodIn wsX5_cross wsX5_swap := goodIn_r _ [23, 1, 24, 25, 26, 27, 28, 29, 30, 31, 32, 33, 34] (by decide +kernel) (by decide +kernel)
set_option maxRecDepth 20000 in
theorem gX5_cross_X5_swap : GoodIn wsX5_cross (wsV RX5 113 RX5 yX5_swap wsX5_swap) := goodIn_app (goodIn_of _ (by decide +kernel)) ggX5_cross_X5_swap
theorem dX5_cross_0 : decode cX5_cross 0 = .ok (.aload_n 0, 1) := by decide +kernel
theorem dX5_cross_1 : decode cX5_cross 1 = .ok (.aload_n 0, 1) := by decide +kernel
theorem dX5_cross_2 : decode cX5_cross 2 = .ok (.iload_n 1, 1) := by decide +kernel
theorem dX5_cross_3 : decode cX5_cross 3 = .ok (.invokevirtual 106, 3) := by decide +kernel
theorem dX5_cross_6 : decode cX5_cross 6 = .ok (.ifCond .eq 15, 3) := by decide +kernel
theorem dX5_cross_9 : decode cX5_cross 9 = .ok (.aload_n 0, 1) := by decide +kernel
theorem dX5_cross_10 : decode cX5_cross 10 = .ok (.iload_n 2, 1) := by decide +kernel
theorem dX5_cross_11 : decode cX5_cross 11 = .ok (.invokevirtual 106, 3) := by decide +kernel
theorem dX5_cross_14 : decode cX5_cross 14 = .ok (.ifCond .eq 7, 3) := by decide +kernel
theorem dX5_cross_17 : decode cX5_cross 17 = .ok (.iconst 1, 1) := by decide +kernel
theorem dX5_cross_18 : decode cX5_cross 18 = .ok (.goto 4, 3) := by decide +kernel
theorem dX5_cross_21 : decode cX5_cross 21 = .ok (.iconst 0, 1) := by decide +kernel
theorem dX5_cross_22 : decode cX5_cross 22 = .ok (.invokevirtual 109, 3) := by decide +kernel
theorem dX5_cross_25 : decode cX5_cross 25 = .ok (.ifCond .ne 5, 3) := by decide +kernel
theorem dX5_cross_28 : decode cX5_cross 28 = .ok (.iconst 0, 1) := by decide +kernel
theorem dX5_cross_29 : decode cX5_cross 29 = .ok (.ireturn, 1) := by decide +kernel
theorem dX5_cross_30 : decode cX5_cross 30 = .ok (.iload_n 1, 1) := by decide +kernel
theorem dX5_cross_31 : decode cX5_cross 31 = .ok (.iload_n 2, 1) := by decide +kernel
theorem dX5_cross_32 : decode cX5_cross 32 = .ok (.if_icmp .ne 9, 3) := by decide +kernel
theorem dX5_cross_35 : decode cX5_cross 35 = .ok (.aload_n 0, 1) := by decide +kernel
theorem dX5_cross_36 : decode cX5_cross 36 = .ok (.iconst 2, 1) := by decide +kernel
theorem dX5_cross_37 : decode cX5_cross 37 = .ok (.invokevirtual 103, 3) := by decide +kernel
theorem dX5_cross_40 : decode cX5_cross 40 = .ok (.ireturn, 1) := by decide +kernel
theorem dX5_cross_41 : decode cX5_cross 41 = .ok (.aload_n 0, 1) := by decide +kernel
theorem dX5_cross_42 : decode cX5_cross 42 = .ok (.iload_n 1, 1) := by decide +kernel
theorem dX5_cross_43 : decode cX5_cross 43 = .ok (.iload_n 2, 1) := by decide +kernel
theorem dX5_cross_44 : decode cX5_cross 44 = .ok (.invokevirtual 113, 3) := by decide +kernel
theorem dX5_cross_47 : decode cX5_cross 47 = .ok (.aload_n 0, 1) := by decide +kernel
theorem dX5_cross_48 : decode cX5_cross 48 = .ok (.getfield 19, 3) := by decide +kernel
theorem dX5_cross_51 : decode cX5_cross 51 = .ok (.iload_n 1, 1) := by decide +kernel
theorem dX5_cross_52 : decode cX5_cross 52 = .ok (.iaload, 1) := by decide +kernel
theorem dX5_cross_53 : decode cX5_cross 53 = .ok (.ireturn, 1) := by decide +kernel
theorem dX5_manyCut_0 : decode cX5_manyCut 0 = .ok (.iconst 0, 1) := by decide +kernel
theorem dX5_manyCut_1 : decode cX5_manyCut 1 = .ok (.istore_n 1, 1) := by decide +kernel
theorem dX5_manyCut_2 : decode cX5_manyCut 2 = .ok (.iconst 0, 1) := by decide +kernel
theorem dX5_manyCut_3 : decode cX5_manyCut 3 = .ok (.istore_n 2, 1) := by decide +kernel
theorem dX5_manyCut_4 : decode cX5_manyCut 4 = .ok (.iload_n 2, 1) := by decide +kernel
theorem dX5_manyCut_5 : decode cX5_manyCut 5 = .ok (.aload_n 0, 1) := by decide +kernel
theorem dX5_manyCut_6 : decode cX5_manyCut 6 = .ok (.getfield 39, 3) := by decide +kernel
theorem dX5_manyCut_9 : decode cX5_manyCut 9 = .ok (.if_icmp .ge 26, 3) := by decide +kernel
theorem dX5_manyCut_12 : decode cX5_manyCut 12 = .ok (.iload_n 1, 1) := by decide +kernel
theorem dX5_manyCut_13 : decode cX5_manyCut 13 = .ok (.aload_n 0, 1) := by decide +kernel
theorem dX5_manyCut_14 : decode cX5_manyCut 14 = .ok (.getfield 22, 3) := by decide +kernel
theorem dX5_manyCut_17 : decode cX5_manyCut 17 = .ok (.iload_n 2, 1) := by decide +kernel
theorem dX5_manyCut_18 : decode cX5_manyCut 18 = .ok (.baload, 1) := by decide +kernel
theorem dX5_manyCut_19 : decode cX5_manyCut 19 = .ok (.ifCond .eq 7, 3) := by decide +kernel
theorem dX5_manyCut_22 : decode cX5_manyCut 22 = .ok (.iconst 1, 1) := by decide +kernel
theorem dX5_manyCut_23 : decode cX5_manyCut 23 = .ok (.goto 4, 3) := by decide +kernel
theorem dX5_manyCut_26 : decode cX5_manyCut 26 = .ok (.iconst 0, 1) := by decide +kernel
theorem dX5_manyCut_27 : decode cX5_manyCut 27 = .ok (.iadd, 1) := by decide +kernel
theorem dX5_manyCut_28 : decode cX5_manyCut 28 = .ok (.istore_n 1, 1) := by decide +kernel
theorem dX5_manyCut_29 : decode cX5_manyCut 29 = .ok (.iinc 2 1, 3) := by decide +kernel
theorem dX5_manyCut_32 : decode cX5_manyCut 32 = .ok (.goto (-28), 3) := by decide +kernel
theorem dX5_manyCut_35 : decode cX5_manyCut 35 = .ok (.iload_n 1, 1) := by decide +kernel
theorem dX5_manyCut_36 : decode cX5_manyCut 36 = .ok (.ireturn, 1) := by decide +kernel
set_option maxRecDepth 20000 in
theorem ggX5_turn_X5_isRoom : GoodIn wsX5_turn wsX5_isRoom := goodIn_r _ [6, 7, 8, 9, 5, 10, 24, 25, 26, 27, 28, 29, 30, 31, 32, 33, 34] (by decide +kernel) (by decide +kernel)
set_option maxRecDepth 20000 in
theorem gX5_turn_X5_isRoom : GoodIn wsX5_turn (wsV RX5 106 RX5 yX5_isRoom wsX5_isRoom) := goodIn_app (goodIn_of _ (by decide +kernel)) ggX5_turn_X5_isRoom
set_option maxRecDepth 20000 in
theorem ggX5_turn_X5_isKnown : GoodIn wsX5_turn wsX5_isKnown := goodIn_r _ [14, 15, 24, 25, 26, 27, 28, 29, 30, 31, 32, 33, 34] (by decide +kernel) (by decide +kernel)
set_option maxRecDepth 20000 in
theorem gX5_turn_X5_isKnown : GoodIn wsX5_turn (wsV RX5 109 RX5 yX5_isKnown wsX5_isKnown) := goodIn_app (goodIn_of _ (by decide +kernel)) ggX5_turn_X5_isKnown
set_option maxRecDepth 20000 in
theorem ggX5_turn_X5_no : GoodIn wsX5_turn wsX5_no := goodIn_r _ [19, 15, 24, 25, 26, 27, 28, 29, 30, 31, 32, 33, 34] (by decide +kernel) (by decide +kernel)
set_option maxRecDepth 20000 in
theorem gX5_turn_X5_no : GoodIn wsX5_turn (wsV RX5 103 RX5 yX5_no wsX5_no) := goodIn_app (goodIn_of _ (by decide +kernel)) ggX5_turn_X5_no
set_option maxRecDepth 20000 in
theorem ggX5_turn_X5_manyCut : GoodIn wsX5_turn wsX5_manyCut := goodIn_r _ [23, 7, 1, 24, 25, 26, 27, 28, 29, 30, 31, 32, 33, 34] (by decide +kernel) (by decide +kernel)
set_option maxRecDepth 20000 in
theorem gX5_turn_X5_manyCut : GoodIn wsX5_turn (wsV RX5 116 RX5 yX5_manyCut wsX5_manyCut) := goodIn_app (goodIn_of _ (by decide +kernel)) ggX5_turn_X5_manyCut
theorem dX5_turn_0 : decode cX5_turn 0 = .ok (.aload_n 0, 1) := by decide +kernel
theorem dX5_turn_1 : decode cX5_turn 1 = .ok (.aload_n 0, 1) := by decide +kernel
theorem dX5_turn_2 : decode cX5_turn 2 = .ok (.iload_n 1, 1) := by decide +kernel
theorem dX5_turn_3 : decode cX5_turn 3 = .ok (.invokevirtual 106, 3) := by decide +kernel
theorem dX5_turn_6 : decode cX5_turn 6 = .ok (.invokevirtual 109, 3) := by decide +kernel
theorem dX5_turn_9 : decode cX5_turn 9 = .ok (.ifCond .ne 5, 3) := by decide +kernel
theorem dX5_turn_12 : decode cX5_turn 12 = .ok (.iconst 0, 1) := by decide +kernel
theorem dX5_turn_13 : decode cX5_turn 13 = .ok (.ireturn, 1) := by decide +kernel
theorem dX5_turn_14 : decode cX5_turn 14 = .ok (.aload_n 0, 1) := by decide +kernel
theorem dX5_turn_15 : decode cX5_turn 15 = .ok (.getfield 22, 3) := by decide +kernel
theorem dX5_turn_18 : decode cX5_turn 18 = .ok (.iload_n 1, 1) := by decide +kernel
theorem dX5_turn_19 : decode cX5_turn 19 = .ok (.baload, 1) := by decide +kernel
theorem dX5_turn_20 : decode cX5_turn 20 = .ok (.iload_n 2, 1) := by decide +kernel
theorem dX5_turn_21 : decode cX5_turn 21 = .ok (.if_icmp .ne 9, 3) := by decide +kernel
theorem dX5_turn_24 : decode cX5_turn 24 = .ok (.aload_n 0, 1) := by decide +kernel
theorem dX5_turn_25 : decode cX5_turn 25 = .ok (.iconst 2, 1) := by decide +kernel
theorem dX5_turn_26 : decode cX5_turn 26 = .ok (.invokevirtual 103, 3) := by decide +kernel
theorem dX5_turn_29 : decode cX5_turn 29 = .ok (.ireturn, 1) := by decide +kernel
theorem dX5_turn_30 : decode cX5_turn 30 = .ok (.aload_n 0, 1) := by decide +kernel
theorem dX5_turn_31 : decode cX5_turn 31 = .ok (.getfield 22, 3) := by decide +kernel
theorem dX5_turn_34 : decode cX5_turn 34 = .ok (.iload_n 1, 1) := by decide +kernel
theorem dX5_turn_35 : decode cX5_turn 35 = .ok (.iload_n 2, 1) := by decide +kernel
theorem dX5_turn_36 : decode cX5_turn 36 = .ok (.bastore, 1) := by decide +kernel
theorem dX5_turn_37 : decode cX5_turn 37 = .ok (.aload_n 0, 1) := by decide +kernel
theorem dX5_turn_38 : decode cX5_turn 38 = .ok (.invokevirtual 116, 3) := by decide +kernel
theorem dX5_turn_41 : decode cX5_turn 41 = .ok (.ireturn, 1) := by decide +kernel
set_option maxRecDepth 20000 in
theorem ggX5_cut_X5_turn : GoodIn wsX5_cut wsX5_turn := goodIn_r _ [5, 6, 7, 8, 9, 4, 10, 11, 12, 13, 14, 15, 16, 17, 18, 19, 20, 21, 22, 23, 24, 25, 26, 27, 28, 29, 30, 31, 32, 33, 34, 35, 36, 37, 38] (by decide +kernel) (by decide +kernel)
set_option maxRecDepth 20000 in
theorem gX5_cut_X5_turn : GoodIn wsX5_cut (wsV RX5 120 RX5 yX5_turn wsX5_turn) := goodIn_app (goodIn_of _ (by decide +kernel)) ggX5_cut_X5_turn
theorem dX5_cut_0 : decode cX5_cut 0 = .ok (.aload_n 0, 1) := by decide +kernel
theorem dX5_cut_1 : decode cX5_cut 1 = .ok (.iload_n 1, 1) := by decide +kernel
theorem dX5_cut_2 : decode cX5_cut 2 = .ok (.iconst 1, 1) := by decide +kernel
theorem dX5_cut_3 : decode cX5_cut 3 = .ok (.invokevirtual 120, 3) := by decide +kernel
theorem dX5_cut_6 : decode cX5_cut 6 = .ok (.ireturn, 1) := by decide +kernel
set_option maxRecDepth 20000 in
theorem ggX5_mend_X5_turn : GoodIn wsX5_mend wsX5_turn := goodIn_r _ [5, 6, 7, 8, 9, 4, 10, 11, 12, 13, 14, 15, 16, 17, 18, 19, 20, 21, 22, 23, 24, 25, 26, 27, 28, 29, 30, 31, 32, 33, 34, 35, 36, 37, 38] (by decide +kernel) (by decide +kernel)
set_option maxRecDepth 20000 in
theorem gX5_mend_X5_turn : GoodIn wsX5_mend (wsV RX5 120 RX5 yX5_turn wsX5_turn) := goodIn_app (goodIn_of _ (by decide +kernel)) ggX5_mend_X5_turn
theorem dX5_mend_0 : decode cX5_mend 0 = .ok (.aload_n 0, 1) := by decide +kernel
theorem dX5_mend_1 : decode cX5_mend 1 = .ok (.iload_n 1, 1) := by decide +kernel
theorem dX5_mend_2 : decode cX5_mend 2 = .ok (.iconst 0, 1) := by decide +kernel
theorem dX5_mend_3 : decode cX5_mend 3 = .ok (.invokevirtual 120, 3) := by decide +kernel
theorem dX5_mend_6 : decode cX5_mend 6 = .ok (.ireturn, 1) := by decide +kernel
set_option maxRecDepth 20000 in
theorem ggX5_recharge_X5_isIn : GoodIn wsX5_recharge wsX5_isIn := goodIn_r _ [6] (by decide +kernel) (by decide +kernel)
set_option maxRecDepth 20000 in
theorem gX5_recharge_X5_isIn : GoodIn wsX5_recharge (va_wsS RX5 42 yX5_isIn wsX5_isIn) := goodIn_app (goodIn_of _ (by decide +kernel)) ggX5_recharge_X5_isIn
set_option maxRecDepth 20000 in
theorem ggX5_recharge_X5_no : GoodIn wsX5_recharge wsX5_no := goodIn_r _ [10, 1, 11, 12, 13, 14, 15, 16, 17, 18, 19, 20, 21] (by decide +kernel) (by decide +kernel)
set_option maxRecDepth 20000 in
theorem gX5_recharge_X5_no : GoodIn wsX5_recharge (wsV RX5 103 RX5 yX5_no wsX5_no) := goodIn_app (goodIn_of _ (by decide +kernel)) ggX5_recharge_X5_no
theorem dX5_recharge_0 : decode cX5_recharge 0 = .ok (.aload_n 0, 1) := by decide +kernel
theorem dX5_recharge_1 : decode cX5_recharge 1 = .ok (.iconst 0, 1) := by decide +kernel
theorem dX5_recharge_2 : decode cX5_recharge 2 = .ok (.putfield 35, 3) := by decide +kernel
theorem dX5_recharge_5 : decode cX5_recharge 5 = .ok (.iload_n 1, 1) := by decide +kernel
theorem dX5_recharge_6 : decode cX5_recharge 6 = .ok (.iconst 0, 1) := by decide +kernel
theorem dX5_recharge_7 : decode cX5_recharge 7 = .ok (.sipush 500, 3) := by decide +kernel
theorem dX5_recharge_10 : decode cX5_recharge 10 = .ok (.invokestatic 42, 3) := by decide +kernel
theorem dX5_recharge_13 : decode cX5_recharge 13 = .ok (.ifCond .ne 9, 3) := by decide +kernel
theorem dX5_recharge_16 : decode cX5_recharge 16 = .ok (.aload_n 0, 1) := by decide +kernel
theorem dX5_recharge_17 : decode cX5_recharge 17 = .ok (.iconst 1, 1) := by decide +kernel
theorem dX5_recharge_18 : decode cX5_recharge 18 = .ok (.invokevirtual 103, 3) := by decide +kernel
theorem dX5_recharge_21 : decode cX5_recharge 21 = .ok (.ireturn, 1) := by decide +kernel
theorem dX5_recharge_22 : decode cX5_recharge 22 = .ok (.aload_n 0, 1) := by decide +kernel
theorem dX5_recharge_23 : decode cX5_recharge 23 = .ok (.getfield 29, 3) := by decide +kernel
theorem dX5_recharge_26 : decode cX5_recharge 26 = .ok (.iconst 1, 1) := by decide +kernel
theorem dX5_recharge_27 : decode cX5_recharge 27 = .ok (.iaload, 1) := by decide +kernel
theorem dX5_recharge_28 : decode cX5_recharge 28 = .ok (.istore_n 2, 1) := by decide +kernel
theorem dX5_recharge_29 : decode cX5_recharge 29 = .ok (.aload_n 0, 1) := by decide +kernel
theorem dX5_recharge_30 : decode cX5_recharge 30 = .ok (.getfield 29, 3) := by decide +kernel
theorem dX5_recharge_33 : decode cX5_recharge 33 = .ok (.iconst 1, 1) := by decide +kernel
theorem dX5_recharge_34 : decode cX5_recharge 34 = .ok (.iload_n 1, 1) := by decide +kernel
theorem dX5_recharge_35 : decode cX5_recharge 35 = .ok (.iastore, 1) := by decide +kernel
theorem dX5_recharge_36 : decode cX5_recharge 36 = .ok (.iload_n 2, 1) := by decide +kernel
theorem dX5_recharge_37 : decode cX5_recharge 37 = .ok (.ireturn, 1) := by decide +kernel
set_option maxRecDepth 20000 in
theorem ggX5_putUp_X5_isRoom : GoodIn wsX5_putUp wsX5_isRoom := goodIn_r _ [6, 7, 8, 9, 5, 10, 28, 29, 30, 31, 32, 33, 34, 35, 36, 37, 38] (by decide +kernel) (by decide +kernel)
set_option maxRecDepth 20000 in
theorem gX5_putUp_X5_isRoom : GoodIn wsX5_putUp (wsV RX5 106 RX5 yX5_isRoom wsX5_isRoom) := goodIn_app (goodIn_of _ (by decide +kernel)) ggX5_putUp_X5_isRoom
set_option maxRecDepth 20000 in
theorem ggX5_putUp_X5_isKnown : GoodIn wsX5_putUp wsX5_isKnown := goodIn_r _ [14, 15, 28, 29, 30, 31, 32, 33, 34, 35, 36, 37, 38] (by decide +kernel) (by decide +kernel)
set_option maxRecDepth 20000 in
theorem gX5_putUp_X5_isKnown : GoodIn wsX5_putUp (wsV RX5 109 RX5 yX5_isKnown wsX5_isKnown) := goodIn_app (goodIn_of _ (by decide +kernel)) ggX5_putUp_X5_isKnown
set_option maxRecDepth 20000 in
theorem ggX5_putUp_X5_inLine : GoodIn wsX5_putUp wsX5_inLine := goodIn_r _ [19, 1, 28, 29, 30, 31, 32, 33, 34, 35, 36, 37, 38] (by decide +kernel) (by decide +kernel)
set_option maxRecDepth 20000 in
theorem gX5_putUp_X5_inLine : GoodIn wsX5_putUp (wsV RX5 55 RX5 yX5_inLine wsX5_inLine) := goodIn_app (goodIn_of _ (by decide +kernel)) ggX5_putUp_X5_inLine
set_option maxRecDepth 20000 in
theorem ggX5_putUp_X5_no : GoodIn wsX5_putUp wsX5_no := goodIn_r _ [23, 15, 28, 29, 30, 31, 32, 33, 34, 35, 36, 37, 38] (by decide +kernel) (by decide +kernel)
set_option maxRecDepth 20000 in
theorem gX5_putUp_X5_no : GoodIn wsX5_putUp (wsV RX5 103 RX5 yX5_no wsX5_no) := goodIn_app (goodIn_of _ (by decide +kernel)) ggX5_putUp_X5_no
set_option maxRecDepth 20000 in
theorem ggX5_putUp_X5_takeOut : GoodIn wsX5_putUp wsX5_takeOut := goodIn_r _ [27, 1, 28, 29, 30, 31, 32, 33, 34, 35, 36, 37, 38] (by decide +kernel) (by decide +kernel)
set_option maxRecDepth 20000 in
theorem gX5_putUp_X5_takeOut : GoodIn wsX5_putUp (wsV RX5 86 RX5 yX5_takeOut wsX5_takeOut) := goodIn_app (goodIn_of _ (by decide +kernel)) ggX5_putUp_X5_takeOut
theorem dX5_putUp_0 : decode cX5_putUp 0 = .ok (.aload_n 0, 1) := by decide +kernel
theorem dX5_putUp_1 : decode cX5_putUp 1 = .ok (.aload_n 0, 1) := by decide +kernel
theorem dX5_putUp_2 : decode cX5_putUp 2 = .ok (.iload_n 1, 1) := by decide +kernel
theorem dX5_putUp_3 : decode cX5_putUp 3 = .ok (.invokevirtual 106, 3) := by decide +kernel
theorem dX5_putUp_6 : decode cX5_putUp 6 = .ok (.invokevirtual 109, 3) := by decide +kernel
theorem dX5_putUp_9 : decode cX5_putUp 9 = .ok (.ifCond .ne 5, 3) := by decide +kernel
theorem dX5_putUp_12 : decode cX5_putUp 12 = .ok (.iconst 0, 1) := by decide +kernel
theorem dX5_putUp_13 : decode cX5_putUp 13 = .ok (.ireturn, 1) := by decide +kernel
theorem dX5_putUp_14 : decode cX5_putUp 14 = .ok (.aload_n 0, 1) := by decide +kernel
theorem dX5_putUp_15 : decode cX5_putUp 15 = .ok (.iload_n 1, 1) := by decide +kernel
theorem dX5_putUp_16 : decode cX5_putUp 16 = .ok (.invokevirtual 55, 3) := by decide +kernel
theorem dX5_putUp_19 : decode cX5_putUp 19 = .ok (.istore_n 2, 1) := by decide +kernel
theorem dX5_putUp_20 : decode cX5_putUp 20 = .ok (.iload_n 2, 1) := by decide +kernel
theorem dX5_putUp_21 : decode cX5_putUp 21 = .ok (.iconst (-1), 1) := by decide +kernel
theorem dX5_putUp_22 : decode cX5_putUp 22 = .ok (.if_icmp .ne 9, 3) := by decide +kernel
theorem dX5_putUp_25 : decode cX5_putUp 25 = .ok (.aload_n 0, 1) := by decide +kernel
theorem dX5_putUp_26 : decode cX5_putUp 26 = .ok (.iconst 2, 1) := by decide +kernel
theorem dX5_putUp_27 : decode cX5_putUp 27 = .ok (.invokevirtual 103, 3) := by decide +kernel
theorem dX5_putUp_30 : decode cX5_putUp 30 = .ok (.ireturn, 1) := by decide +kernel
theorem dX5_putUp_31 : decode cX5_putUp 31 = .ok (.aload_n 0, 1) := by decide +kernel
theorem dX5_putUp_32 : decode cX5_putUp 32 = .ok (.iload_n 2, 1) := by decide +kernel
theorem dX5_putUp_33 : decode cX5_putUp 33 = .ok (.invokevirtual 86, 3) := by decide +kernel
theorem dX5_putUp_36 : decode cX5_putUp 36 = .ok (.aload_n 0, 1) := by decide +kernel
theorem dX5_putUp_37 : decode cX5_putUp 37 = .ok (.getfield 29, 3) := by decide +kernel
theorem dX5_putUp_40 : decode cX5_putUp 40 = .ok (.bipush 6, 2) := by decide +kernel
theorem dX5_putUp_42 : decode cX5_putUp 42 = .ok (.iaload, 1) := by decide +kernel
theorem dX5_putUp_43 : decode cX5_putUp 43 = .ok (.ireturn, 1) := by decide +kernel
set_option maxRecDepth 20000 in
theorem ggX5_pass_X5_isIn : GoodIn wsX5_pass wsX5_isIn := goodIn_r _ [6] (by decide +kernel) (by decide +kernel)
set_option maxRecDepth 20000 in
theorem gX5_pass_X5_isIn : GoodIn wsX5_pass (va_wsS RX5 42 yX5_isIn wsX5_isIn) := goodIn_app (goodIn_of _ (by decide +kernel)) ggX5_pass_X5_isIn
set_option maxRecDepth 20000 in
theorem ggX5_pass_X5_no : GoodIn wsX5_pass wsX5_no := goodIn_r _ [10, 1, 74, 75, 76, 77, 78, 79, 80, 81, 82, 83, 84] (by decide +kernel) (by decide +kernel)
set_option maxRecDepth 20000 in
theorem gX5_pass_X5_no : GoodIn wsX5_pass (wsV RX5 103 RX5 yX5_no wsX5_no) := goodIn_app (goodIn_of _ (by decide +kernel)) ggX5_pass_X5_no
set_option maxRecDepth 20000 in
theorem ggX5_pass_X5_minutesOn : GoodIn wsX5_pass wsX5_minutesOn := goodIn_r _ [14, 15, 16, 17, 5, 18, 19, 2, 20, 21, 22, 23, 24, 25, 26, 27, 28, 29, 30, 31, 32, 33, 34, 35, 36, 37, 38, 39, 40, 41, 42, 43, 44, 45, 46, 47, 48, 49, 50, 51, 52, 53, 54, 55, 56, 57, 58, 59, 60, 61, 62, 63, 64, 65, 66, 67, 68, 69, 70, 71, 72, 73, 74, 75, 76, 77, 78, 79, 80, 81, 82, 83, 84] (by decide +kernel) (by decide +kernel)
set_option maxRecDepth 20000 in
theorem gX5_pass_X5_minutesOn : GoodIn wsX5_pass (wsV RX5 124 RX5 yX5_minutesOn wsX5_minutesOn) := goodIn_app (goodIn_of _ (by decide +kernel)) ggX5_pass_X5_minutesOn
theorem dX5_pass_0 : decode cX5_pass 0 = .ok (.aload_n 0, 1) := by decide +kernel
theorem dX5_pass_1 : decode cX5_pass 1 = .ok (.iconst 0, 1) := by decide +kernel
theorem dX5_pass_2 : decode cX5_pass 2 = .ok (.putfield 35, 3) := by decide +kernel
theorem dX5_pass_5 : decode cX5_pass 5 = .ok (.iload_n 1, 1) := by decide +kernel
theorem dX5_pass_6 : decode cX5_pass 6 = .ok (.iconst 1, 1) := by decide +kernel
theorem dX5_pass_7 : decode cX5_pass 7 = .ok (.bipush 60, 2) := by decide +kernel
theorem dX5_pass_9 : decode cX5_pass 9 = .ok (.invokestatic 42, 3) := by decide +kernel
theorem dX5_pass_12 : decode cX5_pass 12 = .ok (.ifCond .ne 9, 3) := by decide +kernel
theorem dX5_pass_15 : decode cX5_pass 15 = .ok (.aload_n 0, 1) := by decide +kernel
theorem dX5_pass_16 : decode cX5_pass 16 = .ok (.iconst 1, 1) := by decide +kernel
theorem dX5_pass_17 : decode cX5_pass 17 = .ok (.invokevirtual 103, 3) := by decide +kernel
theorem dX5_pass_20 : decode cX5_pass 20 = .ok (.ireturn, 1) := by decide +kernel
theorem dX5_pass_21 : decode cX5_pass 21 = .ok (.aload_n 0, 1) := by decide +kernel
theorem dX5_pass_22 : decode cX5_pass 22 = .ok (.getfield 29, 3) := by decide +kernel
theorem dX5_pass_25 : decode cX5_pass 25 = .ok (.iconst 2, 1) := by decide +kernel
theorem dX5_pass_26 : decode cX5_pass 26 = .ok (.iaload, 1) := by decide +kernel
theorem dX5_pass_27 : decode cX5_pass 27 = .ok (.istore_n 2, 1) := by decide +kernel
theorem dX5_pass_28 : decode cX5_pass 28 = .ok (.aload_n 0, 1) := by decide +kernel
theorem dX5_pass_29 : decode cX5_pass 29 = .ok (.iload_n 1, 1) := by decide +kernel
theorem dX5_pass_30 : decode cX5_pass 30 = .ok (.invokevirtual 124, 3) := by decide +kernel
theorem dX5_pass_33 : decode cX5_pass 33 = .ok (.aload_n 0, 1) := by decide +kernel
theorem dX5_pass_34 : decode cX5_pass 34 = .ok (.getfield 29, 3) := by decide +kernel
theorem dX5_pass_37 : decode cX5_pass 37 = .ok (.iconst 2, 1) := by decide +kernel
theorem dX5_pass_38 : decode cX5_pass 38 = .ok (.iaload, 1) := by decide +kernel
theorem dX5_pass_39 : decode cX5_pass 39 = .ok (.iload_n 2, 1) := by decide +kernel
theorem dX5_pass_40 : decode cX5_pass 40 = .ok (.isub, 1) := by decide +kernel
theorem dX5_pass_41 : decode cX5_pass 41 = .ok (.ireturn, 1) := by decide +kernel
set_option maxRecDepth 20000 in
theorem ggX5_minute_X5_ok : GoodIn wsX5_minute wsX5_ok := goodIn_r _ [6, 7, 8, 9, 10, 11, 12, 13, 14, 15, 16, 17, 18] (by decide +kernel) (by decide +kernel)
set_option maxRecDepth 20000 in
theorem gX5_minute_X5_ok : GoodIn wsX5_minute (wsV RX5 127 RX5 yX5_ok wsX5_ok) := goodIn_app (goodIn_of _ (by decide +kernel)) ggX5_minute_X5_ok
theorem dX5_minute_0 : decode cX5_minute 0 = .ok (.aload_n 0, 1) := by decide +kernel
theorem dX5_minute_1 : decode cX5_minute 1 = .ok (.aload_n 0, 1) := by decide +kernel
theorem dX5_minute_2 : decode cX5_minute 2 = .ok (.getfield 29, 3) := by decide +kernel
theorem dX5_minute_5 : decode cX5_minute 5 = .ok (.iconst 0, 1) := by decide +kernel
theorem dX5_minute_6 : decode cX5_minute 6 = .ok (.iaload, 1) := by decide +kernel
theorem dX5_minute_7 : decode cX5_minute 7 = .ok (.invokevirtual 127, 3) := by decide +kernel
theorem dX5_minute_10 : decode cX5_minute 10 = .ok (.ireturn, 1) := by decide +kernel
set_option maxRecDepth 20000 in
theorem ggX5_rooms_X5_ok : GoodIn wsX5_rooms wsX5_ok := goodIn_r _ [6, 7, 8, 9, 10, 11, 12, 13, 14, 15, 16, 17, 18] (by decide +kernel) (by decide +kernel)
set_option maxRecDepth 20000 in
theorem gX5_rooms_X5_ok : GoodIn wsX5_rooms (wsV RX5 127 RX5 yX5_ok wsX5_ok) := goodIn_app (goodIn_of _ (by decide +kernel)) ggX5_rooms_X5_ok
theorem dX5_rooms_0 : decode cX5_rooms 0 = .ok (.aload_n 0, 1) := by decide +kernel
theorem dX5_rooms_1 : decode cX5_rooms 1 = .ok (.aload_n 0, 1) := by decide +kernel
theorem dX5_rooms_2 : decode cX5_rooms 2 = .ok (.getfield 39, 3) := by decide +kernel
theorem dX5_rooms_5 : decode cX5_rooms 5 = .ok (.invokevirtual 127, 3) := by decide +kernel
theorem dX5_rooms_8 : decode cX5_rooms 8 = .ok (.ireturn, 1) := by decide +kernel
set_option maxRecDepth 20000 in
theorem ggX5_servants_X5_ok : GoodIn wsX5_servants wsX5_ok := goodIn_r _ [6, 7, 8, 9, 10, 11, 12, 13, 14, 15, 16, 17, 18] (by decide +kernel) (by decide +kernel)
set_option maxRecDepth 20000 in
theorem gX5_servants_X5_ok : GoodIn wsX5_servants (wsV RX5 127 RX5 yX5_ok wsX5_ok) := goodIn_app (goodIn_of _ (by decide +kernel)) ggX5_servants_X5_ok
theorem dX5_servants_0 : decode cX5_servants 0 = .ok (.aload_n 0, 1) := by decide +kernel
theorem dX5_servants_1 : decode cX5_servants 1 = .ok (.aload_n 0, 1) := by decide +kernel
theorem dX5_servants_2 : decode cX5_servants 2 = .ok (.getfield 46, 3) := by decide +kernel
theorem dX5_servants_5 : decode cX5_servants 5 = .ok (.invokevirtual 127, 3) := by decide +kernel
theorem dX5_servants_8 : decode cX5_servants 8 = .ok (.ireturn, 1) := by decide +kernel
set_option maxRecDepth 20000 in
theorem ggX5_charge_X5_ok : GoodIn wsX5_charge wsX5_ok := goodIn_r _ [6, 7, 8, 9, 10, 11, 12, 13, 14, 15, 16, 17, 18] (by decide +kernel) (by decide +kernel)
set_option maxRecDepth 20000 in
theorem gX5_charge_X5_ok : GoodIn wsX5_charge (wsV RX5 127 RX5 yX5_ok wsX5_ok) := goodIn_app (goodIn_of _ (by decide +kernel)) ggX5_charge_X5_ok
theorem dX5_charge_0 : decode cX5_charge 0 = .ok (.aload_n 0, 1) := by decide +kernel
theorem dX5_charge_1 : decode cX5_charge 1 = .ok (.aload_n 0, 1) := by decide +kernel
theorem dX5_charge_2 : decode cX5_charge 2 = .ok (.getfield 29, 3) := by decide +kernel
theorem dX5_charge_5 : decode cX5_charge 5 = .ok (.iconst 1, 1) := by decide +kernel
theorem dX5_charge_6 : decode cX5_charge 6 = .ok (.iaload, 1) := by decide +kernel
theorem dX5_charge_7 : decode cX5_charge 7 = .ok (.invokevirtual 127, 3) := by decide +kernel
theorem dX5_charge_10 : decode cX5_charge 10 = .ok (.ireturn, 1) := by decide +kernel
set_option maxRecDepth 20000 in
theorem ggX5_served_X5_ok : GoodIn wsX5_served wsX5_ok := goodIn_r _ [6, 7, 8, 9, 10, 11, 12, 13, 14, 15, 16, 17, 18] (by decide +kernel) (by decide +kernel)
set_option maxRecDepth 20000 in
theorem gX5_served_X5_ok : GoodIn wsX5_served (wsV RX5 127 RX5 yX5_ok wsX5_ok) := goodIn_app (goodIn_of _ (by decide +kernel)) ggX5_served_X5_ok
theorem dX5_served_0 : decode cX5_served 0 = .ok (.aload_n 0, 1) := by decide +kernel
theorem dX5_served_1 : decode cX5_served 1 = .ok (.aload_n 0, 1) := by decide +kernel
theorem dX5_served_2 : decode cX5_served 2 = .ok (.getfield 29, 3) := by decide +kernel
theorem dX5_served_5 : decode cX5_served 5 = .ok (.iconst 2, 1) := by decide +kernel
theorem dX5_served_6 : decode cX5_served 6 = .ok (.iaload, 1) := by decide +kernel
theorem dX5_served_7 : decode cX5_served 7 = .ok (.invokevirtual 127, 3) := by decide +kernel
theorem dX5_served_10 : decode cX5_served 10 = .ok (.ireturn, 1) := by decide +kernel
set_option maxRecDepth 20000 in
theorem ggX5_inVain_X5_ok : GoodIn wsX5_inVain wsX5_ok := goodIn_r _ [6, 7, 8, 9, 10, 11, 12, 13, 14, 15, 16, 17, 18] (by decide +kernel) (by decide +kernel)
set_option maxRecDepth 20000 in
theorem gX5_inVain_X5_ok : GoodIn wsX5_inVain (wsV RX5 127 RX5 yX5_ok wsX5_ok) := goodIn_app (goodIn_of _ (by decide +kernel)) ggX5_inVain_X5_ok
theorem dX5_inVain_0 : decode cX5_inVain 0 = .ok (.aload_n 0, 1) := by decide +kernel
theorem dX5_inVain_1 : decode cX5_inVain 1 = .ok (.aload_n 0, 1) := by decide +kernel
theorem dX5_inVain_2 : decode cX5_inVain 2 = .ok (.getfield 29, 3) := by decide +kernel
theorem dX5_inVain_5 : decode cX5_inVain 5 = .ok (.iconst 3, 1) := by decide +kernel
theorem dX5_inVain_6 : decode cX5_inVain 6 = .ok (.iaload, 1) := by decide +kernel
theorem dX5_inVain_7 : decode cX5_inVain 7 = .ok (.invokevirtual 127, 3) := by decide +kernel
theorem dX5_inVain_10 : decode cX5_inVain 10 = .ok (.ireturn, 1) := by decide +kernel
set_option maxRecDepth 20000 in
theorem ggX5_gaveUp_X5_ok : GoodIn wsX5_gaveUp wsX5_ok := goodIn_r _ [6, 7, 8, 9, 10, 11, 12, 13, 14, 15, 16, 17, 18] (by decide +kernel) (by decide +kernel)
set_option maxRecDepth 20000 in
theorem gX5_gaveUp_X5_ok : GoodIn wsX5_gaveUp (wsV RX5 127 RX5 yX5_ok wsX5_ok) := goodIn_app (goodIn_of _ (by decide +kernel)) ggX5_gaveUp_X5_ok
theorem dX5_gaveUp_0 : decode cX5_gaveUp 0 = .ok (.aload_n 0, 1) := by decide +kernel
theorem dX5_gaveUp_1 : decode cX5_gaveUp 1 = .ok (.aload_n 0, 1) := by decide +kernel
theorem dX5_gaveUp_2 : decode cX5_gaveUp 2 = .ok (.getfield 29, 3) := by decide +kernel
theorem dX5_gaveUp_5 : decode cX5_gaveUp 5 = .ok (.iconst 4, 1) := by decide +kernel
theorem dX5_gaveUp_6 : decode cX5_gaveUp 6 = .ok (.iaload, 1) := by decide +kernel
theorem dX5_gaveUp_7 : decode cX5_gaveUp 7 = .ok (.invokevirtual 127, 3) := by decide +kernel
theorem dX5_gaveUp_10 : decode cX5_gaveUp 10 = .ok (.ireturn, 1) := by decide +kernel
set_option maxRecDepth 20000 in
theorem ggX5_unheard_X5_ok : GoodIn wsX5_unheard wsX5_ok := goodIn_r _ [6, 7, 8, 9, 10, 11, 12, 13, 14, 15, 16, 17, 18] (by decide +kernel) (by decide +kernel)
set_option maxRecDepth 20000 in
theorem gX5_unheard_X5_ok : GoodIn wsX5_unheard (wsV RX5 127 RX5 yX5_ok wsX5_ok) := goodIn_app (goodIn_of _ (by decide +kernel)) ggX5_unheard_X5_ok
theorem dX5_unheard_0 : decode cX5_unheard 0 = .ok (.aload_n 0, 1) := by decide +kernel
theorem dX5_unheard_1 : decode cX5_unheard 1 = .ok (.aload_n 0, 1) := by decide +kernel
theorem dX5_unheard_2 : decode cX5_unheard 2 = .ok (.getfield 29, 3) := by decide +kernel
theorem dX5_unheard_5 : decode cX5_unheard 5 = .ok (.iconst 5, 1) := by decide +kernel
theorem dX5_unheard_6 : decode cX5_unheard 6 = .ok (.iaload, 1) := by decide +kernel
theorem dX5_unheard_7 : decode cX5_unheard 7 = .ok (.invokevirtual 127, 3) := by decide +kernel
theorem dX5_unheard_10 : decode cX5_unheard 10 = .ok (.ireturn, 1) := by decide +kernel
set_option maxRecDepth 20000 in
theorem ggX5_dropOf_X5_isRoom : GoodIn wsX5_dropOf wsX5_isRoom := goodIn_r _ [6, 7, 8, 9, 5, 10, 16, 17, 18, 19, 20, 21, 22, 23, 24, 25, 26] (by decide +kernel) (by decide +kernel)
set_option maxRecDepth 20000 in
theorem gX5_dropOf_X5_isRoom : GoodIn wsX5_dropOf (wsV RX5 106 RX5 yX5_isRoom wsX5_isRoom) := goodIn_app (goodIn_of _ (by decide +kernel)) ggX5_dropOf_X5_isRoom
set_option maxRecDepth 20000 in
theorem ggX5_dropOf_X5_isKnown : GoodIn wsX5_dropOf wsX5_isKnown := goodIn_r _ [14, 15, 16, 17, 18, 19, 20, 21, 22, 23, 24, 25, 26] (by decide +kernel) (by decide +kernel)
set_option maxRecDepth 20000 in
theorem gX5_dropOf_X5_isKnown : GoodIn wsX5_dropOf (wsV RX5 109 RX5 yX5_isKnown wsX5_isKnown) := goodIn_app (goodIn_of _ (by decide +kernel)) ggX5_dropOf_X5_isKnown
theorem dX5_dropOf_0 : decode cX5_dropOf 0 = .ok (.aload_n 0, 1) := by decide +kernel
theorem dX5_dropOf_1 : decode cX5_dropOf 1 = .ok (.aload_n 0, 1) := by decide +kernel
theorem dX5_dropOf_2 : decode cX5_dropOf 2 = .ok (.iload_n 1, 1) := by decide +kernel
theorem dX5_dropOf_3 : decode cX5_dropOf 3 = .ok (.invokevirtual 106, 3) := by decide +kernel
theorem dX5_dropOf_6 : decode cX5_dropOf 6 = .ok (.invokevirtual 109, 3) := by decide +kernel
theorem dX5_dropOf_9 : decode cX5_dropOf 9 = .ok (.ifCond .eq 12, 3) := by decide +kernel
theorem dX5_dropOf_12 : decode cX5_dropOf 12 = .ok (.aload_n 0, 1) := by decide +kernel
theorem dX5_dropOf_13 : decode cX5_dropOf 13 = .ok (.getfield 19, 3) := by decide +kernel
theorem dX5_dropOf_16 : decode cX5_dropOf 16 = .ok (.iload_n 1, 1) := by decide +kernel
theorem dX5_dropOf_17 : decode cX5_dropOf 17 = .ok (.iaload, 1) := by decide +kernel
theorem dX5_dropOf_18 : decode cX5_dropOf 18 = .ok (.goto 4, 3) := by decide +kernel
theorem dX5_dropOf_21 : decode cX5_dropOf 21 = .ok (.iconst 0, 1) := by decide +kernel
theorem dX5_dropOf_22 : decode cX5_dropOf 22 = .ok (.ireturn, 1) := by decide +kernel
theorem dX5_leads_0 : decode cX5_leads 0 = .ok (.iconst 0, 1) := by decide +kernel
theorem dX5_leads_1 : decode cX5_leads 1 = .ok (.istore_n 2, 1) := by decide +kernel
theorem dX5_leads_2 : decode cX5_leads 2 = .ok (.aload_n 0, 1) := by decide +kernel
theorem dX5_leads_3 : decode cX5_leads 3 = .ok (.getfield 19, 3) := by decide +kernel
theorem dX5_leads_6 : decode cX5_leads 6 = .ok (.iload_n 2, 1) := by decide +kernel
theorem dX5_leads_7 : decode cX5_leads 7 = .ok (.iaload, 1) := by decide +kernel
theorem dX5_leads_8 : decode cX5_leads 8 = .ok (.iload_n 1, 1) := by decide +kernel
theorem dX5_leads_9 : decode cX5_leads 9 = .ok (.if_icmp .eq 9, 3) := by decide +kernel
theorem dX5_leads_12 : decode cX5_leads 12 = .ok (.iinc 2 1, 3) := by decide +kernel
theorem dX5_leads_15 : decode cX5_leads 15 = .ok (.goto (-13), 3) := by decide +kernel
theorem dX5_leads_18 : decode cX5_leads 18 = .ok (.iload_n 2, 1) := by decide +kernel
theorem dX5_leads_19 : decode cX5_leads 19 = .ok (.ireturn, 1) := by decide +kernel
set_option maxRecDepth 20000 in
theorem ggX5_roomOf_X5_isRoom : GoodIn wsX5_roomOf wsX5_isRoom := goodIn_r _ [5, 6, 7, 8, 4, 9, 20, 21, 22, 23, 24, 25, 26, 27, 28, 29, 30] (by decide +kernel) (by decide +kernel)
set_option maxRecDepth 20000 in
theorem gX5_roomOf_X5_isRoom : GoodIn wsX5_roomOf (wsV RX5 106 RX5 yX5_isRoom wsX5_isRoom) := goodIn_app (goodIn_of _ (by decide +kernel)) ggX5_roomOf_X5_isRoom
set_option maxRecDepth 20000 in
theorem ggX5_roomOf_X5_isKnown : GoodIn wsX5_roomOf wsX5_isKnown := goodIn_r _ [13, 14, 20, 21, 22, 23, 24, 25, 26, 27, 28, 29, 30] (by decide +kernel) (by decide +kernel)
set_option maxRecDepth 20000 in
theorem gX5_roomOf_X5_isKnown : GoodIn wsX5_roomOf (wsV RX5 109 RX5 yX5_isKnown wsX5_isKnown) := goodIn_app (goodIn_of _ (by decide +kernel)) ggX5_roomOf_X5_isKnown
set_option maxRecDepth 20000 in
theorem ggX5_roomOf_X5_leads : GoodIn wsX5_roomOf wsX5_leads := goodIn_r _ [18, 19, 20, 21, 22, 23, 24, 25, 26, 27, 28, 29, 30] (by decide +kernel) (by decide +kernel)
set_option maxRecDepth 20000 in
theorem gX5_roomOf_X5_leads : GoodIn wsX5_roomOf (wsV RX5 130 RX5 yX5_leads wsX5_leads) := goodIn_app (goodIn_of _ (by decide +kernel)) ggX5_roomOf_X5_leads
theorem dX5_roomOf_0 : decode cX5_roomOf 0 = .ok (.aload_n 0, 1) := by decide +kernel
theorem dX5_roomOf_1 : decode cX5_roomOf 1 = .ok (.aload_n 0, 1) := by decide +kernel
theorem dX5_roomOf_2 : decode cX5_roomOf 2 = .ok (.iload_n 1, 1) := by decide +kernel
theorem dX5_roomOf_3 : decode cX5_roomOf 3 = .ok (.invokevirtual 106, 3) := by decide +kernel
theorem dX5_roomOf_6 : decode cX5_roomOf 6 = .ok (.invokevirtual 109, 3) := by decide +kernel
theorem dX5_roomOf_9 : decode cX5_roomOf 9 = .ok (.ifCond .eq 11, 3) := by decide +kernel
theorem dX5_roomOf_12 : decode cX5_roomOf 12 = .ok (.aload_n 0, 1) := by decide +kernel
theorem dX5_roomOf_13 : decode cX5_roomOf 13 = .ok (.iload_n 1, 1) := by decide +kernel
theorem dX5_roomOf_14 : decode cX5_roomOf 14 = .ok (.invokevirtual 130, 3) := by decide +kernel
theorem dX5_roomOf_17 : decode cX5_roomOf 17 = .ok (.goto 4, 3) := by decide +kernel
theorem dX5_roomOf_20 : decode cX5_roomOf 20 = .ok (.iconst 0, 1) := by decide +kernel
theorem dX5_roomOf_21 : decode cX5_roomOf 21 = .ok (.ireturn, 1) := by decide +kernel
set_option maxRecDepth 20000 in
theorem ggX5_isCut_X5_isRoom : GoodIn wsX5_isCut wsX5_isRoom := goodIn_r _ [6, 7, 8, 9, 5, 10, 16, 17, 18, 19, 20, 21, 22, 23, 24, 25, 26] (by decide +kernel) (by decide +kernel)
set_option maxRecDepth 20000 in
theorem gX5_isCut_X5_isRoom : GoodIn wsX5_isCut (wsV RX5 106 RX5 yX5_isRoom wsX5_isRoom) := goodIn_app (goodIn_of _ (by decide +kernel)) ggX5_isCut_X5_isRoom
set_option maxRecDepth 20000 in
theorem ggX5_isCut_X5_isKnown : GoodIn wsX5_isCut wsX5_isKnown := goodIn_r _ [14, 15, 16, 17, 18, 19, 20, 21, 22, 23, 24, 25, 26] (by decide +kernel) (by decide +kernel)
set_option maxRecDepth 20000 in
theorem gX5_isCut_X5_isKnown : GoodIn wsX5_isCut (wsV RX5 109 RX5 yX5_isKnown wsX5_isKnown) := goodIn_app (goodIn_of _ (by decide +kernel)) ggX5_isCut_X5_isKnown
theorem dX5_isCut_0 : decode cX5_isCut 0 = .ok (.aload_n 0, 1) := by decide +kernel
theorem dX5_isCut_1 : decode cX5_isCut 1 = .ok (.aload_n 0, 1) := by decide +kernel
theorem dX5_isCut_2 : decode cX5_isCut 2 = .ok (.iload_n 1, 1) := by decide +kernel
theorem dX5_isCut_3 : decode cX5_isCut 3 = .ok (.invokevirtual 106, 3) := by decide +kernel
theorem dX5_isCut_6 : decode cX5_isCut 6 = .ok (.invokevirtual 109, 3) := by decide +kernel
theorem dX5_isCut_9 : decode cX5_isCut 9 = .ok (.ifCond .eq 16, 3) := by decide +kernel
theorem dX5_isCut_12 : decode cX5_isCut 12 = .ok (.aload_n 0, 1) := by decide +kernel
theorem dX5_isCut_13 : decode cX5_isCut 13 = .ok (.getfield 22, 3) := by decide +kernel
theorem dX5_isCut_16 : decode cX5_isCut 16 = .ok (.iload_n 1, 1) := by decide +kernel
theorem dX5_isCut_17 : decode cX5_isCut 17 = .ok (.baload, 1) := by decide +kernel
theorem dX5_isCut_18 : decode cX5_isCut 18 = .ok (.ifCond .eq 7, 3) := by decide +kernel
theorem dX5_isCut_21 : decode cX5_isCut 21 = .ok (.iconst 1, 1) := by decide +kernel
theorem dX5_isCut_22 : decode cX5_isCut 22 = .ok (.goto 4, 3) := by decide +kernel
theorem dX5_isCut_25 : decode cX5_isCut 25 = .ok (.iconst 0, 1) := by decide +kernel
theorem dX5_isCut_26 : decode cX5_isCut 26 = .ok (.ireturn, 1) := by decide +kernel
set_option maxRecDepth 20000 in
theorem ggX5_waitedFor_X5_isRoom : GoodIn wsX5_waitedFor wsX5_isRoom := goodIn_r _ [6, 7, 8, 9, 5, 10, 16, 17, 18, 19, 20, 21, 22, 23, 24, 25, 26] (by decide +kernel) (by decide +kernel)
set_option maxRecDepth 20000 in
theorem gX5_waitedFor_X5_isRoom : GoodIn wsX5_waitedFor (wsV RX5 106 RX5 yX5_isRoom wsX5_isRoom) := goodIn_app (goodIn_of _ (by decide +kernel)) ggX5_waitedFor_X5_isRoom
set_option maxRecDepth 20000 in
theorem ggX5_waitedFor_X5_isKnown : GoodIn wsX5_waitedFor wsX5_isKnown := goodIn_r _ [14, 15, 16, 17, 18, 19, 20, 21, 22, 23, 24, 25, 26] (by decide +kernel) (by decide +kernel)
set_option maxRecDepth 20000 in
theorem gX5_waitedFor_X5_isKnown : GoodIn wsX5_waitedFor (wsV RX5 109 RX5 yX5_isKnown wsX5_isKnown) := goodIn_app (goodIn_of _ (by decide +kernel)) ggX5_waitedFor_X5_isKnown
theorem dX5_waitedFor_0 : decode cX5_waitedFor 0 = .ok (.aload_n 0, 1) := by decide +kernel
theorem dX5_waitedFor_1 : decode cX5_waitedFor 1 = .ok (.aload_n 0, 1) := by decide +kernel
theorem dX5_waitedFor_2 : decode cX5_waitedFor 2 = .ok (.iload_n 1, 1) := by decide +kernel
theorem dX5_waitedFor_3 : decode cX5_waitedFor 3 = .ok (.invokevirtual 106, 3) := by decide +kernel
theorem dX5_waitedFor_6 : decode cX5_waitedFor 6 = .ok (.invokevirtual 109, 3) := by decide +kernel
theorem dX5_waitedFor_9 : decode cX5_waitedFor 9 = .ok (.ifCond .eq 15, 3) := by decide +kernel
theorem dX5_waitedFor_12 : decode cX5_waitedFor 12 = .ok (.aload_n 0, 1) := by decide +kernel
theorem dX5_waitedFor_13 : decode cX5_waitedFor 13 = .ok (.getfield 29, 3) := by decide +kernel
theorem dX5_waitedFor_16 : decode cX5_waitedFor 16 = .ok (.bipush 7, 2) := by decide +kernel
theorem dX5_waitedFor_18 : decode cX5_waitedFor 18 = .ok (.iload_n 1, 1) := by decide +kernel
theorem dX5_waitedFor_19 : decode cX5_waitedFor 19 = .ok (.iadd, 1) := by decide +kernel
theorem dX5_waitedFor_20 : decode cX5_waitedFor 20 = .ok (.iaload, 1) := by decide +kernel
theorem dX5_waitedFor_21 : decode cX5_waitedFor 21 = .ok (.goto 4, 3) := by decide +kernel
theorem dX5_waitedFor_24 : decode cX5_waitedFor 24 = .ok (.iconst 0, 1) := by decide +kernel
theorem dX5_waitedFor_25 : decode cX5_waitedFor 25 = .ok (.ireturn, 1) := by decide +kernel
theorem dX5_longest_0 : decode cX5_longest 0 = .ok (.iconst (-1), 1) := by decide +kernel
theorem dX5_longest_1 : decode cX5_longest 1 = .ok (.istore_n 1, 1) := by decide +kernel
theorem dX5_longest_2 : decode cX5_longest 2 = .ok (.iconst 0, 1) := by decide +kernel
theorem dX5_longest_3 : decode cX5_longest 3 = .ok (.istore_n 2, 1) := by decide +kernel
theorem dX5_longest_4 : decode cX5_longest 4 = .ok (.iload_n 2, 1) := by decide +kernel
theorem dX5_longest_5 : decode cX5_longest 5 = .ok (.aload_n 0, 1) := by decide +kernel
theorem dX5_longest_6 : decode cX5_longest 6 = .ok (.getfield 39, 3) := by decide +kernel
theorem dX5_longest_9 : decode cX5_longest 9 = .ok (.if_icmp .ge 50, 3) := by decide +kernel
theorem dX5_longest_12 : decode cX5_longest 12 = .ok (.aload_n 0, 1) := by decide +kernel
theorem dX5_longest_13 : decode cX5_longest 13 = .ok (.getfield 29, 3) := by decide +kernel
theorem dX5_longest_16 : decode cX5_longest 16 = .ok (.bipush 7, 2) := by decide +kernel
theorem dX5_longest_18 : decode cX5_longest 18 = .ok (.iload_n 2, 1) := by decide +kernel
theorem dX5_longest_19 : decode cX5_longest 19 = .ok (.iadd, 1) := by decide +kernel
theorem dX5_longest_20 : decode cX5_longest 20 = .ok (.iaload, 1) := by decide +kernel
theorem dX5_longest_21 : decode cX5_longest 21 = .ok (.iconst (-1), 1) := by decide +kernel
theorem dX5_longest_22 : decode cX5_longest 22 = .ok (.if_icmp .eq 31, 3) := by decide +kernel
theorem dX5_longest_25 : decode cX5_longest 25 = .ok (.iload_n 1, 1) := by decide +kernel
theorem dX5_longest_26 : decode cX5_longest 26 = .ok (.iconst (-1), 1) := by decide +kernel
theorem dX5_longest_27 : decode cX5_longest 27 = .ok (.if_icmp .eq 24, 3) := by decide +kernel
theorem dX5_longest_30 : decode cX5_longest 30 = .ok (.aload_n 0, 1) := by decide +kernel
theorem dX5_longest_31 : decode cX5_longest 31 = .ok (.getfield 29, 3) := by decide +kernel
theorem dX5_longest_34 : decode cX5_longest 34 = .ok (.bipush 7, 2) := by decide +kernel
theorem dX5_longest_36 : decode cX5_longest 36 = .ok (.iload_n 2, 1) := by decide +kernel
theorem dX5_longest_37 : decode cX5_longest 37 = .ok (.iadd, 1) := by decide +kernel
theorem dX5_longest_38 : decode cX5_longest 38 = .ok (.iaload, 1) := by decide +kernel
theorem dX5_longest_39 : decode cX5_longest 39 = .ok (.aload_n 0, 1) := by decide +kernel
theorem dX5_longest_40 : decode cX5_longest 40 = .ok (.getfield 29, 3) := by decide +kernel
theorem dX5_longest_43 : decode cX5_longest 43 = .ok (.bipush 7, 2) := by decide +kernel
theorem dX5_longest_45 : decode cX5_longest 45 = .ok (.iload_n 1, 1) := by decide +kernel
theorem dX5_longest_46 : decode cX5_longest 46 = .ok (.iadd, 1) := by decide +kernel
theorem dX5_longest_47 : decode cX5_longest 47 = .ok (.iaload, 1) := by decide +kernel
theorem dX5_longest_48 : decode cX5_longest 48 = .ok (.if_icmp .le 5, 3) := by decide +kernel
theorem dX5_longest_51 : decode cX5_longest 51 = .ok (.iload_n 2, 1) := by decide +kernel
theorem dX5_longest_52 : decode cX5_longest 52 = .ok (.istore_n 1, 1) := by decide +kernel
theorem dX5_longest_53 : decode cX5_longest 53 = .ok (.iinc 2 1, 3) := by decide +kernel
theorem dX5_longest_56 : decode cX5_longest 56 = .ok (.goto (-52), 3) := by decide +kernel
theorem dX5_longest_59 : decode cX5_longest 59 = .ok (.iload_n 1, 1) := by decide +kernel
theorem dX5_longest_60 : decode cX5_longest 60 = .ok (.ireturn, 1) := by decide +kernel
set_option maxRecDepth 20000 in
theorem ggX5_longestWaiting_X5_longest : GoodIn wsX5_longestWaiting wsX5_longest := goodIn_r _ [5, 6, 7, 13, 14, 15, 16, 17, 18, 19, 20, 21, 22, 23] (by decide +kernel) (by decide +kernel)
set_option maxRecDepth 20000 in
theorem gX5_longestWaiting_X5_longest : GoodIn wsX5_longestWaiting (wsV RX5 133 RX5 yX5_longest wsX5_longest) := goodIn_app (goodIn_of _ (by decide +kernel)) ggX5_longestWaiting_X5_longest
set_option maxRecDepth 20000 in
theorem ggX5_longestWaiting_X5_ok : GoodIn wsX5_longestWaiting wsX5_ok := goodIn_r _ [11, 12, 13, 14, 15, 16, 17, 18, 19, 20, 21, 22, 23] (by decide +kernel) (by decide +kernel)
set_option maxRecDepth 20000 in
theorem gX5_longestWaiting_X5_ok : GoodIn wsX5_longestWaiting (wsV RX5 127 RX5 yX5_ok wsX5_ok) := goodIn_app (goodIn_of _ (by decide +kernel)) ggX5_longestWaiting_X5_ok
theorem dX5_longestWaiting_0 : decode cX5_longestWaiting 0 = .ok (.aload_n 0, 1) := by decide +kernel
theorem dX5_longestWaiting_1 : decode cX5_longestWaiting 1 = .ok (.aload_n 0, 1) := by decide +kernel
theorem dX5_longestWaiting_2 : decode cX5_longestWaiting 2 = .ok (.invokevirtual 133, 3) := by decide +kernel
theorem dX5_longestWaiting_5 : decode cX5_longestWaiting 5 = .ok (.invokevirtual 127, 3) := by decide +kernel
theorem dX5_longestWaiting_8 : decode cX5_longestWaiting 8 = .ok (.ireturn, 1) := by decide +kernel
theorem dX5_manyCrossed_0 : decode cX5_manyCrossed 0 = .ok (.iconst 0, 1) := by decide +kernel
theorem dX5_manyCrossed_1 : decode cX5_manyCrossed 1 = .ok (.istore_n 1, 1) := by decide +kernel
theorem dX5_manyCrossed_2 : decode cX5_manyCrossed 2 = .ok (.iconst 0, 1) := by decide +kernel
theorem dX5_manyCrossed_3 : decode cX5_manyCrossed 3 = .ok (.istore_n 2, 1) := by decide +kernel
theorem dX5_manyCrossed_4 : decode cX5_manyCrossed 4 = .ok (.iload_n 2, 1) := by decide +kernel
theorem dX5_manyCrossed_5 : decode cX5_manyCrossed 5 = .ok (.aload_n 0, 1) := by decide +kernel
theorem dX5_manyCrossed_6 : decode cX5_manyCrossed 6 = .ok (.getfield 39, 3) := by decide +kernel
theorem dX5_manyCrossed_9 : decode cX5_manyCrossed 9 = .ok (.if_icmp .ge 27, 3) := by decide +kernel
theorem dX5_manyCrossed_12 : decode cX5_manyCrossed 12 = .ok (.iload_n 1, 1) := by decide +kernel
theorem dX5_manyCrossed_13 : decode cX5_manyCrossed 13 = .ok (.aload_n 0, 1) := by decide +kernel
theorem dX5_manyCrossed_14 : decode cX5_manyCrossed 14 = .ok (.getfield 19, 3) := by decide +kernel
theorem dX5_manyCrossed_17 : decode cX5_manyCrossed 17 = .ok (.iload_n 2, 1) := by decide +kernel
theorem dX5_manyCrossed_18 : decode cX5_manyCrossed 18 = .ok (.iaload, 1) := by decide +kernel
theorem dX5_manyCrossed_19 : decode cX5_manyCrossed 19 = .ok (.iload_n 2, 1) := by decide +kernel
theorem dX5_manyCrossed_20 : decode cX5_manyCrossed 20 = .ok (.if_icmp .ne 7, 3) := by decide +kernel
theorem dX5_manyCrossed_23 : decode cX5_manyCrossed 23 = .ok (.iconst 0, 1) := by decide +kernel
theorem dX5_manyCrossed_24 : decode cX5_manyCrossed 24 = .ok (.goto 4, 3) := by decide +kernel
theorem dX5_manyCrossed_27 : decode cX5_manyCrossed 27 = .ok (.iconst 1, 1) := by decide +kernel
theorem dX5_manyCrossed_28 : decode cX5_manyCrossed 28 = .ok (.iadd, 1) := by decide +kernel
theorem dX5_manyCrossed_29 : decode cX5_manyCrossed 29 = .ok (.istore_n 1, 1) := by decide +kernel
theorem dX5_manyCrossed_30 : decode cX5_manyCrossed 30 = .ok (.iinc 2 1, 3) := by decide +kernel
theorem dX5_manyCrossed_33 : decode cX5_manyCrossed 33 = .ok (.goto (-29), 3) := by decide +kernel
theorem dX5_manyCrossed_36 : decode cX5_manyCrossed 36 = .ok (.iload_n 1, 1) := by decide +kernel
theorem dX5_manyCrossed_37 : decode cX5_manyCrossed 37 = .ok (.ireturn, 1) := by decide +kernel
set_option maxRecDepth 20000 in
theorem ggX5_crossed_X5_manyCrossed : GoodIn wsX5_crossed wsX5_manyCrossed := goodIn_r _ [5, 6, 7, 13, 14, 15, 16, 17, 18, 19, 20, 21, 22, 23] (by decide +kernel) (by decide +kernel)
set_option maxRecDepth 20000 in
theorem gX5_crossed_X5_manyCrossed : GoodIn wsX5_crossed (wsV RX5 136 RX5 yX5_manyCrossed wsX5_manyCrossed) := goodIn_app (goodIn_of _ (by decide +kernel)) ggX5_crossed_X5_manyCrossed
set_option maxRecDepth 20000 in
theorem ggX5_crossed_X5_ok : GoodIn wsX5_crossed wsX5_ok := goodIn_r _ [11, 12, 13, 14, 15, 16, 17, 18, 19, 20, 21, 22, 23] (by decide +kernel) (by decide +kernel)
set_option maxRecDepth 20000 in
theorem gX5_crossed_X5_ok : GoodIn wsX5_crossed (wsV RX5 127 RX5 yX5_ok wsX5_ok) := goodIn_app (goodIn_of _ (by decide +kernel)) ggX5_crossed_X5_ok
theorem dX5_crossed_0 : decode cX5_crossed 0 = .ok (.aload_n 0, 1) := by decide +kernel
theorem dX5_crossed_1 : decode cX5_crossed 1 = .ok (.aload_n 0, 1) := by decide +kernel
theorem dX5_crossed_2 : decode cX5_crossed 2 = .ok (.invokevirtual 136, 3) := by decide +kernel
theorem dX5_crossed_5 : decode cX5_crossed 5 = .ok (.invokevirtual 127, 3) := by decide +kernel
theorem dX5_crossed_8 : decode cX5_crossed 8 = .ok (.ireturn, 1) := by decide +kernel
theorem dX5_crossings_0 : decode cX5_crossings 0 = .ok (.aload_n 0, 1) := by decide +kernel
theorem dX5_crossings_1 : decode cX5_crossings 1 = .ok (.getfield 39, 3) := by decide +kernel
theorem dX5_crossings_4 : decode cX5_crossings 4 = .ok (.istore_n 1, 1) := by decide +kernel
theorem dX5_crossings_5 : decode cX5_crossings 5 = .ok (.iconst 0, 1) := by decide +kernel
theorem dX5_crossings_6 : decode cX5_crossings 6 = .ok (.istore_n 2, 1) := by decide +kernel
theorem dX5_crossings_7 : decode cX5_crossings 7 = .ok (.iload_n 2, 1) := by decide +kernel
theorem dX5_crossings_8 : decode cX5_crossings 8 = .ok (.aload_n 0, 1) := by decide +kernel
theorem dX5_crossings_9 : decode cX5_crossings 9 = .ok (.getfield 39, 3) := by decide +kernel
theorem dX5_crossings_12 : decode cX5_crossings 12 = .ok (.if_icmp .ge 44, 3) := by decide +kernel
theorem dX5_crossings_15 : decode cX5_crossings 15 = .ok (.aload_n 0, 1) := by decide +kernel
theorem dX5_crossings_16 : decode cX5_crossings 16 = .ok (.getfield 19, 3) := by decide +kernel
theorem dX5_crossings_19 : decode cX5_crossings 19 = .ok (.iload_n 2, 1) := by decide +kernel
theorem dX5_crossings_20 : decode cX5_crossings 20 = .ok (.iaload, 1) := by decide +kernel
theorem dX5_crossings_21 : decode cX5_crossings 21 = .ok (.istore_n 3, 1) := by decide +kernel
theorem dX5_crossings_22 : decode cX5_crossings 22 = .ok (.iload_n 3, 1) := by decide +kernel
theorem dX5_crossings_23 : decode cX5_crossings 23 = .ok (.iload_n 2, 1) := by decide +kernel
theorem dX5_crossings_24 : decode cX5_crossings 24 = .ok (.if_icmp .le 13, 3) := by decide +kernel
theorem dX5_crossings_27 : decode cX5_crossings 27 = .ok (.aload_n 0, 1) := by decide +kernel
theorem dX5_crossings_28 : decode cX5_crossings 28 = .ok (.getfield 19, 3) := by decide +kernel
theorem dX5_crossings_31 : decode cX5_crossings 31 = .ok (.iload_n 3, 1) := by decide +kernel
theorem dX5_crossings_32 : decode cX5_crossings 32 = .ok (.iaload, 1) := by decide +kernel
theorem dX5_crossings_33 : decode cX5_crossings 33 = .ok (.istore_n 3, 1) := by decide +kernel
theorem dX5_crossings_34 : decode cX5_crossings 34 = .ok (.goto (-12), 3) := by decide +kernel
theorem dX5_crossings_37 : decode cX5_crossings 37 = .ok (.iload_n 1, 1) := by decide +kernel
theorem dX5_crossings_38 : decode cX5_crossings 38 = .ok (.iload_n 3, 1) := by decide +kernel
theorem dX5_crossings_39 : decode cX5_crossings 39 = .ok (.iload_n 2, 1) := by decide +kernel
theorem dX5_crossings_40 : decode cX5_crossings 40 = .ok (.if_icmp .ne 7, 3) := by decide +kernel
theorem dX5_crossings_43 : decode cX5_crossings 43 = .ok (.iconst 1, 1) := by decide +kernel
theorem dX5_crossings_44 : decode cX5_crossings 44 = .ok (.goto 4, 3) := by decide +kernel
theorem dX5_crossings_47 : decode cX5_crossings 47 = .ok (.iconst 0, 1) := by decide +kernel
theorem dX5_crossings_48 : decode cX5_crossings 48 = .ok (.isub, 1) := by decide +kernel
theorem dX5_crossings_49 : decode cX5_crossings 49 = .ok (.istore_n 1, 1) := by decide +kernel
theorem dX5_crossings_50 : decode cX5_crossings 50 = .ok (.iinc 2 1, 3) := by decide +kernel
theorem dX5_crossings_53 : decode cX5_crossings 53 = .ok (.goto (-46), 3) := by decide +kernel
theorem dX5_crossings_56 : decode cX5_crossings 56 = .ok (.iload_n 1, 1) := by decide +kernel
theorem dX5_crossings_57 : decode cX5_crossings 57 = .ok (.ireturn, 1) := by decide +kernel
set_option maxRecDepth 20000 in
theorem ggX5_crossingsNeeded_X5_crossings : GoodIn wsX5_crossingsNeeded wsX5_crossings := goodIn_r _ [5, 6, 7, 13, 14, 15, 16, 17, 18, 19, 20, 21, 22, 23] (by decide +kernel) (by decide +kernel)
set_option maxRecDepth 20000 in
theorem gX5_crossingsNeeded_X5_crossings : GoodIn wsX5_crossingsNeeded (wsV RX5 139 RX5 yX5_crossings wsX5_crossings) := goodIn_app (goodIn_of _ (by decide +kernel)) ggX5_crossingsNeeded_X5_crossings
set_option maxRecDepth 20000 in
theorem ggX5_crossingsNeeded_X5_ok : GoodIn wsX5_crossingsNeeded wsX5_ok := goodIn_r _ [11, 12, 13, 14, 15, 16, 17, 18, 19, 20, 21, 22, 23] (by decide +kernel) (by decide +kernel)
set_option maxRecDepth 20000 in
theorem gX5_crossingsNeeded_X5_ok : GoodIn wsX5_crossingsNeeded (wsV RX5 127 RX5 yX5_ok wsX5_ok) := goodIn_app (goodIn_of _ (by decide +kernel)) ggX5_crossingsNeeded_X5_ok
theorem dX5_crossingsNeeded_0 : decode cX5_crossingsNeeded 0 = .ok (.aload_n 0, 1) := by decide +kernel
theorem dX5_crossingsNeeded_1 : decode cX5_crossingsNeeded 1 = .ok (.aload_n 0, 1) := by decide +kernel
theorem dX5_crossingsNeeded_2 : decode cX5_crossingsNeeded 2 = .ok (.invokevirtual 139, 3) := by decide +kernel
theorem dX5_crossingsNeeded_5 : decode cX5_crossingsNeeded 5 = .ok (.invokevirtual 127, 3) := by decide +kernel
theorem dX5_crossingsNeeded_8 : decode cX5_crossingsNeeded 8 = .ok (.ireturn, 1) := by decide +kernel
set_option maxRecDepth 20000 in
theorem ggX5_fallen_X5_ok : GoodIn wsX5_fallen wsX5_ok := goodIn_r _ [6, 7, 8, 9, 10, 11, 12, 13, 14, 15, 16, 17, 18] (by decide +kernel) (by decide +kernel)
set_option maxRecDepth 20000 in
theorem gX5_fallen_X5_ok : GoodIn wsX5_fallen (wsV RX5 127 RX5 yX5_ok wsX5_ok) := goodIn_app (goodIn_of _ (by decide +kernel)) ggX5_fallen_X5_ok
theorem dX5_fallen_0 : decode cX5_fallen 0 = .ok (.aload_n 0, 1) := by decide +kernel
theorem dX5_fallen_1 : decode cX5_fallen 1 = .ok (.aload_n 0, 1) := by decide +kernel
theorem dX5_fallen_2 : decode cX5_fallen 2 = .ok (.getfield 29, 3) := by decide +kernel
theorem dX5_fallen_5 : decode cX5_fallen 5 = .ok (.bipush 6, 2) := by decide +kernel
theorem dX5_fallen_7 : decode cX5_fallen 7 = .ok (.iaload, 1) := by decide +kernel
theorem dX5_fallen_8 : decode cX5_fallen 8 = .ok (.invokevirtual 127, 3) := by decide +kernel
theorem dX5_fallen_11 : decode cX5_fallen 11 = .ok (.ireturn, 1) := by decide +kernel
set_option maxRecDepth 20000 in
theorem ggX5_hasFallen_X5_isRoom : GoodIn wsX5_hasFallen wsX5_isRoom := goodIn_r _ [5, 6, 7, 8, 4, 9, 20, 21, 22, 23, 24, 25, 26, 27, 28, 29, 30] (by decide +kernel) (by decide +kernel)
set_option maxRecDepth 20000 in
theorem gX5_hasFallen_X5_isRoom : GoodIn wsX5_hasFallen (wsV RX5 106 RX5 yX5_isRoom wsX5_isRoom) := goodIn_app (goodIn_of _ (by decide +kernel)) ggX5_hasFallen_X5_isRoom
set_option maxRecDepth 20000 in
theorem ggX5_hasFallen_X5_isKnown : GoodIn wsX5_hasFallen wsX5_isKnown := goodIn_r _ [13, 14, 20, 21, 22, 23, 24, 25, 26, 27, 28, 29, 30] (by decide +kernel) (by decide +kernel)
set_option maxRecDepth 20000 in
theorem gX5_hasFallen_X5_isKnown : GoodIn wsX5_hasFallen (wsV RX5 109 RX5 yX5_isKnown wsX5_isKnown) := goodIn_app (goodIn_of _ (by decide +kernel)) ggX5_hasFallen_X5_isKnown
set_option maxRecDepth 20000 in
theorem ggX5_hasFallen_X5_inLine : GoodIn wsX5_hasFallen wsX5_inLine := goodIn_r _ [18, 19, 20, 21, 22, 23, 24, 25, 26, 27, 28, 29, 30] (by decide +kernel) (by decide +kernel)
set_option maxRecDepth 20000 in
theorem gX5_hasFallen_X5_inLine : GoodIn wsX5_hasFallen (wsV RX5 55 RX5 yX5_inLine wsX5_inLine) := goodIn_app (goodIn_of _ (by decide +kernel)) ggX5_hasFallen_X5_inLine
theorem dX5_hasFallen_0 : decode cX5_hasFallen 0 = .ok (.aload_n 0, 1) := by decide +kernel
theorem dX5_hasFallen_1 : decode cX5_hasFallen 1 = .ok (.aload_n 0, 1) := by decide +kernel
theorem dX5_hasFallen_2 : decode cX5_hasFallen 2 = .ok (.iload_n 1, 1) := by decide +kernel
theorem dX5_hasFallen_3 : decode cX5_hasFallen 3 = .ok (.invokevirtual 106, 3) := by decide +kernel
theorem dX5_hasFallen_6 : decode cX5_hasFallen 6 = .ok (.invokevirtual 109, 3) := by decide +kernel
theorem dX5_hasFallen_9 : decode cX5_hasFallen 9 = .ok (.ifCond .eq 16, 3) := by decide +kernel
theorem dX5_hasFallen_12 : decode cX5_hasFallen 12 = .ok (.aload_n 0, 1) := by decide +kernel
theorem dX5_hasFallen_13 : decode cX5_hasFallen 13 = .ok (.iload_n 1, 1) := by decide +kernel
theorem dX5_hasFallen_14 : decode cX5_hasFallen 14 = .ok (.invokevirtual 55, 3) := by decide +kernel
theorem dX5_hasFallen_17 : decode cX5_hasFallen 17 = .ok (.iconst (-1), 1) := by decide +kernel
theorem dX5_hasFallen_18 : decode cX5_hasFallen 18 = .ok (.if_icmp .eq 7, 3) := by decide +kernel
theorem dX5_hasFallen_21 : decode cX5_hasFallen 21 = .ok (.iconst 1, 1) := by decide +kernel
theorem dX5_hasFallen_22 : decode cX5_hasFallen 22 = .ok (.goto 4, 3) := by decide +kernel
theorem dX5_hasFallen_25 : decode cX5_hasFallen 25 = .ok (.iconst 0, 1) := by decide +kernel
theorem dX5_hasFallen_26 : decode cX5_hasFallen 26 = .ok (.ireturn, 1) := by decide +kernel
set_option maxRecDepth 20000 in
theorem ggX5_placeInLine_X5_isRoom : GoodIn wsX5_placeInLine wsX5_isRoom := goodIn_r _ [5, 6, 7, 8, 4, 9, 20, 21, 22, 23, 24, 25, 26, 27, 28, 29, 30] (by decide +kernel) (by decide +kernel)
set_option maxRecDepth 20000 in
theorem gX5_placeInLine_X5_isRoom : GoodIn wsX5_placeInLine (wsV RX5 106 RX5 yX5_isRoom wsX5_isRoom) := goodIn_app (goodIn_of _ (by decide +kernel)) ggX5_placeInLine_X5_isRoom
set_option maxRecDepth 20000 in
theorem ggX5_placeInLine_X5_isKnown : GoodIn wsX5_placeInLine wsX5_isKnown := goodIn_r _ [13, 14, 20, 21, 22, 23, 24, 25, 26, 27, 28, 29, 30] (by decide +kernel) (by decide +kernel)
set_option maxRecDepth 20000 in
theorem gX5_placeInLine_X5_isKnown : GoodIn wsX5_placeInLine (wsV RX5 109 RX5 yX5_isKnown wsX5_isKnown) := goodIn_app (goodIn_of _ (by decide +kernel)) ggX5_placeInLine_X5_isKnown
set_option maxRecDepth 20000 in
theorem ggX5_placeInLine_X5_inLine : GoodIn wsX5_placeInLine wsX5_inLine := goodIn_r _ [18, 19, 20, 21, 22, 23, 24, 25, 26, 27, 28, 29, 30] (by decide +kernel) (by decide +kernel)
set_option maxRecDepth 20000 in
theorem gX5_placeInLine_X5_inLine : GoodIn wsX5_placeInLine (wsV RX5 55 RX5 yX5_inLine wsX5_inLine) := goodIn_app (goodIn_of _ (by decide +kernel)) ggX5_placeInLine_X5_inLine
theorem dX5_placeInLine_0 : decode cX5_placeInLine 0 = .ok (.aload_n 0, 1) := by decide +kernel
theorem dX5_placeInLine_1 : decode cX5_placeInLine 1 = .ok (.aload_n 0, 1) := by decide +kernel
theorem dX5_placeInLine_2 : decode cX5_placeInLine 2 = .ok (.iload_n 1, 1) := by decide +kernel
theorem dX5_placeInLine_3 : decode cX5_placeInLine 3 = .ok (.invokevirtual 106, 3) := by decide +kernel
theorem dX5_placeInLine_6 : decode cX5_placeInLine 6 = .ok (.invokevirtual 109, 3) := by decide +kernel
theorem dX5_placeInLine_9 : decode cX5_placeInLine 9 = .ok (.ifCond .eq 11, 3) := by decide +kernel
theorem dX5_placeInLine_12 : decode cX5_placeInLine 12 = .ok (.aload_n 0, 1) := by decide +kernel
theorem dX5_placeInLine_13 : decode cX5_placeInLine 13 = .ok (.iload_n 1, 1) := by decide +kernel
theorem dX5_placeInLine_14 : decode cX5_placeInLine 14 = .ok (.invokevirtual 55, 3) := by decide +kernel
theorem dX5_placeInLine_17 : decode cX5_placeInLine 17 = .ok (.goto 4, 3) := by decide +kernel
theorem dX5_placeInLine_20 : decode cX5_placeInLine 20 = .ok (.iconst 0, 1) := by decide +kernel
theorem dX5_placeInLine_21 : decode cX5_placeInLine 21 = .ok (.ireturn, 1) := by decide +kernel
theorem dX5_head_0 : decode cX5_head 0 = .ok (.aload_n 0, 1) := by decide +kernel
theorem dX5_head_1 : decode cX5_head 1 = .ok (.getfield 29, 3) := by decide +kernel
theorem dX5_head_4 : decode cX5_head 4 = .ok (.bipush 6, 2) := by decide +kernel
theorem dX5_head_6 : decode cX5_head 6 = .ok (.iaload, 1) := by decide +kernel
theorem dX5_head_7 : decode cX5_head 7 = .ok (.ifCond .ne 7, 3) := by decide +kernel
theorem dX5_head_10 : decode cX5_head 10 = .ok (.iconst (-1), 1) := by decide +kernel
theorem dX5_head_11 : decode cX5_head 11 = .ok (.goto 10, 3) := by decide +kernel
theorem dX5_head_14 : decode cX5_head 14 = .ok (.aload_n 0, 1) := by decide +kernel
theorem dX5_head_15 : decode cX5_head 15 = .ok (.getfield 29, 3) := by decide +kernel
theorem dX5_head_18 : decode cX5_head 18 = .ok (.bipush 19, 2) := by decide +kernel
theorem dX5_head_20 : decode cX5_head 20 = .ok (.iaload, 1) := by decide +kernel
theorem dX5_head_21 : decode cX5_head 21 = .ok (.ireturn, 1) := by decide +kernel
set_option maxRecDepth 20000 in
theorem ggX5_nextDrop_X5_head : GoodIn wsX5_nextDrop wsX5_head := goodIn_r _ [5, 6, 12, 13, 14, 15, 16, 17, 18, 19, 20, 21, 22] (by decide +kernel) (by decide +kernel)
set_option maxRecDepth 20000 in
theorem gX5_nextDrop_X5_head : GoodIn wsX5_nextDrop (wsV RX5 142 RX5 yX5_head wsX5_head) := goodIn_app (goodIn_of _ (by decide +kernel)) ggX5_nextDrop_X5_head
set_option maxRecDepth 20000 in
theorem ggX5_nextDrop_X5_ok : GoodIn wsX5_nextDrop wsX5_ok := goodIn_r _ [10, 11, 12, 13, 14, 15, 16, 17, 18, 19, 20, 21, 22] (by decide +kernel) (by decide +kernel)
set_option maxRecDepth 20000 in
theorem gX5_nextDrop_X5_ok : GoodIn wsX5_nextDrop (wsV RX5 127 RX5 yX5_ok wsX5_ok) := goodIn_app (goodIn_of _ (by decide +kernel)) ggX5_nextDrop_X5_ok
theorem dX5_nextDrop_0 : decode cX5_nextDrop 0 = .ok (.aload_n 0, 1) := by decide +kernel
theorem dX5_nextDrop_1 : decode cX5_nextDrop 1 = .ok (.aload_n 0, 1) := by decide +kernel
theorem dX5_nextDrop_2 : decode cX5_nextDrop 2 = .ok (.invokevirtual 142, 3) := by decide +kernel
theorem dX5_nextDrop_5 : decode cX5_nextDrop 5 = .ok (.invokevirtual 127, 3) := by decide +kernel
theorem dX5_nextDrop_8 : decode cX5_nextDrop 8 = .ok (.ireturn, 1) := by decide +kernel
theorem dX5_left_0 : decode cX5_left 0 = .ok (.aload_n 0, 1) := by decide +kernel
theorem dX5_left_1 : decode cX5_left 1 = .ok (.getfield 22, 3) := by decide +kernel
theorem dX5_left_4 : decode cX5_left 4 = .ok (.iload_n 1, 1) := by decide +kernel
theorem dX5_left_5 : decode cX5_left 5 = .ok (.baload, 1) := by decide +kernel
theorem dX5_left_6 : decode cX5_left 6 = .ok (.ifCond .eq 7, 3) := by decide +kernel
theorem dX5_left_9 : decode cX5_left 9 = .ok (.iconst 0, 1) := by decide +kernel
theorem dX5_left_10 : decode cX5_left 10 = .ok (.goto 18, 3) := by decide +kernel
theorem dX5_left_13 : decode cX5_left 13 = .ok (.aload_n 0, 1) := by decide +kernel
theorem dX5_left_14 : decode cX5_left 14 = .ok (.getfield 29, 3) := by decide +kernel
theorem dX5_left_17 : decode cX5_left 17 = .ok (.iconst 1, 1) := by decide +kernel
theorem dX5_left_18 : decode cX5_left 18 = .ok (.iaload, 1) := by decide +kernel
theorem dX5_left_19 : decode cX5_left 19 = .ok (.aload_n 0, 1) := by decide +kernel
theorem dX5_left_20 : decode cX5_left 20 = .ok (.getfield 9, 3) := by decide +kernel
theorem dX5_left_23 : decode cX5_left 23 = .ok (.iload_n 1, 1) := by decide +kernel
theorem dX5_left_24 : decode cX5_left 24 = .ok (.iaload, 1) := by decide +kernel
theorem dX5_left_25 : decode cX5_left 25 = .ok (.iconst 1, 1) := by decide +kernel
theorem dX5_left_26 : decode cX5_left 26 = .ok (.iadd, 1) := by decide +kernel
theorem dX5_left_27 : decode cX5_left 27 = .ok (.idiv, 1) := by decide +kernel
theorem dX5_left_28 : decode cX5_left 28 = .ok (.ireturn, 1) := by decide +kernel
set_option maxRecDepth 20000 in
theorem ggX5_ringsLeft_X5_isRoom : GoodIn wsX5_ringsLeft wsX5_isRoom := goodIn_r _ [5, 6, 7, 8, 4, 9, 22, 23, 24, 25, 26, 27, 28, 29, 30, 31, 32] (by decide +kernel) (by decide +kernel)
set_option maxRecDepth 20000 in
theorem gX5_ringsLeft_X5_isRoom : GoodIn wsX5_ringsLeft (wsV RX5 106 RX5 yX5_isRoom wsX5_isRoom) := goodIn_app (goodIn_of _ (by decide +kernel)) ggX5_ringsLeft_X5_isRoom
set_option maxRecDepth 20000 in
theorem ggX5_ringsLeft_X5_isKnown : GoodIn wsX5_ringsLeft wsX5_isKnown := goodIn_r _ [13, 14, 22, 23, 24, 25, 26, 27, 28, 29, 30, 31, 32] (by decide +kernel) (by decide +kernel)
set_option maxRecDepth 20000 in
theorem gX5_ringsLeft_X5_isKnown : GoodIn wsX5_ringsLeft (wsV RX5 109 RX5 yX5_isKnown wsX5_isKnown) := goodIn_app (goodIn_of _ (by decide +kernel)) ggX5_ringsLeft_X5_isKnown
set_option maxRecDepth 20000 in
theorem ggX5_ringsLeft_X5_left : GoodIn wsX5_ringsLeft wsX5_left := goodIn_r _ [18, 19, 20, 21, 22, 23, 24, 25, 26, 27, 28, 29, 30, 31, 32] (by decide +kernel) (by decide +kernel)
set_option maxRecDepth 20000 in
theorem gX5_ringsLeft_X5_left : GoodIn wsX5_ringsLeft (wsV RX5 145 RX5 yX5_left wsX5_left) := goodIn_app (goodIn_of _ (by decide +kernel)) ggX5_ringsLeft_X5_left
theorem dX5_ringsLeft_0 : decode cX5_ringsLeft 0 = .ok (.aload_n 0, 1) := by decide +kernel
theorem dX5_ringsLeft_1 : decode cX5_ringsLeft 1 = .ok (.aload_n 0, 1) := by decide +kernel
theorem dX5_ringsLeft_2 : decode cX5_ringsLeft 2 = .ok (.iload_n 1, 1) := by decide +kernel
theorem dX5_ringsLeft_3 : decode cX5_ringsLeft 3 = .ok (.invokevirtual 106, 3) := by decide +kernel
theorem dX5_ringsLeft_6 : decode cX5_ringsLeft 6 = .ok (.invokevirtual 109, 3) := by decide +kernel
theorem dX5_ringsLeft_9 : decode cX5_ringsLeft 9 = .ok (.ifCond .eq 11, 3) := by decide +kernel
theorem dX5_ringsLeft_12 : decode cX5_ringsLeft 12 = .ok (.aload_n 0, 1) := by decide +kernel
theorem dX5_ringsLeft_13 : decode cX5_ringsLeft 13 = .ok (.iload_n 1, 1) := by decide +kernel
theorem dX5_ringsLeft_14 : decode cX5_ringsLeft 14 = .ok (.invokevirtual 145, 3) := by decide +kernel
theorem dX5_ringsLeft_17 : decode cX5_ringsLeft 17 = .ok (.goto 4, 3) := by decide +kernel
theorem dX5_ringsLeft_20 : decode cX5_ringsLeft 20 = .ok (.iconst 0, 1) := by decide +kernel
theorem dX5_ringsLeft_21 : decode cX5_ringsLeft 21 = .ok (.ireturn, 1) := by decide +kernel
set_option maxRecDepth 20000 in
theorem ggX5_floorOf_X5_isServant : GoodIn wsX5_floorOf wsX5_isServant := goodIn_r _ [6, 7, 8, 9, 5, 10, 16, 17, 18, 19, 20, 21, 22, 23, 24, 25, 26] (by decide +kernel) (by decide +kernel)
set_option maxRecDepth 20000 in
theorem gX5_floorOf_X5_isServant : GoodIn wsX5_floorOf (wsV RX5 148 RX5 yX5_isServant wsX5_isServant) := goodIn_app (goodIn_of _ (by decide +kernel)) ggX5_floorOf_X5_isServant
set_option maxRecDepth 20000 in
theorem ggX5_floorOf_X5_isKnown : GoodIn wsX5_floorOf wsX5_isKnown := goodIn_r _ [14, 15, 16, 17, 18, 19, 20, 21, 22, 23, 24, 25, 26] (by decide +kernel) (by decide +kernel)
set_option maxRecDepth 20000 in
theorem gX5_floorOf_X5_isKnown : GoodIn wsX5_floorOf (wsV RX5 109 RX5 yX5_isKnown wsX5_isKnown) := goodIn_app (goodIn_of _ (by decide +kernel)) ggX5_floorOf_X5_isKnown
theorem dX5_floorOf_0 : decode cX5_floorOf 0 = .ok (.aload_n 0, 1) := by decide +kernel
theorem dX5_floorOf_1 : decode cX5_floorOf 1 = .ok (.aload_n 0, 1) := by decide +kernel
theorem dX5_floorOf_2 : decode cX5_floorOf 2 = .ok (.iload_n 1, 1) := by decide +kernel
theorem dX5_floorOf_3 : decode cX5_floorOf 3 = .ok (.invokevirtual 148, 3) := by decide +kernel
theorem dX5_floorOf_6 : decode cX5_floorOf 6 = .ok (.invokevirtual 109, 3) := by decide +kernel
theorem dX5_floorOf_9 : decode cX5_floorOf 9 = .ok (.ifCond .eq 15, 3) := by decide +kernel
theorem dX5_floorOf_12 : decode cX5_floorOf 12 = .ok (.aload_n 0, 1) := by decide +kernel
theorem dX5_floorOf_13 : decode cX5_floorOf 13 = .ok (.getfield 29, 3) := by decide +kernel
theorem dX5_floorOf_16 : decode cX5_floorOf 16 = .ok (.bipush 31, 2) := by decide +kernel
theorem dX5_floorOf_18 : decode cX5_floorOf 18 = .ok (.iload_n 1, 1) := by decide +kernel
theorem dX5_floorOf_19 : decode cX5_floorOf 19 = .ok (.iadd, 1) := by decide +kernel
theorem dX5_floorOf_20 : decode cX5_floorOf 20 = .ok (.iaload, 1) := by decide +kernel
theorem dX5_floorOf_21 : decode cX5_floorOf 21 = .ok (.goto 4, 3) := by decide +kernel
theorem dX5_floorOf_24 : decode cX5_floorOf 24 = .ok (.iconst 0, 1) := by decide +kernel
theorem dX5_floorOf_25 : decode cX5_floorOf 25 = .ok (.ireturn, 1) := by decide +kernel
theorem dX5_whom_0 : decode cX5_whom 0 = .ok (.aload_n 0, 1) := by decide +kernel
theorem dX5_whom_1 : decode cX5_whom 1 = .ok (.getfield 29, 3) := by decide +kernel
theorem dX5_whom_4 : decode cX5_whom 4 = .ok (.bipush 37, 2) := by decide +kernel
theorem dX5_whom_6 : decode cX5_whom 6 = .ok (.iload_n 1, 1) := by decide +kernel
theorem dX5_whom_7 : decode cX5_whom 7 = .ok (.iadd, 1) := by decide +kernel
theorem dX5_whom_8 : decode cX5_whom 8 = .ok (.iaload, 1) := by decide +kernel
theorem dX5_whom_9 : decode cX5_whom 9 = .ok (.iload_n 2, 1) := by decide +kernel
theorem dX5_whom_10 : decode cX5_whom 10 = .ok (.if_icmp .ne 15, 3) := by decide +kernel
theorem dX5_whom_13 : decode cX5_whom 13 = .ok (.aload_n 0, 1) := by decide +kernel
theorem dX5_whom_14 : decode cX5_whom 14 = .ok (.getfield 29, 3) := by decide +kernel
theorem dX5_whom_17 : decode cX5_whom 17 = .ok (.bipush 43, 2) := by decide +kernel
theorem dX5_whom_19 : decode cX5_whom 19 = .ok (.iload_n 1, 1) := by decide +kernel
theorem dX5_whom_20 : decode cX5_whom 20 = .ok (.iadd, 1) := by decide +kernel
theorem dX5_whom_21 : decode cX5_whom 21 = .ok (.iaload, 1) := by decide +kernel
theorem dX5_whom_22 : decode cX5_whom 22 = .ok (.goto 4, 3) := by decide +kernel
theorem dX5_whom_25 : decode cX5_whom 25 = .ok (.iconst (-1), 1) := by decide +kernel
theorem dX5_whom_26 : decode cX5_whom 26 = .ok (.ireturn, 1) := by decide +kernel
set_option maxRecDepth 20000 in
theorem ggX5_goesTo_X5_isServant : GoodIn wsX5_goesTo wsX5_isServant := goodIn_r _ [5, 6, 7, 8, 4, 9, 20, 21, 22, 23, 24, 25, 26, 27, 28, 29, 30] (by decide +kernel) (by decide +kernel)
set_option maxRecDepth 20000 in
theorem gX5_goesTo_X5_isServant : GoodIn wsX5_goesTo (wsV RX5 148 RX5 yX5_isServant wsX5_isServant) := goodIn_app (goodIn_of _ (by decide +kernel)) ggX5_goesTo_X5_isServant
set_option maxRecDepth 20000 in
theorem ggX5_goesTo_X5_isKnown : GoodIn wsX5_goesTo wsX5_isKnown := goodIn_r _ [13, 14, 20, 21, 22, 23, 24, 25, 26, 27, 28, 29, 30] (by decide +kernel) (by decide +kernel)
set_option maxRecDepth 20000 in
theorem gX5_goesTo_X5_isKnown : GoodIn wsX5_goesTo (wsV RX5 109 RX5 yX5_isKnown wsX5_isKnown) := goodIn_app (goodIn_of _ (by decide +kernel)) ggX5_goesTo_X5_isKnown
set_option maxRecDepth 20000 in
theorem ggX5_goesTo_X5_whom : GoodIn wsX5_goesTo wsX5_whom := goodIn_r _ [18, 19, 20, 21, 22, 23, 24, 25, 26, 27, 28, 29, 30] (by decide +kernel) (by decide +kernel)
set_option maxRecDepth 20000 in
theorem gX5_goesTo_X5_whom : GoodIn wsX5_goesTo (wsV RX5 151 RX5 yX5_whom wsX5_whom) := goodIn_app (goodIn_of _ (by decide +kernel)) ggX5_goesTo_X5_whom
theorem dX5_goesTo_0 : decode cX5_goesTo 0 = .ok (.aload_n 0, 1) := by decide +kernel
theorem dX5_goesTo_1 : decode cX5_goesTo 1 = .ok (.aload_n 0, 1) := by decide +kernel
theorem dX5_goesTo_2 : decode cX5_goesTo 2 = .ok (.iload_n 1, 1) := by decide +kernel
theorem dX5_goesTo_3 : decode cX5_goesTo 3 = .ok (.invokevirtual 148, 3) := by decide +kernel
theorem dX5_goesTo_6 : decode cX5_goesTo 6 = .ok (.invokevirtual 109, 3) := by decide +kernel
theorem dX5_goesTo_9 : decode cX5_goesTo 9 = .ok (.ifCond .eq 12, 3) := by decide +kernel
theorem dX5_goesTo_12 : decode cX5_goesTo 12 = .ok (.aload_n 0, 1) := by decide +kernel
theorem dX5_goesTo_13 : decode cX5_goesTo 13 = .ok (.iload_n 1, 1) := by decide +kernel
theorem dX5_goesTo_14 : decode cX5_goesTo 14 = .ok (.iconst 1, 1) := by decide +kernel
theorem dX5_goesTo_15 : decode cX5_goesTo 15 = .ok (.invokevirtual 151, 3) := by decide +kernel
theorem dX5_goesTo_18 : decode cX5_goesTo 18 = .ok (.goto 4, 3) := by decide +kernel
theorem dX5_goesTo_21 : decode cX5_goesTo 21 = .ok (.iconst 0, 1) := by decide +kernel
theorem dX5_goesTo_22 : decode cX5_goesTo 22 = .ok (.ireturn, 1) := by decide +kernel
set_option maxRecDepth 20000 in
theorem ggX5_serves_X5_isServant : GoodIn wsX5_serves wsX5_isServant := goodIn_r _ [5, 6, 7, 8, 4, 9, 20, 21, 22, 23, 24, 25, 26, 27, 28, 29, 30] (by decide +kernel) (by decide +kernel)
set_option maxRecDepth 20000 in
theorem gX5_serves_X5_isServant : GoodIn wsX5_serves (wsV RX5 148 RX5 yX5_isServant wsX5_isServant) := goodIn_app (goodIn_of _ (by decide +kernel)) ggX5_serves_X5_isServant
set_option maxRecDepth 20000 in
theorem ggX5_serves_X5_isKnown : GoodIn wsX5_serves wsX5_isKnown := goodIn_r _ [13, 14, 20, 21, 22, 23, 24, 25, 26, 27, 28, 29, 30] (by decide +kernel) (by decide +kernel)
set_option maxRecDepth 20000 in
theorem gX5_serves_X5_isKnown : GoodIn wsX5_serves (wsV RX5 109 RX5 yX5_isKnown wsX5_isKnown) := goodIn_app (goodIn_of _ (by decide +kernel)) ggX5_serves_X5_isKnown
set_option maxRecDepth 20000 in
theorem ggX5_serves_X5_whom : GoodIn wsX5_serves wsX5_whom := goodIn_r _ [18, 19, 20, 21, 22, 23, 24, 25, 26, 27, 28, 29, 30] (by decide +kernel) (by decide +kernel)
set_option maxRecDepth 20000 in
theorem gX5_serves_X5_whom : GoodIn wsX5_serves (wsV RX5 151 RX5 yX5_whom wsX5_whom) := goodIn_app (goodIn_of _ (by decide +kernel)) ggX5_serves_X5_whom
theorem dX5_serves_0 : decode cX5_serves 0 = .ok (.aload_n 0, 1) := by decide +kernel
theorem dX5_serves_1 : decode cX5_serves 1 = .ok (.aload_n 0, 1) := by decide +kernel
theorem dX5_serves_2 : decode cX5_serves 2 = .ok (.iload_n 1, 1) := by decide +kernel
theorem dX5_serves_3 : decode cX5_serves 3 = .ok (.invokevirtual 148, 3) := by decide +kernel
theorem dX5_serves_6 : decode cX5_serves 6 = .ok (.invokevirtual 109, 3) := by decide +kernel
theorem dX5_serves_9 : decode cX5_serves 9 = .ok (.ifCond .eq 12, 3) := by decide +kernel
theorem dX5_serves_12 : decode cX5_serves 12 = .ok (.aload_n 0, 1) := by decide +kernel
theorem dX5_serves_13 : decode cX5_serves 13 = .ok (.iload_n 1, 1) := by decide +kernel
theorem dX5_serves_14 : decode cX5_serves 14 = .ok (.iconst 2, 1) := by decide +kernel
theorem dX5_serves_15 : decode cX5_serves 15 = .ok (.invokevirtual 151, 3) := by decide +kernel
theorem dX5_serves_18 : decode cX5_serves 18 = .ok (.goto 4, 3) := by decide +kernel
theorem dX5_serves_21 : decode cX5_serves 21 = .ok (.iconst 0, 1) := by decide +kernel
theorem dX5_serves_22 : decode cX5_serves 22 = .ok (.ireturn, 1) := by decide +kernel
set_option maxRecDepth 20000 in
theorem ggX5_minutesLeft_X5_isServant : GoodIn wsX5_minutesLeft wsX5_isServant := goodIn_r _ [6, 7, 8, 9, 5, 10, 16, 17, 18, 19, 20, 21, 22, 23, 24, 25, 26] (by decide +kernel) (by decide +kernel)
set_option maxRecDepth 20000 in
theorem gX5_minutesLeft_X5_isServant : GoodIn wsX5_minutesLeft (wsV RX5 148 RX5 yX5_isServant wsX5_isServant) := goodIn_app (goodIn_of _ (by decide +kernel)) ggX5_minutesLeft_X5_isServant
set_option maxRecDepth 20000 in
theorem ggX5_minutesLeft_X5_isKnown : GoodIn wsX5_minutesLeft wsX5_isKnown := goodIn_r _ [14, 15, 16, 17, 18, 19, 20, 21, 22, 23, 24, 25, 26] (by decide +kernel) (by decide +kernel)
set_option maxRecDepth 20000 in
theorem gX5_minutesLeft_X5_isKnown : GoodIn wsX5_minutesLeft (wsV RX5 109 RX5 yX5_isKnown wsX5_isKnown) := goodIn_app (goodIn_of _ (by decide +kernel)) ggX5_minutesLeft_X5_isKnown
theorem dX5_minutesLeft_0 : decode cX5_minutesLeft 0 = .ok (.aload_n 0, 1) := by decide +kernel
theorem dX5_minutesLeft_1 : decode cX5_minutesLeft 1 = .ok (.aload_n 0, 1) := by decide +kernel
theorem dX5_minutesLeft_2 : decode cX5_minutesLeft 2 = .ok (.iload_n 1, 1) := by decide +kernel
theorem dX5_minutesLeft_3 : decode cX5_minutesLeft 3 = .ok (.invokevirtual 148, 3) := by decide +kernel
theorem dX5_minutesLeft_6 : decode cX5_minutesLeft 6 = .ok (.invokevirtual 109, 3) := by decide +kernel
theorem dX5_minutesLeft_9 : decode cX5_minutesLeft 9 = .ok (.ifCond .eq 15, 3) := by decide +kernel
theorem dX5_minutesLeft_12 : decode cX5_minutesLeft 12 = .ok (.aload_n 0, 1) := by decide +kernel
theorem dX5_minutesLeft_13 : decode cX5_minutesLeft 13 = .ok (.getfield 29, 3) := by decide +kernel
theorem dX5_minutesLeft_16 : decode cX5_minutesLeft 16 = .ok (.bipush 49, 2) := by decide +kernel
theorem dX5_minutesLeft_18 : decode cX5_minutesLeft 18 = .ok (.iload_n 1, 1) := by decide +kernel
theorem dX5_minutesLeft_19 : decode cX5_minutesLeft 19 = .ok (.iadd, 1) := by decide +kernel
theorem dX5_minutesLeft_20 : decode cX5_minutesLeft 20 = .ok (.iaload, 1) := by decide +kernel
theorem dX5_minutesLeft_21 : decode cX5_minutesLeft 21 = .ok (.goto 4, 3) := by decide +kernel
theorem dX5_minutesLeft_24 : decode cX5_minutesLeft 24 = .ok (.iconst 0, 1) := by decide +kernel
theorem dX5_minutesLeft_25 : decode cX5_minutesLeft 25 = .ok (.ireturn, 1) := by decide +kernel
set_option maxRecDepth 20000 in
theorem ggX5_wayTo_X5_isServant : GoodIn wsX5_wayTo wsX5_isServant := goodIn_r _ [5, 6, 7, 8, 4, 9, 34, 35, 36, 37, 38, 39, 40, 41, 42, 43, 44] (by decide +kernel) (by decide +kernel)
set_option maxRecDepth 20000 in
theorem gX5_wayTo_X5_isServant : GoodIn wsX5_wayTo (wsV RX5 148 RX5 yX5_isServant wsX5_isServant) := goodIn_app (goodIn_of _ (by decide +kernel)) ggX5_wayTo_X5_isServant
set_option maxRecDepth 20000 in
theorem ggX5_wayTo_X5_isRoom : GoodIn wsX5_wayTo wsX5_isRoom := goodIn_r _ [13, 14, 7, 8, 4, 9, 34, 35, 36, 37, 38, 39, 40, 41, 42, 43, 44] (by decide +kernel) (by decide +kernel)
set_option maxRecDepth 20000 in
theorem gX5_wayTo_X5_isRoom : GoodIn wsX5_wayTo (wsV RX5 106 RX5 yX5_isRoom wsX5_isRoom) := goodIn_app (goodIn_of _ (by decide +kernel)) ggX5_wayTo_X5_isRoom
set_option maxRecDepth 20000 in
theorem ggX5_wayTo_X5_isKnown : GoodIn wsX5_wayTo wsX5_isKnown := goodIn_r _ [18, 19, 34, 35, 36, 37, 38, 39, 40, 41, 42, 43, 44] (by decide +kernel) (by decide +kernel)
set_option maxRecDepth 20000 in
theorem gX5_wayTo_X5_isKnown : GoodIn wsX5_wayTo (wsV RX5 109 RX5 yX5_isKnown wsX5_isKnown) := goodIn_app (goodIn_of _ (by decide +kernel)) ggX5_wayTo_X5_isKnown
set_option maxRecDepth 20000 in
theorem ggX5_wayTo_X5_way : GoodIn wsX5_wayTo wsX5_way := goodIn_r _ [23, 24, 25, 26, 27, 28, 29, 30, 31, 32, 33, 34, 35, 36, 37, 38, 39, 40, 41, 42, 43, 44] (by decide +kernel) (by decide +kernel)
set_option maxRecDepth 20000 in
theorem gX5_wayTo_X5_way : GoodIn wsX5_wayTo (wsV RX5 68 RX5 yX5_way wsX5_way) := goodIn_app (goodIn_of _ (by decide +kernel)) ggX5_wayTo_X5_way
theorem dX5_wayTo_0 : decode cX5_wayTo 0 = .ok (.aload_n 0, 1) := by decide +kernel
theorem dX5_wayTo_1 : decode cX5_wayTo 1 = .ok (.aload_n 0, 1) := by decide +kernel
theorem dX5_wayTo_2 : decode cX5_wayTo 2 = .ok (.iload_n 1, 1) := by decide +kernel
theorem dX5_wayTo_3 : decode cX5_wayTo 3 = .ok (.invokevirtual 148, 3) := by decide +kernel
theorem dX5_wayTo_6 : decode cX5_wayTo 6 = .ok (.ifCond .eq 15, 3) := by decide +kernel
theorem dX5_wayTo_9 : decode cX5_wayTo 9 = .ok (.aload_n 0, 1) := by decide +kernel
theorem dX5_wayTo_10 : decode cX5_wayTo 10 = .ok (.iload_n 2, 1) := by decide +kernel
theorem dX5_wayTo_11 : decode cX5_wayTo 11 = .ok (.invokevirtual 106, 3) := by decide +kernel
theorem dX5_wayTo_14 : decode cX5_wayTo 14 = .ok (.ifCond .eq 7, 3) := by decide +kernel
theorem dX5_wayTo_17 : decode cX5_wayTo 17 = .ok (.iconst 1, 1) := by decide +kernel
theorem dX5_wayTo_18 : decode cX5_wayTo 18 = .ok (.goto 4, 3) := by decide +kernel
theorem dX5_wayTo_21 : decode cX5_wayTo 21 = .ok (.iconst 0, 1) := by decide +kernel
theorem dX5_wayTo_22 : decode cX5_wayTo 22 = .ok (.invokevirtual 109, 3) := by decide +kernel
theorem dX5_wayTo_25 : decode cX5_wayTo 25 = .ok (.ifCond .eq 12, 3) := by decide +kernel
theorem dX5_wayTo_28 : decode cX5_wayTo 28 = .ok (.aload_n 0, 1) := by decide +kernel
theorem dX5_wayTo_29 : decode cX5_wayTo 29 = .ok (.iload_n 1, 1) := by decide +kernel
theorem dX5_wayTo_30 : decode cX5_wayTo 30 = .ok (.iload_n 2, 1) := by decide +kernel
theorem dX5_wayTo_31 : decode cX5_wayTo 31 = .ok (.invokevirtual 68, 3) := by decide +kernel
theorem dX5_wayTo_34 : decode cX5_wayTo 34 = .ok (.goto 4, 3) := by decide +kernel
theorem dX5_wayTo_37 : decode cX5_wayTo 37 = .ok (.iconst 0, 1) := by decide +kernel
theorem dX5_wayTo_38 : decode cX5_wayTo 38 = .ok (.ireturn, 1) := by decide +kernel
set_option maxRecDepth 20000 in
theorem ggX5_nearestIdle_X5_isRoom : GoodIn wsX5_nearestIdle wsX5_isRoom := goodIn_r _ [5, 6, 7, 8, 4, 9, 34, 35, 36, 37, 38, 39, 40, 41, 42, 43, 44] (by decide +kernel) (by decide +kernel)
set_option maxRecDepth 20000 in
theorem gX5_nearestIdle_X5_isRoom : GoodIn wsX5_nearestIdle (wsV RX5 106 RX5 yX5_isRoom wsX5_isRoom) := goodIn_app (goodIn_of _ (by decide +kernel)) ggX5_nearestIdle_X5_isRoom
set_option maxRecDepth 20000 in
theorem ggX5_nearestIdle_X5_isKnown : GoodIn wsX5_nearestIdle wsX5_isKnown := goodIn_r _ [13, 14, 34, 35, 36, 37, 38, 39, 40, 41, 42, 43, 44] (by decide +kernel) (by decide +kernel)
set_option maxRecDepth 20000 in
theorem gX5_nearestIdle_X5_isKnown : GoodIn wsX5_nearestIdle (wsV RX5 109 RX5 yX5_isKnown wsX5_isKnown) := goodIn_app (goodIn_of _ (by decide +kernel)) ggX5_nearestIdle_X5_isKnown
set_option maxRecDepth 20000 in
theorem ggX5_nearestIdle_X5_nearest : GoodIn wsX5_nearestIdle wsX5_nearest := goodIn_r _ [18, 19, 20, 21, 22, 23, 4, 24, 25, 26, 27, 28, 29, 30, 31, 32, 33, 34, 35, 36, 37, 38, 39, 40, 41, 42, 43, 44] (by decide +kernel) (by decide +kernel)
set_option maxRecDepth 20000 in
theorem gX5_nearestIdle_X5_nearest : GoodIn wsX5_nearestIdle (wsV RX5 83 RX5 yX5_nearest wsX5_nearest) := goodIn_app (goodIn_of _ (by decide +kernel)) ggX5_nearestIdle_X5_nearest
theorem dX5_nearestIdle_0 : decode cX5_nearestIdle 0 = .ok (.aload_n 0, 1) := by decide +kernel
theorem dX5_nearestIdle_1 : decode cX5_nearestIdle 1 = .ok (.aload_n 0, 1) := by decide +kernel
theorem dX5_nearestIdle_2 : decode cX5_nearestIdle 2 = .ok (.iload_n 1, 1) := by decide +kernel
theorem dX5_nearestIdle_3 : decode cX5_nearestIdle 3 = .ok (.invokevirtual 106, 3) := by decide +kernel
theorem dX5_nearestIdle_6 : decode cX5_nearestIdle 6 = .ok (.invokevirtual 109, 3) := by decide +kernel
theorem dX5_nearestIdle_9 : decode cX5_nearestIdle 9 = .ok (.ifCond .eq 11, 3) := by decide +kernel
theorem dX5_nearestIdle_12 : decode cX5_nearestIdle 12 = .ok (.aload_n 0, 1) := by decide +kernel
theorem dX5_nearestIdle_13 : decode cX5_nearestIdle 13 = .ok (.iload_n 1, 1) := by decide +kernel
theorem dX5_nearestIdle_14 : decode cX5_nearestIdle 14 = .ok (.invokevirtual 83, 3) := by decide +kernel
theorem dX5_nearestIdle_17 : decode cX5_nearestIdle 17 = .ok (.goto 4, 3) := by decide +kernel
theorem dX5_nearestIdle_20 : decode cX5_nearestIdle 20 = .ok (.iconst 0, 1) := by decide +kernel
theorem dX5_nearestIdle_21 : decode cX5_nearestIdle 21 = .ok (.ireturn, 1) := by decide +kernel
set_option maxRecDepth 20000 in
theorem ggX5_isServed_X5_whom : GoodIn wsX5_isServed wsX5_whom := goodIn_r _ [6, 7, 8, 9, 10, 11, 12, 13, 14, 15, 16, 17, 18] (by decide +kernel) (by decide +kernel)
set_option maxRecDepth 20000 in
theorem gX5_isServed_X5_whom : GoodIn wsX5_isServed (wsV RX5 151 RX5 yX5_whom wsX5_whom) := goodIn_app (goodIn_of _ (by decide +kernel)) ggX5_isServed_X5_whom
theorem dX5_isServed_0 : decode cX5_isServed 0 = .ok (.iconst 0, 1) := by decide +kernel
theorem dX5_isServed_1 : decode cX5_isServed 1 = .ok (.istore_n 2, 1) := by decide +kernel
theorem dX5_isServed_2 : decode cX5_isServed 2 = .ok (.iload_n 2, 1) := by decide +kernel
theorem dX5_isServed_3 : decode cX5_isServed 3 = .ok (.aload_n 0, 1) := by decide +kernel
theorem dX5_isServed_4 : decode cX5_isServed 4 = .ok (.getfield 46, 3) := by decide +kernel
theorem dX5_isServed_7 : decode cX5_isServed 7 = .ok (.if_icmp .ge 21, 3) := by decide +kernel
theorem dX5_isServed_10 : decode cX5_isServed 10 = .ok (.aload_n 0, 1) := by decide +kernel
theorem dX5_isServed_11 : decode cX5_isServed 11 = .ok (.iload_n 2, 1) := by decide +kernel
theorem dX5_isServed_12 : decode cX5_isServed 12 = .ok (.iconst 2, 1) := by decide +kernel
theorem dX5_isServed_13 : decode cX5_isServed 13 = .ok (.invokevirtual 151, 3) := by decide +kernel
theorem dX5_isServed_16 : decode cX5_isServed 16 = .ok (.iload_n 1, 1) := by decide +kernel
theorem dX5_isServed_17 : decode cX5_isServed 17 = .ok (.if_icmp .ne 5, 3) := by decide +kernel
theorem dX5_isServed_20 : decode cX5_isServed 20 = .ok (.iconst 1, 1) := by decide +kernel
theorem dX5_isServed_21 : decode cX5_isServed 21 = .ok (.ireturn, 1) := by decide +kernel
theorem dX5_isServed_22 : decode cX5_isServed 22 = .ok (.iinc 2 1, 3) := by decide +kernel
theorem dX5_isServed_25 : decode cX5_isServed 25 = .ok (.goto (-23), 3) := by decide +kernel
theorem dX5_isServed_28 : decode cX5_isServed 28 = .ok (.iconst 0, 1) := by decide +kernel
theorem dX5_isServed_29 : decode cX5_isServed 29 = .ok (.ireturn, 1) := by decide +kernel
set_option maxRecDepth 20000 in
theorem ggX5_untilServed_X5_keep : GoodIn wsX5_untilServed wsX5_keep := goodIn_r _ [5, 6, 7, 8, 9, 10, 11, 83, 84, 85, 86, 87, 88, 89, 90, 91, 92, 93] (by decide +kernel) (by decide +kernel)
set_option maxRecDepth 20000 in
theorem gX5_untilServed_X5_keep : GoodIn wsX5_untilServed (wsV RX5 154 RX5 yX5_keep wsX5_keep) := goodIn_app (goodIn_of _ (by decide +kernel)) ggX5_untilServed_X5_keep
set_option maxRecDepth 20000 in
theorem ggX5_untilServed_X5_isServed : GoodIn wsX5_untilServed wsX5_isServed := goodIn_r _ [15, 16, 17, 18, 19, 4, 20, 6, 83, 84, 85, 86, 87, 88, 89, 90, 91, 92, 93] (by decide +kernel) (by decide +kernel)
set_option maxRecDepth 20000 in
theorem gX5_untilServed_X5_isServed : GoodIn wsX5_untilServed (wsV RX5 157 RX5 yX5_isServed wsX5_isServed) := goodIn_app (goodIn_of _ (by decide +kernel)) ggX5_untilServed_X5_isServed
set_option maxRecDepth 20000 in
theorem ggX5_untilServed_X5_minuteOn : GoodIn wsX5_untilServed wsX5_minuteOn := goodIn_r _ [24, 25, 6, 16, 26, 27, 28, 4, 29, 30, 31, 32, 33, 34, 35, 36, 37, 38, 39, 40, 41, 42, 43, 44, 45, 46, 47, 48, 49, 50, 51, 52, 53, 54, 55, 56, 57, 58, 59, 60, 61, 62, 63, 64, 65, 66, 67, 68, 69, 70, 71, 72, 73, 74, 75, 76, 77, 78, 83, 84, 85, 86, 87, 88, 89, 90, 91, 92, 93] (by decide +kernel) (by decide +kernel)
set_option maxRecDepth 20000 in
theorem gX5_untilServed_X5_minuteOn : GoodIn wsX5_untilServed (wsV RX5 100 RX5 yX5_minuteOn wsX5_minuteOn) := goodIn_app (goodIn_of _ (by decide +kernel)) ggX5_untilServed_X5_minuteOn
set_option maxRecDepth 20000 in
theorem ggX5_untilServed_X5_bringBack : GoodIn wsX5_untilServed wsX5_bringBack := goodIn_r _ [82, 7, 6, 8, 9, 10, 11, 83, 84, 85, 86, 87, 88, 89, 90, 91, 92, 93] (by decide +kernel) (by decide +kernel)
set_option maxRecDepth 20000 in
theorem gX5_untilServed_X5_bringBack : GoodIn wsX5_untilServed (wsV RX5 160 RX5 yX5_bringBack wsX5_bringBack) := goodIn_app (goodIn_of _ (by decide +kernel)) ggX5_untilServed_X5_bringBack
theorem dX5_untilServed_0 : decode cX5_untilServed 0 = .ok (.aload_n 0, 1) := by decide +kernel
theorem dX5_untilServed_1 : decode cX5_untilServed 1 = .ok (.invokevirtual 154, 3) := by decide +kernel
theorem dX5_untilServed_4 : decode cX5_untilServed 4 = .ok (.iconst 0, 1) := by decide +kernel
theorem dX5_untilServed_5 : decode cX5_untilServed 5 = .ok (.istore_n 2, 1) := by decide +kernel
theorem dX5_untilServed_6 : decode cX5_untilServed 6 = .ok (.iload_n 2, 1) := by decide +kernel
theorem dX5_untilServed_7 : decode cX5_untilServed 7 = .ok (.bipush 60, 2) := by decide +kernel
theorem dX5_untilServed_9 : decode cX5_untilServed 9 = .ok (.if_icmp .gt 21, 3) := by decide +kernel
theorem dX5_untilServed_12 : decode cX5_untilServed 12 = .ok (.aload_n 0, 1) := by decide +kernel
theorem dX5_untilServed_13 : decode cX5_untilServed 13 = .ok (.iload_n 1, 1) := by decide +kernel
theorem dX5_untilServed_14 : decode cX5_untilServed 14 = .ok (.invokevirtual 157, 3) := by decide +kernel
theorem dX5_untilServed_17 : decode cX5_untilServed 17 = .ok (.ifCond .ne 13, 3) := by decide +kernel
theorem dX5_untilServed_20 : decode cX5_untilServed 20 = .ok (.aload_n 0, 1) := by decide +kernel
theorem dX5_untilServed_21 : decode cX5_untilServed 21 = .ok (.invokevirtual 100, 3) := by decide +kernel
theorem dX5_untilServed_24 : decode cX5_untilServed 24 = .ok (.iinc 2 1, 3) := by decide +kernel
theorem dX5_untilServed_27 : decode cX5_untilServed 27 = .ok (.goto (-21), 3) := by decide +kernel
theorem dX5_untilServed_30 : decode cX5_untilServed 30 = .ok (.aload_n 0, 1) := by decide +kernel
theorem dX5_untilServed_31 : decode cX5_untilServed 31 = .ok (.invokevirtual 160, 3) := by decide +kernel
theorem dX5_untilServed_34 : decode cX5_untilServed 34 = .ok (.iload_n 2, 1) := by decide +kernel
theorem dX5_untilServed_35 : decode cX5_untilServed 35 = .ok (.bipush 60, 2) := by decide +kernel
theorem dX5_untilServed_37 : decode cX5_untilServed 37 = .ok (.if_icmp .le 7, 3) := by decide +kernel
theorem dX5_untilServed_40 : decode cX5_untilServed 40 = .ok (.iconst (-1), 1) := by decide +kernel
theorem dX5_untilServed_41 : decode cX5_untilServed 41 = .ok (.goto 4, 3) := by decide +kernel
theorem dX5_untilServed_44 : decode cX5_untilServed 44 = .ok (.iload_n 2, 1) := by decide +kernel
theorem dX5_untilServed_45 : decode cX5_untilServed 45 = .ok (.ireturn, 1) := by decide +kernel
set_option maxRecDepth 20000 in
theorem ggX5_minutesUntilServed_X5_isRoom : GoodIn wsX5_minutesUntilServed wsX5_isRoom := goodIn_r _ [5, 6, 7, 8, 4, 9, 99, 100, 101, 102, 103, 104, 105, 106, 107, 108, 109] (by decide +kernel) (by decide +kernel)
set_option maxRecDepth 20000 in
theorem gX5_minutesUntilServed_X5_isRoom : GoodIn wsX5_minutesUntilServed (wsV RX5 106 RX5 yX5_isRoom wsX5_isRoom) := goodIn_app (goodIn_of _ (by decide +kernel)) ggX5_minutesUntilServed_X5_isRoom
set_option maxRecDepth 20000 in
theorem ggX5_minutesUntilServed_X5_isKnown : GoodIn wsX5_minutesUntilServed wsX5_isKnown := goodIn_r _ [13, 14, 99, 100, 101, 102, 103, 104, 105, 106, 107, 108, 109] (by decide +kernel) (by decide +kernel)
set_option maxRecDepth 20000 in
theorem gX5_minutesUntilServed_X5_isKnown : GoodIn wsX5_minutesUntilServed (wsV RX5 109 RX5 yX5_isKnown wsX5_isKnown) := goodIn_app (goodIn_of _ (by decide +kernel)) ggX5_minutesUntilServed_X5_isKnown
set_option maxRecDepth 20000 in
theorem ggX5_minutesUntilServed_X5_untilServed : GoodIn wsX5_minutesUntilServed wsX5_untilServed := goodIn_r _ [18, 19, 20, 21, 4, 22, 23, 24, 25, 26, 27, 28, 29, 30, 31, 32, 33, 34, 35, 36, 37, 38, 39, 40, 41, 6, 42, 43, 44, 45, 46, 47, 48, 49, 50, 51, 52, 53, 54, 55, 56, 57, 58, 59, 60, 61, 62, 63, 64, 65, 66, 67, 68, 69, 70, 71, 72, 73, 74, 75, 76, 77, 78, 79, 80, 81, 82, 83, 84, 85, 86, 87, 88, 89, 90, 91, 92, 93, 94, 95, 96, 97, 98, 99, 100, 101, 102, 103, 104, 105, 106, 107, 108, 109] (by decide +kernel) (by decide +kernel)
set_option maxRecDepth 20000 in
theorem gX5_minutesUntilServed_X5_untilServed : GoodIn wsX5_minutesUntilServed (wsV RX5 163 RX5 yX5_untilServed wsX5_untilServed) := goodIn_app (goodIn_of _ (by decide +kernel)) ggX5_minutesUntilServed_X5_untilServed
theorem dX5_minutesUntilServed_0 : decode cX5_minutesUntilServed 0 = .ok (.aload_n 0, 1) := by decide +kernel
theorem dX5_minutesUntilServed_1 : decode cX5_minutesUntilServed 1 = .ok (.aload_n 0, 1) := by decide +kernel
theorem dX5_minutesUntilServed_2 : decode cX5_minutesUntilServed 2 = .ok (.iload_n 1, 1) := by decide +kernel
theorem dX5_minutesUntilServed_3 : decode cX5_minutesUntilServed 3 = .ok (.invokevirtual 106, 3) := by decide +kernel
theorem dX5_minutesUntilServed_6 : decode cX5_minutesUntilServed 6 = .ok (.invokevirtual 109, 3) := by decide +kernel
theorem dX5_minutesUntilServed_9 : decode cX5_minutesUntilServed 9 = .ok (.ifCond .eq 11, 3) := by decide +kernel
theorem dX5_minutesUntilServed_12 : decode cX5_minutesUntilServed 12 = .ok (.aload_n 0, 1) := by decide +kernel
theorem dX5_minutesUntilServed_13 : decode cX5_minutesUntilServed 13 = .ok (.iload_n 1, 1) := by decide +kernel
theorem dX5_minutesUntilServed_14 : decode cX5_minutesUntilServed 14 = .ok (.invokevirtual 163, 3) := by decide +kernel
theorem dX5_minutesUntilServed_17 : decode cX5_minutesUntilServed 17 = .ok (.goto 4, 3) := by decide +kernel
theorem dX5_minutesUntilServed_20 : decode cX5_minutesUntilServed 20 = .ok (.iconst 0, 1) := by decide +kernel
theorem dX5_minutesUntilServed_21 : decode cX5_minutesUntilServed 21 = .ok (.ireturn, 1) := by decide +kernel
set_option maxRecDepth 20000 in
theorem ggX5_soon_X5_keep : GoodIn wsX5_soon wsX5_keep := goodIn_r _ [6, 1, 7, 8, 9, 10, 11, 79, 80, 81, 82, 83, 84, 85, 86, 87, 88, 89] (by decide +kernel) (by decide +kernel)
set_option maxRecDepth 20000 in
theorem gX5_soon_X5_keep : GoodIn wsX5_soon (wsV RX5 154 RX5 yX5_keep wsX5_keep) := goodIn_app (goodIn_of _ (by decide +kernel)) ggX5_soon_X5_keep
set_option maxRecDepth 20000 in
theorem ggX5_soon_X5_minutesOn : GoodIn wsX5_soon wsX5_minutesOn := goodIn_r _ [15, 16, 17, 18, 5, 19, 20, 1, 21, 22, 23, 24, 25, 26, 27, 28, 29, 30, 31, 32, 33, 34, 35, 36, 37, 38, 39, 40, 41, 42, 43, 44, 45, 46, 47, 48, 49, 50, 51, 52, 53, 54, 55, 56, 57, 58, 59, 60, 61, 62, 63, 64, 65, 66, 67, 68, 69, 70, 71, 72, 73, 74, 79, 80, 81, 82, 83, 84, 85, 86, 87, 88, 89] (by decide +kernel) (by decide +kernel)
set_option maxRecDepth 20000 in
theorem gX5_soon_X5_minutesOn : GoodIn wsX5_soon (wsV RX5 124 RX5 yX5_minutesOn wsX5_minutesOn) := goodIn_app (goodIn_of _ (by decide +kernel)) ggX5_soon_X5_minutesOn
set_option maxRecDepth 20000 in
theorem ggX5_soon_X5_bringBack : GoodIn wsX5_soon wsX5_bringBack := goodIn_r _ [78, 7, 1, 8, 9, 10, 11, 79, 80, 81, 82, 83, 84, 85, 86, 87, 88, 89] (by decide +kernel) (by decide +kernel)
set_option maxRecDepth 20000 in
theorem gX5_soon_X5_bringBack : GoodIn wsX5_soon (wsV RX5 160 RX5 yX5_bringBack wsX5_bringBack) := goodIn_app (goodIn_of _ (by decide +kernel)) ggX5_soon_X5_bringBack
theorem dX5_soon_0 : decode cX5_soon 0 = .ok (.aload_n 0, 1) := by decide +kernel
theorem dX5_soon_1 : decode cX5_soon 1 = .ok (.invokevirtual 154, 3) := by decide +kernel
theorem dX5_soon_4 : decode cX5_soon 4 = .ok (.aload_n 0, 1) := by decide +kernel
theorem dX5_soon_5 : decode cX5_soon 5 = .ok (.iload_n 1, 1) := by decide +kernel
theorem dX5_soon_6 : decode cX5_soon 6 = .ok (.invokevirtual 124, 3) := by decide +kernel
theorem dX5_soon_9 : decode cX5_soon 9 = .ok (.aload_n 0, 1) := by decide +kernel
theorem dX5_soon_10 : decode cX5_soon 10 = .ok (.getfield 29, 3) := by decide +kernel
theorem dX5_soon_13 : decode cX5_soon 13 = .ok (.iconst 2, 1) := by decide +kernel
theorem dX5_soon_14 : decode cX5_soon 14 = .ok (.iaload, 1) := by decide +kernel
theorem dX5_soon_15 : decode cX5_soon 15 = .ok (.istore_n 2, 1) := by decide +kernel
theorem dX5_soon_16 : decode cX5_soon 16 = .ok (.aload_n 0, 1) := by decide +kernel
theorem dX5_soon_17 : decode cX5_soon 17 = .ok (.invokevirtual 160, 3) := by decide +kernel
theorem dX5_soon_20 : decode cX5_soon 20 = .ok (.iload_n 2, 1) := by decide +kernel
theorem dX5_soon_21 : decode cX5_soon 21 = .ok (.aload_n 0, 1) := by decide +kernel
theorem dX5_soon_22 : decode cX5_soon 22 = .ok (.getfield 29, 3) := by decide +kernel
theorem dX5_soon_25 : decode cX5_soon 25 = .ok (.iconst 2, 1) := by decide +kernel
theorem dX5_soon_26 : decode cX5_soon 26 = .ok (.iaload, 1) := by decide +kernel
theorem dX5_soon_27 : decode cX5_soon 27 = .ok (.isub, 1) := by decide +kernel
theorem dX5_soon_28 : decode cX5_soon 28 = .ok (.ireturn, 1) := by decide +kernel
set_option maxRecDepth 20000 in
theorem ggX5_servedIn_X5_isIn : GoodIn wsX5_servedIn wsX5_isIn := goodIn_r _ [5] (by decide +kernel) (by decide +kernel)
set_option maxRecDepth 20000 in
theorem gX5_servedIn_X5_isIn : GoodIn wsX5_servedIn (va_wsS RX5 42 yX5_isIn wsX5_isIn) := goodIn_app (goodIn_of _ (by decide +kernel)) ggX5_servedIn_X5_isIn
set_option maxRecDepth 20000 in
theorem ggX5_servedIn_X5_soon : GoodIn wsX5_servedIn wsX5_soon := goodIn_r _ [9, 10, 11, 12, 13, 4, 14, 15, 16, 17, 18, 19, 20, 21, 22, 23, 24, 25, 26, 27, 28, 29, 30, 31, 32, 33, 34, 35, 36, 37, 38, 39, 40, 41, 42, 43, 44, 45, 46, 47, 48, 49, 50, 51, 52, 53, 54, 55, 56, 57, 58, 59, 60, 61, 62, 63, 64, 65, 66, 67, 68, 69, 70, 71, 72, 73, 74, 75, 76, 77, 78, 79, 80, 81, 82, 83, 84, 85, 86, 91, 92, 93, 94, 95, 96, 97, 98, 99, 100, 101] (by decide +kernel) (by decide +kernel)
set_option maxRecDepth 20000 in
theorem gX5_servedIn_X5_soon : GoodIn wsX5_servedIn (wsV RX5 166 RX5 yX5_soon wsX5_soon) := goodIn_app (goodIn_of _ (by decide +kernel)) ggX5_servedIn_X5_soon
set_option maxRecDepth 20000 in
theorem ggX5_servedIn_X5_no : GoodIn wsX5_servedIn wsX5_no := goodIn_r _ [90, 1, 91, 92, 93, 94, 95, 96, 97, 98, 99, 100, 101] (by decide +kernel) (by decide +kernel)
set_option maxRecDepth 20000 in
theorem gX5_servedIn_X5_no : GoodIn wsX5_servedIn (wsV RX5 103 RX5 yX5_no wsX5_no) := goodIn_app (goodIn_of _ (by decide +kernel)) ggX5_servedIn_X5_no
theorem dX5_servedIn_0 : decode cX5_servedIn 0 = .ok (.aload_n 0, 1) := by decide +kernel
theorem dX5_servedIn_1 : decode cX5_servedIn 1 = .ok (.iconst 0, 1) := by decide +kernel
theorem dX5_servedIn_2 : decode cX5_servedIn 2 = .ok (.putfield 35, 3) := by decide +kernel
theorem dX5_servedIn_5 : decode cX5_servedIn 5 = .ok (.iload_n 1, 1) := by decide +kernel
theorem dX5_servedIn_6 : decode cX5_servedIn 6 = .ok (.iconst 1, 1) := by decide +kernel
theorem dX5_servedIn_7 : decode cX5_servedIn 7 = .ok (.bipush 60, 2) := by decide +kernel
theorem dX5_servedIn_9 : decode cX5_servedIn 9 = .ok (.invokestatic 42, 3) := by decide +kernel
theorem dX5_servedIn_12 : decode cX5_servedIn 12 = .ok (.ifCond .eq 11, 3) := by decide +kernel
theorem dX5_servedIn_15 : decode cX5_servedIn 15 = .ok (.aload_n 0, 1) := by decide +kernel
theorem dX5_servedIn_16 : decode cX5_servedIn 16 = .ok (.iload_n 1, 1) := by decide +kernel
theorem dX5_servedIn_17 : decode cX5_servedIn 17 = .ok (.invokevirtual 166, 3) := by decide +kernel
theorem dX5_servedIn_20 : decode cX5_servedIn 20 = .ok (.goto 8, 3) := by decide +kernel
theorem dX5_servedIn_23 : decode cX5_servedIn 23 = .ok (.aload_n 0, 1) := by decide +kernel
theorem dX5_servedIn_24 : decode cX5_servedIn 24 = .ok (.iconst 1, 1) := by decide +kernel
theorem dX5_servedIn_25 : decode cX5_servedIn 25 = .ok (.invokevirtual 103, 3) := by decide +kernel
theorem dX5_servedIn_28 : decode cX5_servedIn 28 = .ok (.ireturn, 1) := by decide +kernel
set_option maxRecDepth 20000 in
theorem ggX5_best_X5_soon : GoodIn wsX5_best wsX5_soon := goodIn_r _ [6, 7, 8, 9, 10, 5, 11, 12, 13, 14, 15, 16, 17, 18, 19, 20, 21, 22, 23, 24, 1, 25, 26, 27, 28, 29, 30, 31, 32, 33, 34, 35, 36, 37, 38, 39, 40, 41, 42, 43, 44, 45, 46, 47, 48, 49, 50, 51, 52, 53, 54, 55, 56, 57, 58, 59, 60, 61, 62, 63, 64, 65, 66, 67, 68, 69, 70, 71, 72, 73, 74, 75, 76, 77, 78, 79, 80, 81, 82, 87, 88, 89, 90, 91, 92, 93, 94, 95, 96, 97] (by decide +kernel) (by decide +kernel)
set_option maxRecDepth 20000 in
theorem gX5_best_X5_soon : GoodIn wsX5_best (wsV RX5 166 RX5 yX5_soon wsX5_soon) := goodIn_app (goodIn_of _ (by decide +kernel)) ggX5_best_X5_soon
set_option maxRecDepth 20000 in
theorem ggX5_best_X5_swap : GoodIn wsX5_best wsX5_swap := goodIn_r _ [86, 37, 87, 88, 89, 90, 91, 92, 93, 94, 95, 96, 97] (by decide +kernel) (by decide +kernel)
set_option maxRecDepth 20000 in
theorem gX5_best_X5_swap : GoodIn wsX5_best (wsV RX5 113 RX5 yX5_swap wsX5_swap) := goodIn_app (goodIn_of _ (by decide +kernel)) ggX5_best_X5_swap
theorem dX5_best_0 : decode cX5_best 0 = .ok (.iconst (-1), 1) := by decide +kernel
theorem dX5_best_1 : decode cX5_best 1 = .ok (.istore_n 2, 1) := by decide +kernel
theorem dX5_best_2 : decode cX5_best 2 = .ok (.aload_n 0, 1) := by decide +kernel
theorem dX5_best_3 : decode cX5_best 3 = .ok (.bipush 40, 2) := by decide +kernel
theorem dX5_best_5 : decode cX5_best 5 = .ok (.invokevirtual 166, 3) := by decide +kernel
theorem dX5_best_8 : decode cX5_best 8 = .ok (.istore_n 3, 1) := by decide +kernel
theorem dX5_best_9 : decode cX5_best 9 = .ok (.iconst 0, 1) := by decide +kernel
theorem dX5_best_10 : decode cX5_best 10 = .ok (.istore 4, 2) := by decide +kernel
theorem dX5_best_12 : decode cX5_best 12 = .ok (.iload 4, 2) := by decide +kernel
theorem dX5_best_14 : decode cX5_best 14 = .ok (.aload_n 0, 1) := by decide +kernel
theorem dX5_best_15 : decode cX5_best 15 = .ok (.getfield 39, 3) := by decide +kernel
theorem dX5_best_18 : decode cX5_best 18 = .ok (.if_icmp .ge 55, 3) := by decide +kernel
theorem dX5_best_21 : decode cX5_best 21 = .ok (.iload 4, 2) := by decide +kernel
theorem dX5_best_23 : decode cX5_best 23 = .ok (.iload_n 1, 1) := by decide +kernel
theorem dX5_best_24 : decode cX5_best 24 = .ok (.if_icmp .ne 6, 3) := by decide +kernel
theorem dX5_best_27 : decode cX5_best 27 = .ok (.goto 40, 3) := by decide +kernel
theorem dX5_best_30 : decode cX5_best 30 = .ok (.aload_n 0, 1) := by decide +kernel
theorem dX5_best_31 : decode cX5_best 31 = .ok (.iload_n 1, 1) := by decide +kernel
theorem dX5_best_32 : decode cX5_best 32 = .ok (.iload 4, 2) := by decide +kernel
theorem dX5_best_34 : decode cX5_best 34 = .ok (.invokevirtual 113, 3) := by decide +kernel
theorem dX5_best_37 : decode cX5_best 37 = .ok (.aload_n 0, 1) := by decide +kernel
theorem dX5_best_38 : decode cX5_best 38 = .ok (.bipush 40, 2) := by decide +kernel
theorem dX5_best_40 : decode cX5_best 40 = .ok (.invokevirtual 166, 3) := by decide +kernel
theorem dX5_best_43 : decode cX5_best 43 = .ok (.istore 5, 2) := by decide +kernel
theorem dX5_best_45 : decode cX5_best 45 = .ok (.aload_n 0, 1) := by decide +kernel
theorem dX5_best_46 : decode cX5_best 46 = .ok (.iload_n 1, 1) := by decide +kernel
theorem dX5_best_47 : decode cX5_best 47 = .ok (.iload 4, 2) := by decide +kernel
theorem dX5_best_49 : decode cX5_best 49 = .ok (.invokevirtual 113, 3) := by decide +kernel
theorem dX5_best_52 : decode cX5_best 52 = .ok (.iload 5, 2) := by decide +kernel
theorem dX5_best_54 : decode cX5_best 54 = .ok (.iload_n 3, 1) := by decide +kernel
theorem dX5_best_55 : decode cX5_best 55 = .ok (.if_icmp .gt 6, 3) := by decide +kernel
theorem dX5_best_58 : decode cX5_best 58 = .ok (.goto 9, 3) := by decide +kernel
theorem dX5_best_61 : decode cX5_best 61 = .ok (.iload 4, 2) := by decide +kernel
theorem dX5_best_63 : decode cX5_best 63 = .ok (.istore_n 2, 1) := by decide +kernel
theorem dX5_best_64 : decode cX5_best 64 = .ok (.iload 5, 2) := by decide +kernel
theorem dX5_best_66 : decode cX5_best 66 = .ok (.istore_n 3, 1) := by decide +kernel
theorem dX5_best_67 : decode cX5_best 67 = .ok (.iinc 4 1, 3) := by decide +kernel
theorem dX5_best_70 : decode cX5_best 70 = .ok (.goto (-58), 3) := by decide +kernel
theorem dX5_best_73 : decode cX5_best 73 = .ok (.iload_n 2, 1) := by decide +kernel
theorem dX5_best_74 : decode cX5_best 74 = .ok (.ireturn, 1) := by decide +kernel
set_option maxRecDepth 20000 in
theorem ggX5_bestToCross_X5_isRoom : GoodIn wsX5_bestToCross wsX5_isRoom := goodIn_r _ [5, 6, 7, 8, 4, 9, 103, 104, 105, 106, 107, 108, 109, 110, 111, 112, 113] (by decide +kernel) (by decide +kernel)
set_option maxRecDepth 20000 in
theorem gX5_bestToCross_X5_isRoom : GoodIn wsX5_bestToCross (wsV RX5 106 RX5 yX5_isRoom wsX5_isRoom) := goodIn_app (goodIn_of _ (by decide +kernel)) ggX5_bestToCross_X5_isRoom
set_option maxRecDepth 20000 in
theorem ggX5_bestToCross_X5_isKnown : GoodIn wsX5_bestToCross wsX5_isKnown := goodIn_r _ [13, 14, 103, 104, 105, 106, 107, 108, 109, 110, 111, 112, 113] (by decide +kernel) (by decide +kernel)
set_option maxRecDepth 20000 in
theorem gX5_bestToCross_X5_isKnown : GoodIn wsX5_bestToCross (wsV RX5 109 RX5 yX5_isKnown wsX5_isKnown) := goodIn_app (goodIn_of _ (by decide +kernel)) ggX5_bestToCross_X5_isKnown
set_option maxRecDepth 20000 in
theorem ggX5_bestToCross_X5_best : GoodIn wsX5_bestToCross wsX5_best := goodIn_r _ [18, 6, 19, 20, 21, 4, 22, 23, 24, 25, 26, 27, 28, 29, 30, 31, 32, 33, 34, 35, 36, 37, 38, 39, 40, 41, 42, 43, 44, 45, 46, 47, 48, 49, 50, 51, 52, 53, 54, 55, 56, 57, 58, 59, 60, 61, 62, 63, 64, 65, 66, 67, 68, 69, 70, 71, 72, 73, 74, 75, 76, 77, 78, 79, 80, 81, 82, 83, 84, 85, 86, 87, 88, 89, 90, 91, 92, 93, 94, 95, 96, 97, 98, 99, 100, 101, 102, 103, 104, 105, 106, 107, 108, 109, 110, 111, 112, 113] (by decide +kernel) (by decide +kernel)
set_option maxRecDepth 20000 in
theorem gX5_bestToCross_X5_best : GoodIn wsX5_bestToCross (wsV RX5 169 RX5 yX5_best wsX5_best) := goodIn_app (goodIn_of _ (by decide +kernel)) ggX5_bestToCross_X5_best
theorem dX5_bestToCross_0 : decode cX5_bestToCross 0 = .ok (.aload_n 0, 1) := by decide +kernel
theorem dX5_bestToCross_1 : decode cX5_bestToCross 1 = .ok (.aload_n 0, 1) := by decide +kernel
theorem dX5_bestToCross_2 : decode cX5_bestToCross 2 = .ok (.iload_n 1, 1) := by decide +kernel
theorem dX5_bestToCross_3 : decode cX5_bestToCross 3 = .ok (.invokevirtual 106, 3) := by decide +kernel
theorem dX5_bestToCross_6 : decode cX5_bestToCross 6 = .ok (.invokevirtual 109, 3) := by decide +kernel
theorem dX5_bestToCross_9 : decode cX5_bestToCross 9 = .ok (.ifCond .eq 11, 3) := by decide +kernel
theorem dX5_bestToCross_12 : decode cX5_bestToCross 12 = .ok (.aload_n 0, 1) := by decide +kernel
theorem dX5_bestToCross_13 : decode cX5_bestToCross 13 = .ok (.iload_n 1, 1) := by decide +kernel
theorem dX5_bestToCross_14 : decode cX5_bestToCross 14 = .ok (.invokevirtual 169, 3) := by decide +kernel
theorem dX5_bestToCross_17 : decode cX5_bestToCross 17 = .ok (.goto 4, 3) := by decide +kernel
theorem dX5_bestToCross_20 : decode cX5_bestToCross 20 = .ok (.iconst 0, 1) := by decide +kernel
theorem dX5_bestToCross_21 : decode cX5_bestToCross 21 = .ok (.ireturn, 1) := by decide +kernel
theorem dX5_meanWait_0 : decode cX5_meanWait 0 = .ok (.aload_n 0, 1) := by decide +kernel
theorem dX5_meanWait_1 : decode cX5_meanWait 1 = .ok (.iconst 0, 1) := by decide +kernel
theorem dX5_meanWait_2 : decode cX5_meanWait 2 = .ok (.putfield 35, 3) := by decide +kernel
theorem dX5_meanWait_5 : decode cX5_meanWait 5 = .ok (.iconst 0, 1) := by decide +kernel
theorem dX5_meanWait_6 : decode cX5_meanWait 6 = .ok (.istore_n 1, 1) := by decide +kernel
theorem dX5_meanWait_7 : decode cX5_meanWait 7 = .ok (.iconst 0, 1) := by decide +kernel
theorem dX5_meanWait_8 : decode cX5_meanWait 8 = .ok (.istore_n 2, 1) := by decide +kernel
theorem dX5_meanWait_9 : decode cX5_meanWait 9 = .ok (.iconst 0, 1) := by decide +kernel
theorem dX5_meanWait_10 : decode cX5_meanWait 10 = .ok (.istore_n 3, 1) := by decide +kernel
theorem dX5_meanWait_11 : decode cX5_meanWait 11 = .ok (.iload_n 3, 1) := by decide +kernel
theorem dX5_meanWait_12 : decode cX5_meanWait 12 = .ok (.aload_n 0, 1) := by decide +kernel
theorem dX5_meanWait_13 : decode cX5_meanWait 13 = .ok (.getfield 39, 3) := by decide +kernel
theorem dX5_meanWait_16 : decode cX5_meanWait 16 = .ok (.if_icmp .ge 40, 3) := by decide +kernel
theorem dX5_meanWait_19 : decode cX5_meanWait 19 = .ok (.aload_n 0, 1) := by decide +kernel
theorem dX5_meanWait_20 : decode cX5_meanWait 20 = .ok (.getfield 29, 3) := by decide +kernel
theorem dX5_meanWait_23 : decode cX5_meanWait 23 = .ok (.bipush 7, 2) := by decide +kernel
theorem dX5_meanWait_25 : decode cX5_meanWait 25 = .ok (.iload_n 3, 1) := by decide +kernel
theorem dX5_meanWait_26 : decode cX5_meanWait 26 = .ok (.iadd, 1) := by decide +kernel
theorem dX5_meanWait_27 : decode cX5_meanWait 27 = .ok (.iaload, 1) := by decide +kernel
theorem dX5_meanWait_28 : decode cX5_meanWait 28 = .ok (.iconst (-1), 1) := by decide +kernel
theorem dX5_meanWait_29 : decode cX5_meanWait 29 = .ok (.if_icmp .ne 6, 3) := by decide +kernel
theorem dX5_meanWait_32 : decode cX5_meanWait 32 = .ok (.goto 18, 3) := by decide +kernel
theorem dX5_meanWait_35 : decode cX5_meanWait 35 = .ok (.iload_n 1, 1) := by decide +kernel
theorem dX5_meanWait_36 : decode cX5_meanWait 36 = .ok (.aload_n 0, 1) := by decide +kernel
theorem dX5_meanWait_37 : decode cX5_meanWait 37 = .ok (.getfield 29, 3) := by decide +kernel
theorem dX5_meanWait_40 : decode cX5_meanWait 40 = .ok (.bipush 7, 2) := by decide +kernel
theorem dX5_meanWait_42 : decode cX5_meanWait 42 = .ok (.iload_n 3, 1) := by decide +kernel
theorem dX5_meanWait_43 : decode cX5_meanWait 43 = .ok (.iadd, 1) := by decide +kernel
theorem dX5_meanWait_44 : decode cX5_meanWait 44 = .ok (.iaload, 1) := by decide +kernel
theorem dX5_meanWait_45 : decode cX5_meanWait 45 = .ok (.iadd, 1) := by decide +kernel
theorem dX5_meanWait_46 : decode cX5_meanWait 46 = .ok (.istore_n 1, 1) := by decide +kernel
theorem dX5_meanWait_47 : decode cX5_meanWait 47 = .ok (.iinc 2 1, 3) := by decide +kernel
theorem dX5_meanWait_50 : decode cX5_meanWait 50 = .ok (.iinc 3 1, 3) := by decide +kernel
theorem dX5_meanWait_53 : decode cX5_meanWait 53 = .ok (.goto (-42), 3) := by decide +kernel
theorem dX5_meanWait_56 : decode cX5_meanWait 56 = .ok (.iload_n 2, 1) := by decide +kernel
theorem dX5_meanWait_57 : decode cX5_meanWait 57 = .ok (.ifCond .ne 7, 3) := by decide +kernel
theorem dX5_meanWait_60 : decode cX5_meanWait 60 = .ok (.dconst 0, 1) := by decide +kernel
theorem dX5_meanWait_61 : decode cX5_meanWait 61 = .ok (.goto 8, 3) := by decide +kernel
theorem dX5_meanWait_64 : decode cX5_meanWait 64 = .ok (.iload_n 1, 1) := by decide +kernel
theorem dX5_meanWait_65 : decode cX5_meanWait 65 = .ok (.i2d, 1) := by decide +kernel
theorem dX5_meanWait_66 : decode cX5_meanWait 66 = .ok (.iload_n 2, 1) := by decide +kernel
theorem dX5_meanWait_67 : decode cX5_meanWait 67 = .ok (.i2d, 1) := by decide +kernel
theorem dX5_meanWait_68 : decode cX5_meanWait 68 = .ok (.ddiv, 1) := by decide +kernel
theorem dX5_meanWait_69 : decode cX5_meanWait 69 = .ok (.dreturn, 1) := by decide +kernel
set_option maxRecDepth 20000 in
theorem ggX5_digest_X5_longest : GoodIn wsX5_digest wsX5_longest := goodIn_r _ [14, 4, 3, 131, 132, 133, 134, 135, 136, 137, 138, 139, 140, 141] (by decide +kernel) (by decide +kernel)
set_option maxRecDepth 20000 in
theorem gX5_digest_X5_longest : GoodIn wsX5_digest (wsV RX5 133 RX5 yX5_longest wsX5_longest) := goodIn_app (goodIn_of _ (by decide +kernel)) ggX5_digest_X5_longest
set_option maxRecDepth 20000 in
theorem ggX5_digest_X5_manyCrossed : GoodIn wsX5_digest wsX5_manyCrossed := goodIn_r _ [18, 4, 8, 131, 132, 133, 134, 135, 136, 137, 138, 139, 140, 141] (by decide +kernel) (by decide +kernel)
set_option maxRecDepth 20000 in
theorem gX5_digest_X5_manyCrossed : GoodIn wsX5_digest (wsV RX5 136 RX5 yX5_manyCrossed wsX5_manyCrossed) := goodIn_app (goodIn_of _ (by decide +kernel)) ggX5_digest_X5_manyCrossed
set_option maxRecDepth 20000 in
theorem ggX5_digest_X5_crossings : GoodIn wsX5_digest wsX5_crossings := goodIn_r _ [22, 4, 8, 131, 132, 133, 134, 135, 136, 137, 138, 139, 140, 141] (by decide +kernel) (by decide +kernel)
set_option maxRecDepth 20000 in
theorem gX5_digest_X5_crossings : GoodIn wsX5_digest (wsV RX5 139 RX5 yX5_crossings wsX5_crossings) := goodIn_app (goodIn_of _ (by decide +kernel)) ggX5_digest_X5_crossings
set_option maxRecDepth 20000 in
theorem ggX5_digest_X5_head : GoodIn wsX5_digest wsX5_head := goodIn_r _ [26, 3, 131, 132, 133, 134, 135, 136, 137, 138, 139, 140, 141] (by decide +kernel) (by decide +kernel)
set_option maxRecDepth 20000 in
theorem gX5_digest_X5_head : GoodIn wsX5_digest (wsV RX5 142 RX5 yX5_head wsX5_head) := goodIn_app (goodIn_of _ (by decide +kernel)) ggX5_digest_X5_head
set_option maxRecDepth 20000 in
theorem ggX5_digest_X5_soon : GoodIn wsX5_digest wsX5_soon := goodIn_r _ [30, 3, 31, 32, 33, 13, 34, 35, 36, 37, 38, 39, 40, 41, 42, 43, 44, 45, 46, 47, 4, 5, 48, 49, 50, 51, 52, 53, 54, 55, 56, 9, 57, 8, 58, 59, 60, 61, 62, 63, 64, 65, 66, 67, 68, 69, 70, 71, 72, 73, 74, 75, 76, 77, 78, 79, 80, 81, 82, 83, 84, 85, 86, 87, 88, 89, 90, 91, 92, 93, 94, 95, 96, 97, 98, 99, 100, 101, 102, 131, 132, 133, 134, 135, 136, 137, 138, 139, 140, 141] (by decide +kernel) (by decide +kernel)
set_option maxRecDepth 20000 in
theorem gX5_digest_X5_soon : GoodIn wsX5_digest (wsV RX5 166 RX5 yX5_soon wsX5_soon) := goodIn_app (goodIn_of _ (by decide +kernel)) ggX5_digest_X5_soon
set_option maxRecDepth 20000 in
theorem ggX5_digest_X5_leads : GoodIn wsX5_digest wsX5_leads := goodIn_r _ [106, 8, 131, 132, 133, 134, 135, 136, 137, 138, 139, 140, 141] (by decide +kernel) (by decide +kernel)
set_option maxRecDepth 20000 in
theorem gX5_digest_X5_leads : GoodIn wsX5_digest (wsV RX5 130 RX5 yX5_leads wsX5_leads) := goodIn_app (goodIn_of _ (by decide +kernel)) ggX5_digest_X5_leads
set_option maxRecDepth 20000 in
theorem ggX5_digest_X5_inLine : GoodIn wsX5_digest wsX5_inLine := goodIn_r _ [61, 3, 131, 132, 133, 134, 135, 136, 137, 138, 139, 140, 141] (by decide +kernel) (by decide +kernel)
set_option maxRecDepth 20000 in
theorem gX5_digest_X5_inLine : GoodIn wsX5_digest (wsV RX5 55 RX5 yX5_inLine wsX5_inLine) := goodIn_app (goodIn_of _ (by decide +kernel)) ggX5_digest_X5_inLine
set_option maxRecDepth 20000 in
theorem ggX5_digest_X5_left : GoodIn wsX5_digest wsX5_left := goodIn_r _ [110, 9, 3, 57, 131, 132, 133, 134, 135, 136, 137, 138, 139, 140, 141] (by decide +kernel) (by decide +kernel)
set_option maxRecDepth 20000 in
theorem gX5_digest_X5_left : GoodIn wsX5_digest (wsV RX5 145 RX5 yX5_left wsX5_left) := goodIn_app (goodIn_of _ (by decide +kernel)) ggX5_digest_X5_left
set_option maxRecDepth 20000 in
theorem ggX5_digest_X5_nearest : GoodIn wsX5_digest wsX5_nearest := goodIn_r _ [82, 5, 3, 83, 84, 85, 13, 86, 57, 87, 88, 89, 90, 91, 92, 93, 94, 131, 132, 133, 134, 135, 136, 137, 138, 139, 140, 141] (by decide +kernel) (by decide +kernel)
set_option maxRecDepth 20000 in
theorem gX5_digest_X5_nearest : GoodIn wsX5_digest (wsV RX5 83 RX5 yX5_nearest wsX5_nearest) := goodIn_app (goodIn_of _ (by decide +kernel)) ggX5_digest_X5_nearest
set_option maxRecDepth 20000 in
theorem ggX5_digest_X5_untilServed : GoodIn wsX5_digest wsX5_untilServed := goodIn_r _ [114, 31, 32, 33, 13, 34, 3, 35, 36, 37, 38, 39, 115, 116, 117, 118, 5, 119, 120, 121, 122, 44, 45, 46, 47, 4, 48, 49, 50, 51, 52, 53, 54, 55, 56, 9, 57, 8, 58, 59, 60, 61, 62, 63, 64, 65, 66, 67, 68, 69, 70, 71, 72, 73, 74, 75, 76, 77, 78, 79, 80, 81, 82, 83, 84, 85, 86, 87, 88, 89, 90, 91, 92, 93, 94, 95, 96, 97, 98, 99, 100, 101, 102, 131, 132, 133, 134, 135, 136, 137, 138, 139, 140, 141] (by decide +kernel) (by decide +kernel)
set_option maxRecDepth 20000 in
theorem gX5_digest_X5_untilServed : GoodIn wsX5_digest (wsV RX5 163 RX5 yX5_untilServed wsX5_untilServed) := goodIn_app (goodIn_of _ (by decide +kernel)) ggX5_digest_X5_untilServed
set_option maxRecDepth 20000 in
theorem ggX5_digest_X5_best : GoodIn wsX5_digest wsX5_best := goodIn_r _ [126, 4, 27, 28, 29, 13, 30, 3, 31, 32, 33, 34, 35, 36, 37, 38, 39, 40, 41, 42, 43, 44, 45, 46, 47, 5, 48, 49, 50, 51, 52, 53, 54, 55, 56, 9, 57, 8, 58, 59, 60, 61, 62, 63, 64, 65, 66, 67, 68, 69, 70, 71, 72, 73, 74, 75, 76, 77, 78, 79, 80, 81, 82, 83, 84, 85, 86, 87, 88, 89, 90, 91, 92, 93, 94, 95, 96, 97, 98, 99, 100, 101, 102, 127, 128, 129, 130, 131, 132, 133, 134, 135, 136, 137, 138, 139, 140, 141] (by decide +kernel) (by decide +kernel)
set_option maxRecDepth 20000 in
theorem gX5_digest_X5_best : GoodIn wsX5_digest (wsV RX5 169 RX5 yX5_best wsX5_best) := goodIn_app (goodIn_of _ (by decide +kernel)) ggX5_digest_X5_best
set_option maxRecDepth 20000 in
theorem ggX5_digest_X5_whom : GoodIn wsX5_digest wsX5_whom := goodIn_r _ [122, 3, 131, 132, 133, 134, 135, 136, 137, 138, 139, 140, 141] (by decide +kernel) (by decide +kernel)
set_option maxRecDepth 20000 in
theorem gX5_digest_X5_whom : GoodIn wsX5_digest (wsV RX5 151 RX5 yX5_whom wsX5_whom) := goodIn_app (goodIn_of _ (by decide +kernel)) ggX5_digest_X5_whom
theorem dX5_digest_0 : decode cX5_digest 0 = .ok (.aload_n 0, 1) := by decide +kernel
theorem dX5_digest_1 : decode cX5_digest 1 = .ok (.iconst 0, 1) := by decide +kernel
theorem dX5_digest_2 : decode cX5_digest 2 = .ok (.putfield 35, 3) := by decide +kernel
theorem dX5_digest_5 : decode cX5_digest 5 = .ok (.bipush 14, 2) := by decide +kernel
theorem dX5_digest_7 : decode cX5_digest 7 = .ok (.newarray .int, 2) := by decide +kernel
theorem dX5_digest_9 : decode cX5_digest 9 = .ok (.dup, 1) := by decide +kernel
theorem dX5_digest_10 : decode cX5_digest 10 = .ok (.iconst 0, 1) := by decide +kernel
theorem dX5_digest_11 : decode cX5_digest 11 = .ok (.aload_n 0, 1) := by decide +kernel
theorem dX5_digest_12 : decode cX5_digest 12 = .ok (.getfield 29, 3) := by decide +kernel
theorem dX5_digest_15 : decode cX5_digest 15 = .ok (.iconst 0, 1) := by decide +kernel
theorem dX5_digest_16 : decode cX5_digest 16 = .ok (.iaload, 1) := by decide +kernel
theorem dX5_digest_17 : decode cX5_digest 17 = .ok (.iastore, 1) := by decide +kernel
theorem dX5_digest_18 : decode cX5_digest 18 = .ok (.dup, 1) := by decide +kernel
theorem dX5_digest_19 : decode cX5_digest 19 = .ok (.iconst 1, 1) := by decide +kernel
theorem dX5_digest_20 : decode cX5_digest 20 = .ok (.aload_n 0, 1) := by decide +kernel
theorem dX5_digest_21 : decode cX5_digest 21 = .ok (.getfield 39, 3) := by decide +kernel
theorem dX5_digest_24 : decode cX5_digest 24 = .ok (.iastore, 1) := by decide +kernel
theorem dX5_digest_25 : decode cX5_digest 25 = .ok (.dup, 1) := by decide +kernel
theorem dX5_digest_26 : decode cX5_digest 26 = .ok (.iconst 2, 1) := by decide +kernel
theorem dX5_digest_27 : decode cX5_digest 27 = .ok (.aload_n 0, 1) := by decide +kernel
theorem dX5_digest_28 : decode cX5_digest 28 = .ok (.getfield 46, 3) := by decide +kernel
theorem dX5_digest_31 : decode cX5_digest 31 = .ok (.iastore, 1) := by decide +kernel
theorem dX5_digest_32 : decode cX5_digest 32 = .ok (.dup, 1) := by decide +kernel
theorem dX5_digest_33 : decode cX5_digest 33 = .ok (.iconst 3, 1) := by decide +kernel
theorem dX5_digest_34 : decode cX5_digest 34 = .ok (.aload_n 0, 1) := by decide +kernel
theorem dX5_digest_35 : decode cX5_digest 35 = .ok (.getfield 29, 3) := by decide +kernel
theorem dX5_digest_38 : decode cX5_digest 38 = .ok (.iconst 1, 1) := by decide +kernel
theorem dX5_digest_39 : decode cX5_digest 39 = .ok (.iaload, 1) := by decide +kernel
theorem dX5_digest_40 : decode cX5_digest 40 = .ok (.iastore, 1) := by decide +kernel
theorem dX5_digest_41 : decode cX5_digest 41 = .ok (.dup, 1) := by decide +kernel
theorem dX5_digest_42 : decode cX5_digest 42 = .ok (.iconst 4, 1) := by decide +kernel
theorem dX5_digest_43 : decode cX5_digest 43 = .ok (.aload_n 0, 1) := by decide +kernel
theorem dX5_digest_44 : decode cX5_digest 44 = .ok (.getfield 29, 3) := by decide +kernel
theorem dX5_digest_47 : decode cX5_digest 47 = .ok (.iconst 2, 1) := by decide +kernel
theorem dX5_digest_48 : decode cX5_digest 48 = .ok (.iaload, 1) := by decide +kernel
theorem dX5_digest_49 : decode cX5_digest 49 = .ok (.iastore, 1) := by decide +kernel
theorem dX5_digest_50 : decode cX5_digest 50 = .ok (.dup, 1) := by decide +kernel
theorem dX5_digest_51 : decode cX5_digest 51 = .ok (.iconst 5, 1) := by decide +kernel
theorem dX5_digest_52 : decode cX5_digest 52 = .ok (.aload_n 0, 1) := by decide +kernel
theorem dX5_digest_53 : decode cX5_digest 53 = .ok (.getfield 29, 3) := by decide +kernel
theorem dX5_digest_56 : decode cX5_digest 56 = .ok (.iconst 3, 1) := by decide +kernel
theorem dX5_digest_57 : decode cX5_digest 57 = .ok (.iaload, 1) := by decide +kernel
theorem dX5_digest_58 : decode cX5_digest 58 = .ok (.iastore, 1) := by decide +kernel
theorem dX5_digest_59 : decode cX5_digest 59 = .ok (.dup, 1) := by decide +kernel
theorem dX5_digest_60 : decode cX5_digest 60 = .ok (.bipush 6, 2) := by decide +kernel
theorem dX5_digest_62 : decode cX5_digest 62 = .ok (.aload_n 0, 1) := by decide +kernel
theorem dX5_digest_63 : decode cX5_digest 63 = .ok (.getfield 29, 3) := by decide +kernel
theorem dX5_digest_66 : decode cX5_digest 66 = .ok (.iconst 4, 1) := by decide +kernel
theorem dX5_digest_67 : decode cX5_digest 67 = .ok (.iaload, 1) := by decide +kernel
theorem dX5_digest_68 : decode cX5_digest 68 = .ok (.iastore, 1) := by decide +kernel
theorem dX5_digest_69 : decode cX5_digest 69 = .ok (.dup, 1) := by decide +kernel
theorem dX5_digest_70 : decode cX5_digest 70 = .ok (.bipush 7, 2) := by decide +kernel
theorem dX5_digest_72 : decode cX5_digest 72 = .ok (.aload_n 0, 1) := by decide +kernel
theorem dX5_digest_73 : decode cX5_digest 73 = .ok (.getfield 29, 3) := by decide +kernel
theorem dX5_digest_76 : decode cX5_digest 76 = .ok (.iconst 5, 1) := by decide +kernel
theorem dX5_digest_77 : decode cX5_digest 77 = .ok (.iaload, 1) := by decide +kernel
theorem dX5_digest_78 : decode cX5_digest 78 = .ok (.iastore, 1) := by decide +kernel
theorem dX5_digest_79 : decode cX5_digest 79 = .ok (.dup, 1) := by decide +kernel
theorem dX5_digest_80 : decode cX5_digest 80 = .ok (.bipush 8, 2) := by decide +kernel
theorem dX5_digest_82 : decode cX5_digest 82 = .ok (.aload_n 0, 1) := by decide +kernel
theorem dX5_digest_83 : decode cX5_digest 83 = .ok (.invokevirtual 133, 3) := by decide +kernel
theorem dX5_digest_86 : decode cX5_digest 86 = .ok (.iastore, 1) := by decide +kernel
theorem dX5_digest_87 : decode cX5_digest 87 = .ok (.dup, 1) := by decide +kernel
theorem dX5_digest_88 : decode cX5_digest 88 = .ok (.bipush 9, 2) := by decide +kernel
theorem dX5_digest_90 : decode cX5_digest 90 = .ok (.aload_n 0, 1) := by decide +kernel
theorem dX5_digest_91 : decode cX5_digest 91 = .ok (.invokevirtual 136, 3) := by decide +kernel
theorem dX5_digest_94 : decode cX5_digest 94 = .ok (.iastore, 1) := by decide +kernel
theorem dX5_digest_95 : decode cX5_digest 95 = .ok (.dup, 1) := by decide +kernel
theorem dX5_digest_96 : decode cX5_digest 96 = .ok (.bipush 10, 2) := by decide +kernel
theorem dX5_digest_98 : decode cX5_digest 98 = .ok (.aload_n 0, 1) := by decide +kernel
theorem dX5_digest_99 : decode cX5_digest 99 = .ok (.invokevirtual 139, 3) := by decide +kernel
theorem dX5_digest_102 : decode cX5_digest 102 = .ok (.iastore, 1) := by decide +kernel
theorem dX5_digest_103 : decode cX5_digest 103 = .ok (.dup, 1) := by decide +kernel
theorem dX5_digest_104 : decode cX5_digest 104 = .ok (.bipush 11, 2) := by decide +kernel
theorem dX5_digest_106 : decode cX5_digest 106 = .ok (.aload_n 0, 1) := by decide +kernel
theorem dX5_digest_107 : decode cX5_digest 107 = .ok (.getfield 29, 3) := by decide +kernel
theorem dX5_digest_110 : decode cX5_digest 110 = .ok (.bipush 6, 2) := by decide +kernel
theorem dX5_digest_112 : decode cX5_digest 112 = .ok (.iaload, 1) := by decide +kernel
theorem dX5_digest_113 : decode cX5_digest 113 = .ok (.iastore, 1) := by decide +kernel
theorem dX5_digest_114 : decode cX5_digest 114 = .ok (.dup, 1) := by decide +kernel
theorem dX5_digest_115 : decode cX5_digest 115 = .ok (.bipush 12, 2) := by decide +kernel
theorem dX5_digest_117 : decode cX5_digest 117 = .ok (.aload_n 0, 1) := by decide +kernel
theorem dX5_digest_118 : decode cX5_digest 118 = .ok (.invokevirtual 142, 3) := by decide +kernel
theorem dX5_digest_121 : decode cX5_digest 121 = .ok (.iastore, 1) := by decide +kernel
theorem dX5_digest_122 : decode cX5_digest 122 = .ok (.dup, 1) := by decide +kernel
theorem dX5_digest_123 : decode cX5_digest 123 = .ok (.bipush 13, 2) := by decide +kernel
theorem dX5_digest_125 : decode cX5_digest 125 = .ok (.aload_n 0, 1) := by decide +kernel
theorem dX5_digest_126 : decode cX5_digest 126 = .ok (.bipush 20, 2) := by decide +kernel
theorem dX5_digest_128 : decode cX5_digest 128 = .ok (.invokevirtual 166, 3) := by decide +kernel
theorem dX5_digest_131 : decode cX5_digest 131 = .ok (.iastore, 1) := by decide +kernel
theorem dX5_digest_132 : decode cX5_digest 132 = .ok (.astore_n 1, 1) := by decide +kernel
theorem dX5_digest_133 : decode cX5_digest 133 = .ok (.ldc2_w 172, 3) := by decide +kernel
theorem dX5_digest_136 : decode cX5_digest 136 = .ok (.lstore_n 2, 1) := by decide +kernel
theorem dX5_digest_137 : decode cX5_digest 137 = .ok (.aload_n 1, 1) := by decide +kernel
theorem dX5_digest_138 : decode cX5_digest 138 = .ok (.astore 4, 2) := by decide +kernel
theorem dX5_digest_140 : decode cX5_digest 140 = .ok (.aload 4, 2) := by decide +kernel
theorem dX5_digest_142 : decode cX5_digest 142 = .ok (.arraylength, 1) := by decide +kernel
theorem dX5_digest_143 : decode cX5_digest 143 = .ok (.istore 5, 2) := by decide +kernel
theorem dX5_digest_145 : decode cX5_digest 145 = .ok (.iconst 0, 1) := by decide +kernel
theorem dX5_digest_146 : decode cX5_digest 146 = .ok (.istore 6, 2) := by decide +kernel
theorem dX5_digest_148 : decode cX5_digest 148 = .ok (.iload 6, 2) := by decide +kernel
theorem dX5_digest_150 : decode cX5_digest 150 = .ok (.iload 5, 2) := by decide +kernel
theorem dX5_digest_152 : decode cX5_digest 152 = .ok (.if_icmp .ge 26, 3) := by decide +kernel
theorem dX5_digest_155 : decode cX5_digest 155 = .ok (.aload 4, 2) := by decide +kernel
theorem dX5_digest_157 : decode cX5_digest 157 = .ok (.iload 6, 2) := by decide +kernel
theorem dX5_digest_159 : decode cX5_digest 159 = .ok (.iaload, 1) := by decide +kernel
theorem dX5_digest_160 : decode cX5_digest 160 = .ok (.istore 7, 2) := by decide +kernel
theorem dX5_digest_162 : decode cX5_digest 162 = .ok (.lload_n 2, 1) := by decide +kernel
theorem dX5_digest_163 : decode cX5_digest 163 = .ok (.ldc2_w 174, 3) := by decide +kernel
theorem dX5_digest_166 : decode cX5_digest 166 = .ok (.lmul, 1) := by decide +kernel
theorem dX5_digest_167 : decode cX5_digest 167 = .ok (.iload 7, 2) := by decide +kernel
theorem dX5_digest_169 : decode cX5_digest 169 = .ok (.i2l, 1) := by decide +kernel
theorem dX5_digest_170 : decode cX5_digest 170 = .ok (.ladd, 1) := by decide +kernel
theorem dX5_digest_171 : decode cX5_digest 171 = .ok (.lstore_n 2, 1) := by decide +kernel
theorem dX5_digest_172 : decode cX5_digest 172 = .ok (.iinc 6 1, 3) := by decide +kernel
theorem dX5_digest_175 : decode cX5_digest 175 = .ok (.goto (-27), 3) := by decide +kernel
theorem dX5_digest_178 : decode cX5_digest 178 = .ok (.iconst 0, 1) := by decide +kernel
theorem dX5_digest_179 : decode cX5_digest 179 = .ok (.istore 4, 2) := by decide +kernel
theorem dX5_digest_181 : decode cX5_digest 181 = .ok (.iload 4, 2) := by decide +kernel
theorem dX5_digest_183 : decode cX5_digest 183 = .ok (.aload_n 0, 1) := by decide +kernel
theorem dX5_digest_184 : decode cX5_digest 184 = .ok (.getfield 39, 3) := by decide +kernel
theorem dX5_digest_187 : decode cX5_digest 187 = .ok (.if_icmp .ge 155, 3) := by decide +kernel
theorem dX5_digest_190 : decode cX5_digest 190 = .ok (.bipush 9, 2) := by decide +kernel
theorem dX5_digest_192 : decode cX5_digest 192 = .ok (.newarray .int, 2) := by decide +kernel
theorem dX5_digest_194 : decode cX5_digest 194 = .ok (.dup, 1) := by decide +kernel
theorem dX5_digest_195 : decode cX5_digest 195 = .ok (.iconst 0, 1) := by decide +kernel
theorem dX5_digest_196 : decode cX5_digest 196 = .ok (.aload_n 0, 1) := by decide +kernel
theorem dX5_digest_197 : decode cX5_digest 197 = .ok (.getfield 19, 3) := by decide +kernel
theorem dX5_digest_200 : decode cX5_digest 200 = .ok (.iload 4, 2) := by decide +kernel
theorem dX5_digest_202 : decode cX5_digest 202 = .ok (.iaload, 1) := by decide +kernel
theorem dX5_digest_203 : decode cX5_digest 203 = .ok (.iastore, 1) := by decide +kernel
theorem dX5_digest_204 : decode cX5_digest 204 = .ok (.dup, 1) := by decide +kernel
theorem dX5_digest_205 : decode cX5_digest 205 = .ok (.iconst 1, 1) := by decide +kernel
theorem dX5_digest_206 : decode cX5_digest 206 = .ok (.aload_n 0, 1) := by decide +kernel
theorem dX5_digest_207 : decode cX5_digest 207 = .ok (.iload 4, 2) := by decide +kernel
theorem dX5_digest_209 : decode cX5_digest 209 = .ok (.invokevirtual 130, 3) := by decide +kernel
theorem dX5_digest_212 : decode cX5_digest 212 = .ok (.iastore, 1) := by decide +kernel
theorem dX5_digest_213 : decode cX5_digest 213 = .ok (.dup, 1) := by decide +kernel
theorem dX5_digest_214 : decode cX5_digest 214 = .ok (.iconst 2, 1) := by decide +kernel
theorem dX5_digest_215 : decode cX5_digest 215 = .ok (.aload_n 0, 1) := by decide +kernel
theorem dX5_digest_216 : decode cX5_digest 216 = .ok (.getfield 22, 3) := by decide +kernel
theorem dX5_digest_219 : decode cX5_digest 219 = .ok (.iload 4, 2) := by decide +kernel
theorem dX5_digest_221 : decode cX5_digest 221 = .ok (.baload, 1) := by decide +kernel
theorem dX5_digest_222 : decode cX5_digest 222 = .ok (.ifCond .eq 7, 3) := by decide +kernel
theorem dX5_digest_225 : decode cX5_digest 225 = .ok (.iconst 1, 1) := by decide +kernel
theorem dX5_digest_226 : decode cX5_digest 226 = .ok (.goto 4, 3) := by decide +kernel
theorem dX5_digest_229 : decode cX5_digest 229 = .ok (.iconst 0, 1) := by decide +kernel
theorem dX5_digest_230 : decode cX5_digest 230 = .ok (.iastore, 1) := by decide +kernel
theorem dX5_digest_231 : decode cX5_digest 231 = .ok (.dup, 1) := by decide +kernel
theorem dX5_digest_232 : decode cX5_digest 232 = .ok (.iconst 3, 1) := by decide +kernel
theorem dX5_digest_233 : decode cX5_digest 233 = .ok (.aload_n 0, 1) := by decide +kernel
theorem dX5_digest_234 : decode cX5_digest 234 = .ok (.getfield 29, 3) := by decide +kernel
theorem dX5_digest_237 : decode cX5_digest 237 = .ok (.bipush 7, 2) := by decide +kernel
theorem dX5_digest_239 : decode cX5_digest 239 = .ok (.iload 4, 2) := by decide +kernel
theorem dX5_digest_241 : decode cX5_digest 241 = .ok (.iadd, 1) := by decide +kernel
theorem dX5_digest_242 : decode cX5_digest 242 = .ok (.iaload, 1) := by decide +kernel
theorem dX5_digest_243 : decode cX5_digest 243 = .ok (.iastore, 1) := by decide +kernel
theorem dX5_digest_244 : decode cX5_digest 244 = .ok (.dup, 1) := by decide +kernel
theorem dX5_digest_245 : decode cX5_digest 245 = .ok (.iconst 4, 1) := by decide +kernel
theorem dX5_digest_246 : decode cX5_digest 246 = .ok (.aload_n 0, 1) := by decide +kernel
theorem dX5_digest_247 : decode cX5_digest 247 = .ok (.iload 4, 2) := by decide +kernel
theorem dX5_digest_249 : decode cX5_digest 249 = .ok (.invokevirtual 55, 3) := by decide +kernel
theorem dX5_digest_252 : decode cX5_digest 252 = .ok (.iastore, 1) := by decide +kernel
theorem dX5_digest_253 : decode cX5_digest 253 = .ok (.dup, 1) := by decide +kernel
theorem dX5_digest_254 : decode cX5_digest 254 = .ok (.iconst 5, 1) := by decide +kernel
theorem dX5_digest_255 : decode cX5_digest 255 = .ok (.aload_n 0, 1) := by decide +kernel
theorem dX5_digest_256 : decode cX5_digest 256 = .ok (.iload 4, 2) := by decide +kernel
theorem dX5_digest_258 : decode cX5_digest 258 = .ok (.invokevirtual 145, 3) := by decide +kernel
theorem dX5_digest_261 : decode cX5_digest 261 = .ok (.iastore, 1) := by decide +kernel
theorem dX5_digest_262 : decode cX5_digest 262 = .ok (.dup, 1) := by decide +kernel
theorem dX5_digest_263 : decode cX5_digest 263 = .ok (.bipush 6, 2) := by decide +kernel
theorem dX5_digest_265 : decode cX5_digest 265 = .ok (.aload_n 0, 1) := by decide +kernel
theorem dX5_digest_266 : decode cX5_digest 266 = .ok (.iload 4, 2) := by decide +kernel
theorem dX5_digest_268 : decode cX5_digest 268 = .ok (.invokevirtual 83, 3) := by decide +kernel
theorem dX5_digest_271 : decode cX5_digest 271 = .ok (.iastore, 1) := by decide +kernel
theorem dX5_digest_272 : decode cX5_digest 272 = .ok (.dup, 1) := by decide +kernel
theorem dX5_digest_273 : decode cX5_digest 273 = .ok (.bipush 7, 2) := by decide +kernel
theorem dX5_digest_275 : decode cX5_digest 275 = .ok (.aload_n 0, 1) := by decide +kernel
theorem dX5_digest_276 : decode cX5_digest 276 = .ok (.iload 4, 2) := by decide +kernel
theorem dX5_digest_278 : decode cX5_digest 278 = .ok (.invokevirtual 163, 3) := by decide +kernel
theorem dX5_digest_281 : decode cX5_digest 281 = .ok (.iastore, 1) := by decide +kernel
theorem dX5_digest_282 : decode cX5_digest 282 = .ok (.dup, 1) := by decide +kernel
theorem dX5_digest_283 : decode cX5_digest 283 = .ok (.bipush 8, 2) := by decide +kernel
theorem dX5_digest_285 : decode cX5_digest 285 = .ok (.aload_n 0, 1) := by decide +kernel
theorem dX5_digest_286 : decode cX5_digest 286 = .ok (.iload 4, 2) := by decide +kernel
theorem dX5_digest_288 : decode cX5_digest 288 = .ok (.invokevirtual 169, 3) := by decide +kernel
theorem dX5_digest_291 : decode cX5_digest 291 = .ok (.iastore, 1) := by decide +kernel
theorem dX5_digest_292 : decode cX5_digest 292 = .ok (.astore 5, 2) := by decide +kernel
theorem dX5_digest_294 : decode cX5_digest 294 = .ok (.aload 5, 2) := by decide +kernel
theorem dX5_digest_296 : decode cX5_digest 296 = .ok (.astore 6, 2) := by decide +kernel
theorem dX5_digest_298 : decode cX5_digest 298 = .ok (.aload 6, 2) := by decide +kernel
theorem dX5_digest_300 : decode cX5_digest 300 = .ok (.arraylength, 1) := by decide +kernel
theorem dX5_digest_301 : decode cX5_digest 301 = .ok (.istore 7, 2) := by decide +kernel
theorem dX5_digest_303 : decode cX5_digest 303 = .ok (.iconst 0, 1) := by decide +kernel
theorem dX5_digest_304 : decode cX5_digest 304 = .ok (.istore 8, 2) := by decide +kernel
theorem dX5_digest_306 : decode cX5_digest 306 = .ok (.iload 8, 2) := by decide +kernel
theorem dX5_digest_308 : decode cX5_digest 308 = .ok (.iload 7, 2) := by decide +kernel
theorem dX5_digest_310 : decode cX5_digest 310 = .ok (.if_icmp .ge 26, 3) := by decide +kernel
theorem dX5_digest_313 : decode cX5_digest 313 = .ok (.aload 6, 2) := by decide +kernel
theorem dX5_digest_315 : decode cX5_digest 315 = .ok (.iload 8, 2) := by decide +kernel
theorem dX5_digest_317 : decode cX5_digest 317 = .ok (.iaload, 1) := by decide +kernel
theorem dX5_digest_318 : decode cX5_digest 318 = .ok (.istore 9, 2) := by decide +kernel
theorem dX5_digest_320 : decode cX5_digest 320 = .ok (.lload_n 2, 1) := by decide +kernel
theorem dX5_digest_321 : decode cX5_digest 321 = .ok (.ldc2_w 174, 3) := by decide +kernel
theorem dX5_digest_324 : decode cX5_digest 324 = .ok (.lmul, 1) := by decide +kernel
theorem dX5_digest_325 : decode cX5_digest 325 = .ok (.iload 9, 2) := by decide +kernel
theorem dX5_digest_327 : decode cX5_digest 327 = .ok (.i2l, 1) := by decide +kernel
theorem dX5_digest_328 : decode cX5_digest 328 = .ok (.ladd, 1) := by decide +kernel
theorem dX5_digest_329 : decode cX5_digest 329 = .ok (.lstore_n 2, 1) := by decide +kernel
theorem dX5_digest_330 : decode cX5_digest 330 = .ok (.iinc 8 1, 3) := by decide +kernel
theorem dX5_digest_333 : decode cX5_digest 333 = .ok (.goto (-27), 3) := by decide +kernel
theorem dX5_digest_336 : decode cX5_digest 336 = .ok (.iinc 4 1, 3) := by decide +kernel
theorem dX5_digest_339 : decode cX5_digest 339 = .ok (.goto (-158), 3) := by decide +kernel
theorem dX5_digest_342 : decode cX5_digest 342 = .ok (.iconst 0, 1) := by decide +kernel
theorem dX5_digest_343 : decode cX5_digest 343 = .ok (.istore 4, 2) := by decide +kernel
theorem dX5_digest_345 : decode cX5_digest 345 = .ok (.iload 4, 2) := by decide +kernel
theorem dX5_digest_347 : decode cX5_digest 347 = .ok (.aload_n 0, 1) := by decide +kernel
theorem dX5_digest_348 : decode cX5_digest 348 = .ok (.getfield 46, 3) := by decide +kernel
theorem dX5_digest_351 : decode cX5_digest 351 = .ok (.if_icmp .ge 69, 3) := by decide +kernel
theorem dX5_digest_354 : decode cX5_digest 354 = .ok (.lload_n 2, 1) := by decide +kernel
theorem dX5_digest_355 : decode cX5_digest 355 = .ok (.ldc2_w 174, 3) := by decide +kernel
theorem dX5_digest_358 : decode cX5_digest 358 = .ok (.lmul, 1) := by decide +kernel
theorem dX5_digest_359 : decode cX5_digest 359 = .ok (.aload_n 0, 1) := by decide +kernel
theorem dX5_digest_360 : decode cX5_digest 360 = .ok (.getfield 29, 3) := by decide +kernel
theorem dX5_digest_363 : decode cX5_digest 363 = .ok (.bipush 31, 2) := by decide +kernel
theorem dX5_digest_365 : decode cX5_digest 365 = .ok (.iload 4, 2) := by decide +kernel
theorem dX5_digest_367 : decode cX5_digest 367 = .ok (.iadd, 1) := by decide +kernel
theorem dX5_digest_368 : decode cX5_digest 368 = .ok (.iaload, 1) := by decide +kernel
theorem dX5_digest_369 : decode cX5_digest 369 = .ok (.i2l, 1) := by decide +kernel
theorem dX5_digest_370 : decode cX5_digest 370 = .ok (.ladd, 1) := by decide +kernel
theorem dX5_digest_371 : decode cX5_digest 371 = .ok (.ldc2_w 174, 3) := by decide +kernel
theorem dX5_digest_374 : decode cX5_digest 374 = .ok (.lmul, 1) := by decide +kernel
theorem dX5_digest_375 : decode cX5_digest 375 = .ok (.aload_n 0, 1) := by decide +kernel
theorem dX5_digest_376 : decode cX5_digest 376 = .ok (.iload 4, 2) := by decide +kernel
theorem dX5_digest_378 : decode cX5_digest 378 = .ok (.iconst 1, 1) := by decide +kernel
theorem dX5_digest_379 : decode cX5_digest 379 = .ok (.invokevirtual 151, 3) := by decide +kernel
theorem dX5_digest_382 : decode cX5_digest 382 = .ok (.i2l, 1) := by decide +kernel
theorem dX5_digest_383 : decode cX5_digest 383 = .ok (.ladd, 1) := by decide +kernel
theorem dX5_digest_384 : decode cX5_digest 384 = .ok (.ldc2_w 174, 3) := by decide +kernel
theorem dX5_digest_387 : decode cX5_digest 387 = .ok (.lmul, 1) := by decide +kernel
theorem dX5_digest_388 : decode cX5_digest 388 = .ok (.aload_n 0, 1) := by decide +kernel
theorem dX5_digest_389 : decode cX5_digest 389 = .ok (.iload 4, 2) := by decide +kernel
theorem dX5_digest_391 : decode cX5_digest 391 = .ok (.iconst 2, 1) := by decide +kernel
theorem dX5_digest_392 : decode cX5_digest 392 = .ok (.invokevirtual 151, 3) := by decide +kernel
theorem dX5_digest_395 : decode cX5_digest 395 = .ok (.i2l, 1) := by decide +kernel
theorem dX5_digest_396 : decode cX5_digest 396 = .ok (.ladd, 1) := by decide +kernel
theorem dX5_digest_397 : decode cX5_digest 397 = .ok (.ldc2_w 174, 3) := by decide +kernel
theorem dX5_digest_400 : decode cX5_digest 400 = .ok (.lmul, 1) := by decide +kernel
theorem dX5_digest_401 : decode cX5_digest 401 = .ok (.aload_n 0, 1) := by decide +kernel
theorem dX5_digest_402 : decode cX5_digest 402 = .ok (.getfield 29, 3) := by decide +kernel
theorem dX5_digest_405 : decode cX5_digest 405 = .ok (.bipush 49, 2) := by decide +kernel
theorem dX5_digest_407 : decode cX5_digest 407 = .ok (.iload 4, 2) := by decide +kernel
theorem dX5_digest_409 : decode cX5_digest 409 = .ok (.iadd, 1) := by decide +kernel
theorem dX5_digest_410 : decode cX5_digest 410 = .ok (.iaload, 1) := by decide +kernel
theorem dX5_digest_411 : decode cX5_digest 411 = .ok (.i2l, 1) := by decide +kernel
theorem dX5_digest_412 : decode cX5_digest 412 = .ok (.ladd, 1) := by decide +kernel
theorem dX5_digest_413 : decode cX5_digest 413 = .ok (.lstore_n 2, 1) := by decide +kernel
theorem dX5_digest_414 : decode cX5_digest 414 = .ok (.iinc 4 1, 3) := by decide +kernel
theorem dX5_digest_417 : decode cX5_digest 417 = .ok (.goto (-72), 3) := by decide +kernel
theorem dX5_digest_420 : decode cX5_digest 420 = .ok (.lload_n 2, 1) := by decide +kernel
theorem dX5_digest_421 : decode cX5_digest 421 = .ok (.lreturn, 1) := by decide +kernel
theorem dJ9_abs_0f7a4_0 : decode cJ9_abs_0f7a4 0 = .ok (.iload_n 0, 1) := by decide +kernel
theorem dJ9_abs_0f7a4_1 : decode cJ9_abs_0f7a4 1 = .ok (.ifCond .ge 8, 3) := by decide +kernel
theorem dJ9_abs_0f7a4_4 : decode cJ9_abs_0f7a4 4 = .ok (.iload_n 0, 1) := by decide +kernel
theorem dJ9_abs_0f7a4_5 : decode cJ9_abs_0f7a4 5 = .ok (.ineg, 1) := by decide +kernel
theorem dJ9_abs_0f7a4_6 : decode cJ9_abs_0f7a4 6 = .ok (.goto 4, 3) := by decide +kernel
theorem dJ9_abs_0f7a4_9 : decode cJ9_abs_0f7a4 9 = .ok (.iload_n 0, 1) := by decide +kernel
theorem dJ9_abs_0f7a4_10 : decode cJ9_abs_0f7a4 10 = .ok (.ireturn, 1) := by decide +kernel
theorem dJ9_max_7cf53_0 : decode cJ9_max_7cf53 0 = .ok (.iload_n 0, 1) := by decide +kernel
theorem dJ9_max_7cf53_1 : decode cJ9_max_7cf53 1 = .ok (.iload_n 1, 1) := by decide +kernel
theorem dJ9_max_7cf53_2 : decode cJ9_max_7cf53 2 = .ok (.if_icmp .lt 7, 3) := by decide +kernel
theorem dJ9_max_7cf53_5 : decode cJ9_max_7cf53 5 = .ok (.iload_n 0, 1) := by decide +kernel
theorem dJ9_max_7cf53_6 : decode cJ9_max_7cf53 6 = .ok (.goto 4, 3) := by decide +kernel
theorem dJ9_max_7cf53_9 : decode cJ9_max_7cf53 9 = .ok (.iload_n 1, 1) := by decide +kernel
theorem dJ9_max_7cf53_10 : decode cJ9_max_7cf53 10 = .ok (.ireturn, 1) := by decide +kernel
