set_option maxRecDepth 20000 in
theorem ggX0_init_X2_init : GoodIn wsX0_init wsX2_init := goodIn_r _ [24, 25, 2, 3, 26, 27, 59] (by decide +kernel) (by decide +kernel)
set_option maxRecDepth 20000 in
theorem gX0_init_X2_init : GoodIn wsX0_init (wsX2_init) := ggX0_init_X2_init
set_option maxRecDepth 20000 in
theorem ggX0_init_X1_init : GoodIn wsX0_init wsX1_init := goodIn_r _ [30, 31, 2, 3, 26, 32, 60, 61] (by decide +kernel) (by decide +kernel)
set_option maxRecDepth 20000 in
theorem gX0_init_X1_init : GoodIn wsX0_init (wsX1_init) := ggX0_init_X1_init
set_option maxRecDepth 20000 in
theorem ggX0_init_X3_init : GoodIn wsX0_init wsX3_init := goodIn_r _ [35, 36, 2, 3, 37, 6, 7, 38, 39, 40, 41, 42, 43, 23, 24, 25, 26, 27, 59, 62, 63, 64, 65, 66, 67] (by decide +kernel) (by decide +kernel)
set_option maxRecDepth 20000 in
theorem gX0_init_X3_init : GoodIn wsX0_init (wsX3_init) := ggX0_init_X3_init
theorem dX0_init_0 : decode cX0_init 0 = .ok (.aload_n 0, 1) := by decide +kernel
theorem dX0_init_1 : decode cX0_init 1 = .ok (.invokespecial 3, 3) := by decide +kernel
theorem dX0_init_4 : decode cX0_init 4 = .ok (.aload_n 0, 1) := by decide +kernel
theorem dX0_init_5 : decode cX0_init 5 = .ok (.sipush 200, 3) := by decide +kernel
theorem dX0_init_8 : decode cX0_init 8 = .ok (.putfield 9, 3) := by decide +kernel
theorem dX0_init_11 : decode cX0_init 11 = .ok (.aload_n 0, 1) := by decide +kernel
theorem dX0_init_12 : decode cX0_init 12 = .ok (.new 15, 3) := by decide +kernel
theorem dX0_init_15 : decode cX0_init 15 = .ok (.dup, 1) := by decide +kernel
theorem dX0_init_16 : decode cX0_init 16 = .ok (.invokespecial 17, 3) := by decide +kernel
theorem dX0_init_19 : decode cX0_init 19 = .ok (.putfield 18, 3) := by decide +kernel
theorem dX0_init_22 : decode cX0_init 22 = .ok (.aload_n 0, 1) := by decide +kernel
theorem dX0_init_23 : decode cX0_init 23 = .ok (.new 15, 3) := by decide +kernel
theorem dX0_init_26 : decode cX0_init 26 = .ok (.dup, 1) := by decide +kernel
theorem dX0_init_27 : decode cX0_init 27 = .ok (.invokespecial 17, 3) := by decide +kernel
theorem dX0_init_30 : decode cX0_init 30 = .ok (.putfield 22, 3) := by decide +kernel
theorem dX0_init_33 : decode cX0_init 33 = .ok (.aload_n 0, 1) := by decide +kernel
theorem dX0_init_34 : decode cX0_init 34 = .ok (.new 15, 3) := by decide +kernel
theorem dX0_init_37 : decode cX0_init 37 = .ok (.dup, 1) := by decide +kernel
theorem dX0_init_38 : decode cX0_init 38 = .ok (.invokespecial 17, 3) := by decide +kernel
theorem dX0_init_41 : decode cX0_init 41 = .ok (.putfield 25, 3) := by decide +kernel
theorem dX0_init_44 : decode cX0_init 44 = .ok (.aload_n 0, 1) := by decide +kernel
theorem dX0_init_45 : decode cX0_init 45 = .ok (.new 15, 3) := by decide +kernel
theorem dX0_init_48 : decode cX0_init 48 = .ok (.dup, 1) := by decide +kernel
theorem dX0_init_49 : decode cX0_init 49 = .ok (.invokespecial 17, 3) := by decide +kernel
theorem dX0_init_52 : decode cX0_init 52 = .ok (.putfield 28, 3) := by decide +kernel
theorem dX0_init_55 : decode cX0_init 55 = .ok (.aload_n 0, 1) := by decide +kernel
theorem dX0_init_56 : decode cX0_init 56 = .ok (.new 15, 3) := by decide +kernel
theorem dX0_init_59 : decode cX0_init 59 = .ok (.dup, 1) := by decide +kernel
theorem dX0_init_60 : decode cX0_init 60 = .ok (.invokespecial 17, 3) := by decide +kernel
theorem dX0_init_63 : decode cX0_init 63 = .ok (.putfield 31, 3) := by decide +kernel
theorem dX0_init_66 : decode cX0_init 66 = .ok (.aload_n 0, 1) := by decide +kernel
theorem dX0_init_67 : decode cX0_init 67 = .ok (.new 15, 3) := by decide +kernel
theorem dX0_init_70 : decode cX0_init 70 = .ok (.dup, 1) := by decide +kernel
theorem dX0_init_71 : decode cX0_init 71 = .ok (.invokespecial 17, 3) := by decide +kernel
theorem dX0_init_74 : decode cX0_init 74 = .ok (.putfield 34, 3) := by decide +kernel
theorem dX0_init_77 : decode cX0_init 77 = .ok (.aload_n 0, 1) := by decide +kernel
theorem dX0_init_78 : decode cX0_init 78 = .ok (.new 37, 3) := by decide +kernel
theorem dX0_init_81 : decode cX0_init 81 = .ok (.dup, 1) := by decide +kernel
theorem dX0_init_82 : decode cX0_init 82 = .ok (.invokespecial 39, 3) := by decide +kernel
theorem dX0_init_85 : decode cX0_init 85 = .ok (.putfield 40, 3) := by decide +kernel
theorem dX0_init_88 : decode cX0_init 88 = .ok (.aload_n 0, 1) := by decide +kernel
theorem dX0_init_89 : decode cX0_init 89 = .ok (.new 44, 3) := by decide +kernel
theorem dX0_init_92 : decode cX0_init 92 = .ok (.dup, 1) := by decide +kernel
theorem dX0_init_93 : decode cX0_init 93 = .ok (.invokespecial 46, 3) := by decide +kernel
theorem dX0_init_96 : decode cX0_init 96 = .ok (.putfield 47, 3) := by decide +kernel
theorem dX0_init_99 : decode cX0_init 99 = .ok (.return_, 1) := by decide +kernel
set_option maxRecDepth 20000 in
theorem ggX0_copyFrom_X2_copyFrom : GoodIn wsX0_copyFrom wsX2_copyFrom := goodIn_r _ [20, 21, 56] (by decide +kernel) (by decide +kernel)
set_option maxRecDepth 20000 in
theorem gX0_copyFrom_X2_copyFrom : GoodIn wsX0_copyFrom (wsV RX0 69 RX2 yX2_copyFrom wsX2_copyFrom) := goodIn_app (goodIn_of _ (by decide +kernel)) ggX0_copyFrom_X2_copyFrom
set_option maxRecDepth 20000 in
theorem ggX0_copyFrom_X1_copyFrom : GoodIn wsX0_copyFrom wsX1_copyFrom := goodIn_r _ [26, 27, 28, 57, 58] (by decide +kernel) (by decide +kernel)
set_option maxRecDepth 20000 in
theorem gX0_copyFrom_X1_copyFrom : GoodIn wsX0_copyFrom (wsV RX0 73 RX1 yX1_copyFrom wsX1_copyFrom) := goodIn_app (goodIn_of _ (by decide +kernel)) ggX0_copyFrom_X1_copyFrom
set_option maxRecDepth 20000 in
theorem ggX0_copyFrom_X3_copyFrom : GoodIn wsX0_copyFrom wsX3_copyFrom := goodIn_r _ [33, 34, 35, 36, 37, 38, 39, 40, 17, 18, 19, 20, 21, 59, 60, 61, 62, 63, 64, 56] (by decide +kernel) (by decide +kernel)
set_option maxRecDepth 20000 in
theorem gX0_copyFrom_X3_copyFrom : GoodIn wsX0_copyFrom (wsV RX0 76 RX3 yX3_copyFrom wsX3_copyFrom) := goodIn_app (goodIn_of _ (by decide +kernel)) ggX0_copyFrom_X3_copyFrom
theorem dX0_copyFrom_0 : decode cX0_copyFrom 0 = .ok (.aload_n 0, 1) := by decide +kernel
theorem dX0_copyFrom_1 : decode cX0_copyFrom 1 = .ok (.aload_n 1, 1) := by decide +kernel
theorem dX0_copyFrom_2 : decode cX0_copyFrom 2 = .ok (.getfield 51, 3) := by decide +kernel
theorem dX0_copyFrom_5 : decode cX0_copyFrom 5 = .ok (.putfield 51, 3) := by decide +kernel
theorem dX0_copyFrom_8 : decode cX0_copyFrom 8 = .ok (.aload_n 0, 1) := by decide +kernel
theorem dX0_copyFrom_9 : decode cX0_copyFrom 9 = .ok (.aload_n 1, 1) := by decide +kernel
theorem dX0_copyFrom_10 : decode cX0_copyFrom 10 = .ok (.getfield 54, 3) := by decide +kernel
theorem dX0_copyFrom_13 : decode cX0_copyFrom 13 = .ok (.putfield 54, 3) := by decide +kernel
theorem dX0_copyFrom_16 : decode cX0_copyFrom 16 = .ok (.aload_n 0, 1) := by decide +kernel
theorem dX0_copyFrom_17 : decode cX0_copyFrom 17 = .ok (.aload_n 1, 1) := by decide +kernel
theorem dX0_copyFrom_18 : decode cX0_copyFrom 18 = .ok (.getfield 9, 3) := by decide +kernel
theorem dX0_copyFrom_21 : decode cX0_copyFrom 21 = .ok (.putfield 9, 3) := by decide +kernel
theorem dX0_copyFrom_24 : decode cX0_copyFrom 24 = .ok (.aload_n 0, 1) := by decide +kernel
theorem dX0_copyFrom_25 : decode cX0_copyFrom 25 = .ok (.aload_n 1, 1) := by decide +kernel
theorem dX0_copyFrom_26 : decode cX0_copyFrom 26 = .ok (.getfield 57, 3) := by decide +kernel
theorem dX0_copyFrom_29 : decode cX0_copyFrom 29 = .ok (.putfield 57, 3) := by decide +kernel
theorem dX0_copyFrom_32 : decode cX0_copyFrom 32 = .ok (.aload_n 0, 1) := by decide +kernel
theorem dX0_copyFrom_33 : decode cX0_copyFrom 33 = .ok (.aload_n 1, 1) := by decide +kernel
theorem dX0_copyFrom_34 : decode cX0_copyFrom 34 = .ok (.getfield 60, 3) := by decide +kernel
theorem dX0_copyFrom_37 : decode cX0_copyFrom 37 = .ok (.putfield 60, 3) := by decide +kernel
theorem dX0_copyFrom_40 : decode cX0_copyFrom 40 = .ok (.aload_n 0, 1) := by decide +kernel
theorem dX0_copyFrom_41 : decode cX0_copyFrom 41 = .ok (.aload_n 1, 1) := by decide +kernel
theorem dX0_copyFrom_42 : decode cX0_copyFrom 42 = .ok (.getfield 63, 3) := by decide +kernel
theorem dX0_copyFrom_45 : decode cX0_copyFrom 45 = .ok (.putfield 63, 3) := by decide +kernel
theorem dX0_copyFrom_48 : decode cX0_copyFrom 48 = .ok (.aload_n 0, 1) := by decide +kernel
theorem dX0_copyFrom_49 : decode cX0_copyFrom 49 = .ok (.aload_n 1, 1) := by decide +kernel
theorem dX0_copyFrom_50 : decode cX0_copyFrom 50 = .ok (.getfield 66, 3) := by decide +kernel
theorem dX0_copyFrom_53 : decode cX0_copyFrom 53 = .ok (.putfield 66, 3) := by decide +kernel
theorem dX0_copyFrom_56 : decode cX0_copyFrom 56 = .ok (.aload_n 0, 1) := by decide +kernel
theorem dX0_copyFrom_57 : decode cX0_copyFrom 57 = .ok (.getfield 18, 3) := by decide +kernel
theorem dX0_copyFrom_60 : decode cX0_copyFrom 60 = .ok (.aload_n 1, 1) := by decide +kernel
theorem dX0_copyFrom_61 : decode cX0_copyFrom 61 = .ok (.getfield 18, 3) := by decide +kernel
theorem dX0_copyFrom_64 : decode cX0_copyFrom 64 = .ok (.invokevirtual 69, 3) := by decide +kernel
theorem dX0_copyFrom_67 : decode cX0_copyFrom 67 = .ok (.aload_n 0, 1) := by decide +kernel
theorem dX0_copyFrom_68 : decode cX0_copyFrom 68 = .ok (.getfield 22, 3) := by decide +kernel
theorem dX0_copyFrom_71 : decode cX0_copyFrom 71 = .ok (.aload_n 1, 1) := by decide +kernel
theorem dX0_copyFrom_72 : decode cX0_copyFrom 72 = .ok (.getfield 22, 3) := by decide +kernel
theorem dX0_copyFrom_75 : decode cX0_copyFrom 75 = .ok (.invokevirtual 69, 3) := by decide +kernel
theorem dX0_copyFrom_78 : decode cX0_copyFrom 78 = .ok (.aload_n 0, 1) := by decide +kernel
theorem dX0_copyFrom_79 : decode cX0_copyFrom 79 = .ok (.getfield 25, 3) := by decide +kernel
theorem dX0_copyFrom_82 : decode cX0_copyFrom 82 = .ok (.aload_n 1, 1) := by decide +kernel
theorem dX0_copyFrom_83 : decode cX0_copyFrom 83 = .ok (.getfield 25, 3) := by decide +kernel
theorem dX0_copyFrom_86 : decode cX0_copyFrom 86 = .ok (.invokevirtual 69, 3) := by decide +kernel
theorem dX0_copyFrom_89 : decode cX0_copyFrom 89 = .ok (.aload_n 0, 1) := by decide +kernel
theorem dX0_copyFrom_90 : decode cX0_copyFrom 90 = .ok (.getfield 28, 3) := by decide +kernel
theorem dX0_copyFrom_93 : decode cX0_copyFrom 93 = .ok (.aload_n 1, 1) := by decide +kernel
theorem dX0_copyFrom_94 : decode cX0_copyFrom 94 = .ok (.getfield 28, 3) := by decide +kernel
theorem dX0_copyFrom_97 : decode cX0_copyFrom 97 = .ok (.invokevirtual 69, 3) := by decide +kernel
theorem dX0_copyFrom_100 : decode cX0_copyFrom 100 = .ok (.aload_n 0, 1) := by decide +kernel
theorem dX0_copyFrom_101 : decode cX0_copyFrom 101 = .ok (.getfield 31, 3) := by decide +kernel
theorem dX0_copyFrom_104 : decode cX0_copyFrom 104 = .ok (.aload_n 1, 1) := by decide +kernel
theorem dX0_copyFrom_105 : decode cX0_copyFrom 105 = .ok (.getfield 31, 3) := by decide +kernel
theorem dX0_copyFrom_108 : decode cX0_copyFrom 108 = .ok (.invokevirtual 69, 3) := by decide +kernel
theorem dX0_copyFrom_111 : decode cX0_copyFrom 111 = .ok (.aload_n 0, 1) := by decide +kernel
theorem dX0_copyFrom_112 : decode cX0_copyFrom 112 = .ok (.getfield 34, 3) := by decide +kernel
theorem dX0_copyFrom_115 : decode cX0_copyFrom 115 = .ok (.aload_n 1, 1) := by decide +kernel
theorem dX0_copyFrom_116 : decode cX0_copyFrom 116 = .ok (.getfield 34, 3) := by decide +kernel
theorem dX0_copyFrom_119 : decode cX0_copyFrom 119 = .ok (.invokevirtual 69, 3) := by decide +kernel
theorem dX0_copyFrom_122 : decode cX0_copyFrom 122 = .ok (.aload_n 0, 1) := by decide +kernel
theorem dX0_copyFrom_123 : decode cX0_copyFrom 123 = .ok (.getfield 40, 3) := by decide +kernel
theorem dX0_copyFrom_126 : decode cX0_copyFrom 126 = .ok (.aload_n 1, 1) := by decide +kernel
theorem dX0_copyFrom_127 : decode cX0_copyFrom 127 = .ok (.getfield 40, 3) := by decide +kernel
theorem dX0_copyFrom_130 : decode cX0_copyFrom 130 = .ok (.invokevirtual 73, 3) := by decide +kernel
theorem dX0_copyFrom_133 : decode cX0_copyFrom 133 = .ok (.aload_n 0, 1) := by decide +kernel
theorem dX0_copyFrom_134 : decode cX0_copyFrom 134 = .ok (.getfield 47, 3) := by decide +kernel
theorem dX0_copyFrom_137 : decode cX0_copyFrom 137 = .ok (.aload_n 1, 1) := by decide +kernel
theorem dX0_copyFrom_138 : decode cX0_copyFrom 138 = .ok (.getfield 47, 3) := by decide +kernel
theorem dX0_copyFrom_141 : decode cX0_copyFrom 141 = .ok (.invokevirtual 76, 3) := by decide +kernel
theorem dX0_copyFrom_144 : decode cX0_copyFrom 144 = .ok (.return_, 1) := by decide +kernel
set_option maxRecDepth 20000 in
theorem ggX0_openRoom_X2_set : GoodIn wsX0_openRoom wsX2_set := goodIn_r _ [12, 13, 29] (by decide +kernel) (by decide +kernel)
set_option maxRecDepth 20000 in
theorem gX0_openRoom_X2_set : GoodIn wsX0_openRoom (wsV RX0 79 RX2 yX2_set wsX2_set) := goodIn_app (goodIn_of _ (by decide +kernel)) ggX0_openRoom_X2_set
theorem dX0_openRoom_0 : decode cX0_openRoom 0 = .ok (.aload_n 0, 1) := by decide +kernel
theorem dX0_openRoom_1 : decode cX0_openRoom 1 = .ok (.getfield 54, 3) := by decide +kernel
theorem dX0_openRoom_4 : decode cX0_openRoom 4 = .ok (.istore 4, 2) := by decide +kernel
theorem dX0_openRoom_6 : decode cX0_openRoom 6 = .ok (.aload_n 0, 1) := by decide +kernel
theorem dX0_openRoom_7 : decode cX0_openRoom 7 = .ok (.dup, 1) := by decide +kernel
theorem dX0_openRoom_8 : decode cX0_openRoom 8 = .ok (.getfield 54, 3) := by decide +kernel
theorem dX0_openRoom_11 : decode cX0_openRoom 11 = .ok (.iconst 1, 1) := by decide +kernel
theorem dX0_openRoom_12 : decode cX0_openRoom 12 = .ok (.iadd, 1) := by decide +kernel
theorem dX0_openRoom_13 : decode cX0_openRoom 13 = .ok (.putfield 54, 3) := by decide +kernel
theorem dX0_openRoom_16 : decode cX0_openRoom 16 = .ok (.aload_n 0, 1) := by decide +kernel
theorem dX0_openRoom_17 : decode cX0_openRoom 17 = .ok (.getfield 18, 3) := by decide +kernel
theorem dX0_openRoom_20 : decode cX0_openRoom 20 = .ok (.iload 4, 2) := by decide +kernel
theorem dX0_openRoom_22 : decode cX0_openRoom 22 = .ok (.iload_n 1, 1) := by decide +kernel
theorem dX0_openRoom_23 : decode cX0_openRoom 23 = .ok (.invokevirtual 79, 3) := by decide +kernel
theorem dX0_openRoom_26 : decode cX0_openRoom 26 = .ok (.aload_n 0, 1) := by decide +kernel
theorem dX0_openRoom_27 : decode cX0_openRoom 27 = .ok (.getfield 22, 3) := by decide +kernel
theorem dX0_openRoom_30 : decode cX0_openRoom 30 = .ok (.iload 4, 2) := by decide +kernel
theorem dX0_openRoom_32 : decode cX0_openRoom 32 = .ok (.iload_n 2, 1) := by decide +kernel
theorem dX0_openRoom_33 : decode cX0_openRoom 33 = .ok (.invokevirtual 79, 3) := by decide +kernel
theorem dX0_openRoom_36 : decode cX0_openRoom 36 = .ok (.aload_n 0, 1) := by decide +kernel
theorem dX0_openRoom_37 : decode cX0_openRoom 37 = .ok (.getfield 25, 3) := by decide +kernel
theorem dX0_openRoom_40 : decode cX0_openRoom 40 = .ok (.iload 4, 2) := by decide +kernel
theorem dX0_openRoom_42 : decode cX0_openRoom 42 = .ok (.iload_n 3, 1) := by decide +kernel
theorem dX0_openRoom_43 : decode cX0_openRoom 43 = .ok (.invokevirtual 79, 3) := by decide +kernel
theorem dX0_openRoom_46 : decode cX0_openRoom 46 = .ok (.aload_n 0, 1) := by decide +kernel
theorem dX0_openRoom_47 : decode cX0_openRoom 47 = .ok (.getfield 28, 3) := by decide +kernel
theorem dX0_openRoom_50 : decode cX0_openRoom 50 = .ok (.iload 4, 2) := by decide +kernel
theorem dX0_openRoom_52 : decode cX0_openRoom 52 = .ok (.iload 4, 2) := by decide +kernel
theorem dX0_openRoom_54 : decode cX0_openRoom 54 = .ok (.invokevirtual 79, 3) := by decide +kernel
theorem dX0_openRoom_57 : decode cX0_openRoom 57 = .ok (.aload_n 0, 1) := by decide +kernel
theorem dX0_openRoom_58 : decode cX0_openRoom 58 = .ok (.getfield 31, 3) := by decide +kernel
theorem dX0_openRoom_61 : decode cX0_openRoom 61 = .ok (.iload 4, 2) := by decide +kernel
theorem dX0_openRoom_63 : decode cX0_openRoom 63 = .ok (.iconst 0, 1) := by decide +kernel
theorem dX0_openRoom_64 : decode cX0_openRoom 64 = .ok (.invokevirtual 79, 3) := by decide +kernel
theorem dX0_openRoom_67 : decode cX0_openRoom 67 = .ok (.aload_n 0, 1) := by decide +kernel
theorem dX0_openRoom_68 : decode cX0_openRoom 68 = .ok (.getfield 34, 3) := by decide +kernel
theorem dX0_openRoom_71 : decode cX0_openRoom 71 = .ok (.iload 4, 2) := by decide +kernel
theorem dX0_openRoom_73 : decode cX0_openRoom 73 = .ok (.iconst (-1), 1) := by decide +kernel
theorem dX0_openRoom_74 : decode cX0_openRoom 74 = .ok (.invokevirtual 79, 3) := by decide +kernel
theorem dX0_openRoom_77 : decode cX0_openRoom 77 = .ok (.iload 4, 2) := by decide +kernel
theorem dX0_openRoom_79 : decode cX0_openRoom 79 = .ok (.ireturn, 1) := by decide +kernel
set_option maxRecDepth 20000 in
theorem ggX0_isWaiting_X2_get : GoodIn wsX0_isWaiting wsX2_get := goodIn_r _ [6, 7, 23] (by decide +kernel) (by decide +kernel)
set_option maxRecDepth 20000 in
theorem gX0_isWaiting_X2_get : GoodIn wsX0_isWaiting (wsV RX0 83 RX2 yX2_get wsX2_get) := goodIn_app (goodIn_of _ (by decide +kernel)) ggX0_isWaiting_X2_get
theorem dX0_isWaiting_0 : decode cX0_isWaiting 0 = .ok (.aload_n 0, 1) := by decide +kernel
theorem dX0_isWaiting_1 : decode cX0_isWaiting 1 = .ok (.getfield 34, 3) := by decide +kernel
theorem dX0_isWaiting_4 : decode cX0_isWaiting 4 = .ok (.iload_n 1, 1) := by decide +kernel
theorem dX0_isWaiting_5 : decode cX0_isWaiting 5 = .ok (.invokevirtual 83, 3) := by decide +kernel
theorem dX0_isWaiting_8 : decode cX0_isWaiting 8 = .ok (.iconst (-1), 1) := by decide +kernel
theorem dX0_isWaiting_9 : decode cX0_isWaiting 9 = .ok (.if_icmp .eq 7, 3) := by decide +kernel
theorem dX0_isWaiting_12 : decode cX0_isWaiting 12 = .ok (.iconst 1, 1) := by decide +kernel
theorem dX0_isWaiting_13 : decode cX0_isWaiting 13 = .ok (.goto 4, 3) := by decide +kernel
theorem dX0_isWaiting_16 : decode cX0_isWaiting 16 = .ok (.iconst 0, 1) := by decide +kernel
theorem dX0_isWaiting_17 : decode cX0_isWaiting 17 = .ok (.ireturn, 1) := by decide +kernel
set_option maxRecDepth 20000 in
theorem ggX0_isAnyoneWaiting_X2_get : GoodIn wsX0_isAnyoneWaiting wsX2_get := goodIn_r _ [7, 8, 24] (by decide +kernel) (by decide +kernel)
set_option maxRecDepth 20000 in
theorem gX0_isAnyoneWaiting_X2_get : GoodIn wsX0_isAnyoneWaiting (wsV RX0 83 RX2 yX2_get wsX2_get) := goodIn_app (goodIn_of _ (by decide +kernel)) ggX0_isAnyoneWaiting_X2_get
theorem dX0_isAnyoneWaiting_0 : decode cX0_isAnyoneWaiting 0 = .ok (.iconst 0, 1) := by decide +kernel
theorem dX0_isAnyoneWaiting_1 : decode cX0_isAnyoneWaiting 1 = .ok (.istore_n 1, 1) := by decide +kernel
theorem dX0_isAnyoneWaiting_2 : decode cX0_isAnyoneWaiting 2 = .ok (.iload_n 1, 1) := by decide +kernel
theorem dX0_isAnyoneWaiting_3 : decode cX0_isAnyoneWaiting 3 = .ok (.aload_n 0, 1) := by decide +kernel
theorem dX0_isAnyoneWaiting_4 : decode cX0_isAnyoneWaiting 4 = .ok (.getfield 54, 3) := by decide +kernel
theorem dX0_isAnyoneWaiting_7 : decode cX0_isAnyoneWaiting 7 = .ok (.if_icmp .ge 23, 3) := by decide +kernel
theorem dX0_isAnyoneWaiting_10 : decode cX0_isAnyoneWaiting 10 = .ok (.aload_n 0, 1) := by decide +kernel
theorem dX0_isAnyoneWaiting_11 : decode cX0_isAnyoneWaiting 11 = .ok (.getfield 34, 3) := by decide +kernel
theorem dX0_isAnyoneWaiting_14 : decode cX0_isAnyoneWaiting 14 = .ok (.iload_n 1, 1) := by decide +kernel
theorem dX0_isAnyoneWaiting_15 : decode cX0_isAnyoneWaiting 15 = .ok (.invokevirtual 83, 3) := by decide +kernel
theorem dX0_isAnyoneWaiting_18 : decode cX0_isAnyoneWaiting 18 = .ok (.iconst (-1), 1) := by decide +kernel
theorem dX0_isAnyoneWaiting_19 : decode cX0_isAnyoneWaiting 19 = .ok (.if_icmp .eq 5, 3) := by decide +kernel
theorem dX0_isAnyoneWaiting_22 : decode cX0_isAnyoneWaiting 22 = .ok (.iconst 1, 1) := by decide +kernel
theorem dX0_isAnyoneWaiting_23 : decode cX0_isAnyoneWaiting 23 = .ok (.ireturn, 1) := by decide +kernel
theorem dX0_isAnyoneWaiting_24 : decode cX0_isAnyoneWaiting 24 = .ok (.iinc 1 1, 3) := by decide +kernel
theorem dX0_isAnyoneWaiting_27 : decode cX0_isAnyoneWaiting 27 = .ok (.goto (-25), 3) := by decide +kernel
theorem dX0_isAnyoneWaiting_30 : decode cX0_isAnyoneWaiting 30 = .ok (.iconst 0, 1) := by decide +kernel
theorem dX0_isAnyoneWaiting_31 : decode cX0_isAnyoneWaiting 31 = .ok (.ireturn, 1) := by decide +kernel
set_option maxRecDepth 20000 in
theorem ggX0_isWireCut_X2_get : GoodIn wsX0_isWireCut wsX2_get := goodIn_r _ [6, 7, 23] (by decide +kernel) (by decide +kernel)
set_option maxRecDepth 20000 in
theorem gX0_isWireCut_X2_get : GoodIn wsX0_isWireCut (wsV RX0 83 RX2 yX2_get wsX2_get) := goodIn_app (goodIn_of _ (by decide +kernel)) ggX0_isWireCut_X2_get
theorem dX0_isWireCut_0 : decode cX0_isWireCut 0 = .ok (.aload_n 0, 1) := by decide +kernel
theorem dX0_isWireCut_1 : decode cX0_isWireCut 1 = .ok (.getfield 31, 3) := by decide +kernel
theorem dX0_isWireCut_4 : decode cX0_isWireCut 4 = .ok (.iload_n 1, 1) := by decide +kernel
theorem dX0_isWireCut_5 : decode cX0_isWireCut 5 = .ok (.invokevirtual 83, 3) := by decide +kernel
theorem dX0_isWireCut_8 : decode cX0_isWireCut 8 = .ok (.iconst 1, 1) := by decide +kernel
theorem dX0_isWireCut_9 : decode cX0_isWireCut 9 = .ok (.if_icmp .ne 7, 3) := by decide +kernel
theorem dX0_isWireCut_12 : decode cX0_isWireCut 12 = .ok (.iconst 1, 1) := by decide +kernel
theorem dX0_isWireCut_13 : decode cX0_isWireCut 13 = .ok (.goto 4, 3) := by decide +kernel
theorem dX0_isWireCut_16 : decode cX0_isWireCut 16 = .ok (.iconst 0, 1) := by decide +kernel
theorem dX0_isWireCut_17 : decode cX0_isWireCut 17 = .ok (.ireturn, 1) := by decide +kernel
set_option maxRecDepth 20000 in
theorem ggX0_countCutWires_X2_get : GoodIn wsX0_countCutWires wsX2_get := goodIn_r _ [7, 8, 24] (by decide +kernel) (by decide +kernel)
set_option maxRecDepth 20000 in
theorem gX0_countCutWires_X2_get : GoodIn wsX0_countCutWires (wsV RX0 83 RX2 yX2_get wsX2_get) := goodIn_app (goodIn_of _ (by decide +kernel)) ggX0_countCutWires_X2_get
theorem dX0_countCutWires_0 : decode cX0_countCutWires 0 = .ok (.iconst 0, 1) := by decide +kernel
theorem dX0_countCutWires_1 : decode cX0_countCutWires 1 = .ok (.istore_n 1, 1) := by decide +kernel
theorem dX0_countCutWires_2 : decode cX0_countCutWires 2 = .ok (.iconst 0, 1) := by decide +kernel
theorem dX0_countCutWires_3 : decode cX0_countCutWires 3 = .ok (.istore_n 2, 1) := by decide +kernel
theorem dX0_countCutWires_4 : decode cX0_countCutWires 4 = .ok (.iload_n 2, 1) := by decide +kernel
theorem dX0_countCutWires_5 : decode cX0_countCutWires 5 = .ok (.aload_n 0, 1) := by decide +kernel
theorem dX0_countCutWires_6 : decode cX0_countCutWires 6 = .ok (.getfield 54, 3) := by decide +kernel
theorem dX0_countCutWires_9 : decode cX0_countCutWires 9 = .ok (.if_icmp .ge 20, 3) := by decide +kernel
theorem dX0_countCutWires_12 : decode cX0_countCutWires 12 = .ok (.iload_n 1, 1) := by decide +kernel
theorem dX0_countCutWires_13 : decode cX0_countCutWires 13 = .ok (.aload_n 0, 1) := by decide +kernel
theorem dX0_countCutWires_14 : decode cX0_countCutWires 14 = .ok (.getfield 31, 3) := by decide +kernel
theorem dX0_countCutWires_17 : decode cX0_countCutWires 17 = .ok (.iload_n 2, 1) := by decide +kernel
theorem dX0_countCutWires_18 : decode cX0_countCutWires 18 = .ok (.invokevirtual 83, 3) := by decide +kernel
theorem dX0_countCutWires_21 : decode cX0_countCutWires 21 = .ok (.iadd, 1) := by decide +kernel
theorem dX0_countCutWires_22 : decode cX0_countCutWires 22 = .ok (.istore_n 1, 1) := by decide +kernel
theorem dX0_countCutWires_23 : decode cX0_countCutWires 23 = .ok (.iinc 2 1, 3) := by decide +kernel
theorem dX0_countCutWires_26 : decode cX0_countCutWires 26 = .ok (.goto (-22), 3) := by decide +kernel
theorem dX0_countCutWires_29 : decode cX0_countCutWires 29 = .ok (.iload_n 1, 1) := by decide +kernel
theorem dX0_countCutWires_30 : decode cX0_countCutWires 30 = .ok (.ireturn, 1) := by decide +kernel
set_option maxRecDepth 20000 in
theorem ggX0_swapWires_X2_get : GoodIn wsX0_swapWires wsX2_get := goodIn_r _ [6, 7, 27] (by decide +kernel) (by decide +kernel)
set_option maxRecDepth 20000 in
theorem gX0_swapWires_X2_get : GoodIn wsX0_swapWires (wsV RX0 83 RX2 yX2_get wsX2_get) := goodIn_app (goodIn_of _ (by decide +kernel)) ggX0_swapWires_X2_get
set_option maxRecDepth 20000 in
theorem ggX0_swapWires_X2_set : GoodIn wsX0_swapWires wsX2_set := goodIn_r _ [11, 7, 27] (by decide +kernel) (by decide +kernel)
set_option maxRecDepth 20000 in
theorem gX0_swapWires_X2_set : GoodIn wsX0_swapWires (wsV RX0 79 RX2 yX2_set wsX2_set) := goodIn_app (goodIn_of _ (by decide +kernel)) ggX0_swapWires_X2_set
theorem dX0_swapWires_0 : decode cX0_swapWires 0 = .ok (.aload_n 0, 1) := by decide +kernel
theorem dX0_swapWires_1 : decode cX0_swapWires 1 = .ok (.getfield 28, 3) := by decide +kernel
theorem dX0_swapWires_4 : decode cX0_swapWires 4 = .ok (.iload_n 1, 1) := by decide +kernel
theorem dX0_swapWires_5 : decode cX0_swapWires 5 = .ok (.invokevirtual 83, 3) := by decide +kernel
theorem dX0_swapWires_8 : decode cX0_swapWires 8 = .ok (.istore_n 3, 1) := by decide +kernel
theorem dX0_swapWires_9 : decode cX0_swapWires 9 = .ok (.aload_n 0, 1) := by decide +kernel
theorem dX0_swapWires_10 : decode cX0_swapWires 10 = .ok (.getfield 28, 3) := by decide +kernel
theorem dX0_swapWires_13 : decode cX0_swapWires 13 = .ok (.iload_n 1, 1) := by decide +kernel
theorem dX0_swapWires_14 : decode cX0_swapWires 14 = .ok (.aload_n 0, 1) := by decide +kernel
theorem dX0_swapWires_15 : decode cX0_swapWires 15 = .ok (.getfield 28, 3) := by decide +kernel
theorem dX0_swapWires_18 : decode cX0_swapWires 18 = .ok (.iload_n 2, 1) := by decide +kernel
theorem dX0_swapWires_19 : decode cX0_swapWires 19 = .ok (.invokevirtual 83, 3) := by decide +kernel
theorem dX0_swapWires_22 : decode cX0_swapWires 22 = .ok (.invokevirtual 79, 3) := by decide +kernel
theorem dX0_swapWires_25 : decode cX0_swapWires 25 = .ok (.aload_n 0, 1) := by decide +kernel
theorem dX0_swapWires_26 : decode cX0_swapWires 26 = .ok (.getfield 28, 3) := by decide +kernel
theorem dX0_swapWires_29 : decode cX0_swapWires 29 = .ok (.iload_n 2, 1) := by decide +kernel
theorem dX0_swapWires_30 : decode cX0_swapWires 30 = .ok (.iload_n 3, 1) := by decide +kernel
theorem dX0_swapWires_31 : decode cX0_swapWires 31 = .ok (.invokevirtual 79, 3) := by decide +kernel
theorem dX0_swapWires_34 : decode cX0_swapWires 34 = .ok (.return_, 1) := by decide +kernel
set_option maxRecDepth 20000 in
theorem ggX0_isFirstOfItsCircle_X2_get : GoodIn wsX0_isFirstOfItsCircle wsX2_get := goodIn_r _ [7, 8, 24] (by decide +kernel) (by decide +kernel)
set_option maxRecDepth 20000 in
theorem gX0_isFirstOfItsCircle_X2_get : GoodIn wsX0_isFirstOfItsCircle (wsV RX0 83 RX2 yX2_get wsX2_get) := goodIn_app (goodIn_of _ (by decide +kernel)) ggX0_isFirstOfItsCircle_X2_get
theorem dX0_isFirstOfItsCircle_0 : decode cX0_isFirstOfItsCircle 0 = .ok (.aload_n 0, 1) := by decide +kernel
theorem dX0_isFirstOfItsCircle_1 : decode cX0_isFirstOfItsCircle 1 = .ok (.getfield 28, 3) := by decide +kernel
theorem dX0_isFirstOfItsCircle_4 : decode cX0_isFirstOfItsCircle 4 = .ok (.iload_n 1, 1) := by decide +kernel
theorem dX0_isFirstOfItsCircle_5 : decode cX0_isFirstOfItsCircle 5 = .ok (.invokevirtual 83, 3) := by decide +kernel
theorem dX0_isFirstOfItsCircle_8 : decode cX0_isFirstOfItsCircle 8 = .ok (.istore_n 2, 1) := by decide +kernel
theorem dX0_isFirstOfItsCircle_9 : decode cX0_isFirstOfItsCircle 9 = .ok (.iconst 0, 1) := by decide +kernel
theorem dX0_isFirstOfItsCircle_10 : decode cX0_isFirstOfItsCircle 10 = .ok (.istore_n 3, 1) := by decide +kernel
theorem dX0_isFirstOfItsCircle_11 : decode cX0_isFirstOfItsCircle 11 = .ok (.iload_n 3, 1) := by decide +kernel
theorem dX0_isFirstOfItsCircle_12 : decode cX0_isFirstOfItsCircle 12 = .ok (.aload_n 0, 1) := by decide +kernel
theorem dX0_isFirstOfItsCircle_13 : decode cX0_isFirstOfItsCircle 13 = .ok (.getfield 54, 3) := by decide +kernel
theorem dX0_isFirstOfItsCircle_16 : decode cX0_isFirstOfItsCircle 16 = .ok (.if_icmp .ge 30, 3) := by decide +kernel
theorem dX0_isFirstOfItsCircle_19 : decode cX0_isFirstOfItsCircle 19 = .ok (.iload_n 2, 1) := by decide +kernel
theorem dX0_isFirstOfItsCircle_20 : decode cX0_isFirstOfItsCircle 20 = .ok (.iload_n 1, 1) := by decide +kernel
theorem dX0_isFirstOfItsCircle_21 : decode cX0_isFirstOfItsCircle 21 = .ok (.if_icmp .eq 25, 3) := by decide +kernel
theorem dX0_isFirstOfItsCircle_24 : decode cX0_isFirstOfItsCircle 24 = .ok (.iload_n 2, 1) := by decide +kernel
theorem dX0_isFirstOfItsCircle_25 : decode cX0_isFirstOfItsCircle 25 = .ok (.iload_n 1, 1) := by decide +kernel
theorem dX0_isFirstOfItsCircle_26 : decode cX0_isFirstOfItsCircle 26 = .ok (.if_icmp .ge 5, 3) := by decide +kernel
theorem dX0_isFirstOfItsCircle_29 : decode cX0_isFirstOfItsCircle 29 = .ok (.iconst 0, 1) := by decide +kernel
theorem dX0_isFirstOfItsCircle_30 : decode cX0_isFirstOfItsCircle 30 = .ok (.ireturn, 1) := by decide +kernel
theorem dX0_isFirstOfItsCircle_31 : decode cX0_isFirstOfItsCircle 31 = .ok (.aload_n 0, 1) := by decide +kernel
theorem dX0_isFirstOfItsCircle_32 : decode cX0_isFirstOfItsCircle 32 = .ok (.getfield 28, 3) := by decide +kernel
theorem dX0_isFirstOfItsCircle_35 : decode cX0_isFirstOfItsCircle 35 = .ok (.iload_n 2, 1) := by decide +kernel
theorem dX0_isFirstOfItsCircle_36 : decode cX0_isFirstOfItsCircle 36 = .ok (.invokevirtual 83, 3) := by decide +kernel
theorem dX0_isFirstOfItsCircle_39 : decode cX0_isFirstOfItsCircle 39 = .ok (.istore_n 2, 1) := by decide +kernel
theorem dX0_isFirstOfItsCircle_40 : decode cX0_isFirstOfItsCircle 40 = .ok (.iinc 3 1, 3) := by decide +kernel
theorem dX0_isFirstOfItsCircle_43 : decode cX0_isFirstOfItsCircle 43 = .ok (.goto (-32), 3) := by decide +kernel
theorem dX0_isFirstOfItsCircle_46 : decode cX0_isFirstOfItsCircle 46 = .ok (.iconst 1, 1) := by decide +kernel
theorem dX0_isFirstOfItsCircle_47 : decode cX0_isFirstOfItsCircle 47 = .ok (.ireturn, 1) := by decide +kernel
theorem dX0_costFrom_0 : decode cX0_costFrom 0 = .ok (.iload_n 0, 1) := by decide +kernel
theorem dX0_costFrom_1 : decode cX0_costFrom 1 = .ok (.iconst 1, 1) := by decide +kernel
theorem dX0_costFrom_2 : decode cX0_costFrom 2 = .ok (.iadd, 1) := by decide +kernel
theorem dX0_costFrom_3 : decode cX0_costFrom 3 = .ok (.ireturn, 1) := by decide +kernel
set_option maxRecDepth 20000 in
theorem ggX0_pullBell_X2_get : GoodIn wsX0_pullBell wsX2_get := goodIn_r _ [11, 12, 43] (by decide +kernel) (by decide +kernel)
set_option maxRecDepth 20000 in
theorem gX0_pullBell_X2_get : GoodIn wsX0_pullBell (wsV RX0 83 RX2 yX2_get wsX2_get) := goodIn_app (goodIn_of _ (by decide +kernel)) ggX0_pullBell_X2_get
set_option maxRecDepth 20000 in
theorem ggX0_pullBell_X0_costFrom : GoodIn wsX0_pullBell wsX0_costFrom := goodIn_r _ [16] (by decide +kernel) (by decide +kernel)
set_option maxRecDepth 20000 in
theorem gX0_pullBell_X0_costFrom : GoodIn wsX0_pullBell (va_wsS RX0 87 yX0_costFrom wsX0_costFrom) := goodIn_app (goodIn_of _ (by decide +kernel)) ggX0_pullBell_X0_costFrom
set_option maxRecDepth 20000 in
theorem ggX0_pullBell_X1_placeOf : GoodIn wsX0_pullBell wsX1_placeOf := goodIn_r _ [21, 22, 23, 44, 45] (by decide +kernel) (by decide +kernel)
set_option maxRecDepth 20000 in
theorem gX0_pullBell_X1_placeOf : GoodIn wsX0_pullBell (wsV RX0 90 RX1 yX1_placeOf wsX1_placeOf) := goodIn_app (goodIn_of _ (by decide +kernel)) ggX0_pullBell_X1_placeOf
set_option maxRecDepth 20000 in
theorem ggX0_pullBell_X1_append : GoodIn wsX0_pullBell wsX1_append := goodIn_r _ [27, 22, 23, 44, 45] (by decide +kernel) (by decide +kernel)
set_option maxRecDepth 20000 in
theorem gX0_pullBell_X1_append : GoodIn wsX0_pullBell (wsV RX0 93 RX1 yX1_append wsX1_append) := goodIn_app (goodIn_of _ (by decide +kernel)) ggX0_pullBell_X1_append
theorem dX0_pullBell_0 : decode cX0_pullBell 0 = .ok (.aload_n 0, 1) := by decide +kernel
theorem dX0_pullBell_1 : decode cX0_pullBell 1 = .ok (.getfield 18, 3) := by decide +kernel
theorem dX0_pullBell_4 : decode cX0_pullBell 4 = .ok (.iload_n 1, 1) := by decide +kernel
theorem dX0_pullBell_5 : decode cX0_pullBell 5 = .ok (.invokevirtual 83, 3) := by decide +kernel
theorem dX0_pullBell_8 : decode cX0_pullBell 8 = .ok (.invokestatic 87, 3) := by decide +kernel
theorem dX0_pullBell_11 : decode cX0_pullBell 11 = .ok (.istore_n 2, 1) := by decide +kernel
theorem dX0_pullBell_12 : decode cX0_pullBell 12 = .ok (.aload_n 0, 1) := by decide +kernel
theorem dX0_pullBell_13 : decode cX0_pullBell 13 = .ok (.getfield 31, 3) := by decide +kernel
theorem dX0_pullBell_16 : decode cX0_pullBell 16 = .ok (.iload_n 1, 1) := by decide +kernel
theorem dX0_pullBell_17 : decode cX0_pullBell 17 = .ok (.invokevirtual 83, 3) := by decide +kernel
theorem dX0_pullBell_20 : decode cX0_pullBell 20 = .ok (.iconst 1, 1) := by decide +kernel
theorem dX0_pullBell_21 : decode cX0_pullBell 21 = .ok (.if_icmp .eq 11, 3) := by decide +kernel
theorem dX0_pullBell_24 : decode cX0_pullBell 24 = .ok (.aload_n 0, 1) := by decide +kernel
theorem dX0_pullBell_25 : decode cX0_pullBell 25 = .ok (.getfield 9, 3) := by decide +kernel
theorem dX0_pullBell_28 : decode cX0_pullBell 28 = .ok (.iload_n 2, 1) := by decide +kernel
theorem dX0_pullBell_29 : decode cX0_pullBell 29 = .ok (.if_icmp .ge 15, 3) := by decide +kernel
theorem dX0_pullBell_32 : decode cX0_pullBell 32 = .ok (.aload_n 0, 1) := by decide +kernel
theorem dX0_pullBell_33 : decode cX0_pullBell 33 = .ok (.dup, 1) := by decide +kernel
theorem dX0_pullBell_34 : decode cX0_pullBell 34 = .ok (.getfield 66, 3) := by decide +kernel
theorem dX0_pullBell_37 : decode cX0_pullBell 37 = .ok (.iconst 1, 1) := by decide +kernel
theorem dX0_pullBell_38 : decode cX0_pullBell 38 = .ok (.iadd, 1) := by decide +kernel
theorem dX0_pullBell_39 : decode cX0_pullBell 39 = .ok (.putfield 66, 3) := by decide +kernel
theorem dX0_pullBell_42 : decode cX0_pullBell 42 = .ok (.iconst 0, 1) := by decide +kernel
theorem dX0_pullBell_43 : decode cX0_pullBell 43 = .ok (.ireturn, 1) := by decide +kernel
theorem dX0_pullBell_44 : decode cX0_pullBell 44 = .ok (.aload_n 0, 1) := by decide +kernel
theorem dX0_pullBell_45 : decode cX0_pullBell 45 = .ok (.dup, 1) := by decide +kernel
theorem dX0_pullBell_46 : decode cX0_pullBell 46 = .ok (.getfield 9, 3) := by decide +kernel
theorem dX0_pullBell_49 : decode cX0_pullBell 49 = .ok (.iload_n 2, 1) := by decide +kernel
theorem dX0_pullBell_50 : decode cX0_pullBell 50 = .ok (.isub, 1) := by decide +kernel
theorem dX0_pullBell_51 : decode cX0_pullBell 51 = .ok (.putfield 9, 3) := by decide +kernel
theorem dX0_pullBell_54 : decode cX0_pullBell 54 = .ok (.aload_n 0, 1) := by decide +kernel
theorem dX0_pullBell_55 : decode cX0_pullBell 55 = .ok (.getfield 28, 3) := by decide +kernel
theorem dX0_pullBell_58 : decode cX0_pullBell 58 = .ok (.iload_n 1, 1) := by decide +kernel
theorem dX0_pullBell_59 : decode cX0_pullBell 59 = .ok (.invokevirtual 83, 3) := by decide +kernel
theorem dX0_pullBell_62 : decode cX0_pullBell 62 = .ok (.istore_n 3, 1) := by decide +kernel
theorem dX0_pullBell_63 : decode cX0_pullBell 63 = .ok (.aload_n 0, 1) := by decide +kernel
theorem dX0_pullBell_64 : decode cX0_pullBell 64 = .ok (.getfield 40, 3) := by decide +kernel
theorem dX0_pullBell_67 : decode cX0_pullBell 67 = .ok (.iload_n 3, 1) := by decide +kernel
theorem dX0_pullBell_68 : decode cX0_pullBell 68 = .ok (.invokevirtual 90, 3) := by decide +kernel
theorem dX0_pullBell_71 : decode cX0_pullBell 71 = .ok (.iconst (-1), 1) := by decide +kernel
theorem dX0_pullBell_72 : decode cX0_pullBell 72 = .ok (.if_icmp .ne 11, 3) := by decide +kernel
theorem dX0_pullBell_75 : decode cX0_pullBell 75 = .ok (.aload_n 0, 1) := by decide +kernel
theorem dX0_pullBell_76 : decode cX0_pullBell 76 = .ok (.getfield 40, 3) := by decide +kernel
theorem dX0_pullBell_79 : decode cX0_pullBell 79 = .ok (.iload_n 3, 1) := by decide +kernel
theorem dX0_pullBell_80 : decode cX0_pullBell 80 = .ok (.invokevirtual 93, 3) := by decide +kernel
theorem dX0_pullBell_83 : decode cX0_pullBell 83 = .ok (.iconst 1, 1) := by decide +kernel
theorem dX0_pullBell_84 : decode cX0_pullBell 84 = .ok (.ireturn, 1) := by decide +kernel
set_option maxRecDepth 20000 in
theorem ggX0_letMinuteGoBy_X0_letRoomsWait : GoodIn wsX0_letMinuteGoBy wsX0_letRoomsWait := goodIn_r _ [7, 8, 9, 10, 11, 12, 13, 14, 15, 16, 17, 18, 19, 20, 21, 22, 23, 6, 24, 25, 26, 27, 28, 29, 30, 31, 32, 33, 34, 35, 36, 37, 38, 39, 40, 41, 42, 43, 44, 45, 46, 47, 48, 100, 101, 102, 103, 104, 105, 106, 107, 108, 109, 110, 111, 112, 113, 114, 115, 116, 117] (by decide +kernel) (by decide +kernel)
set_option maxRecDepth 20000 in
theorem gX0_letMinuteGoBy_X0_letRoomsWait : GoodIn wsX0_letMinuteGoBy (wsV RX0 97 RX0 yX0_letRoomsWait wsX0_letRoomsWait) := goodIn_app (goodIn_of _ (by decide +kernel)) ggX0_letMinuteGoBy_X0_letRoomsWait
set_option maxRecDepth 20000 in
theorem ggX0_letMinuteGoBy_X0_letServantsMove : GoodIn wsX0_letMinuteGoBy wsX0_letServantsMove := goodIn_r _ [52, 53, 54, 55, 56, 57, 58, 59, 60, 61, 13, 14, 15, 16, 17, 12, 18, 19, 20, 21, 62, 63, 64, 65, 66, 67, 68, 69, 70, 6, 71, 29, 9, 72, 1, 73, 100, 101, 102, 103, 104, 105, 106, 107, 108, 109, 110, 111, 112, 113, 114, 118, 119, 120, 121, 122, 123, 115] (by decide +kernel) (by decide +kernel)
set_option maxRecDepth 20000 in
theorem gX0_letMinuteGoBy_X0_letServantsMove : GoodIn wsX0_letMinuteGoBy (wsV RX0 100 RX0 yX0_letServantsMove wsX0_letServantsMove) := goodIn_app (goodIn_of _ (by decide +kernel)) ggX0_letMinuteGoBy_X0_letServantsMove
set_option maxRecDepth 20000 in
theorem ggX0_letMinuteGoBy_X0_sendIdleServants : GoodIn wsX0_letMinuteGoBy wsX0_sendIdleServants := goodIn_r _ [77, 53, 34, 29, 78, 79, 80, 41, 81, 43, 44, 12, 13, 14, 15, 16, 17, 82, 83, 84, 57, 85, 86, 59, 60, 87, 88, 61, 89, 90, 91, 92, 93, 94, 95, 96, 97, 98, 99, 18, 19, 20, 21, 100, 101, 102, 103, 104, 105, 106, 107, 108, 109, 110, 111, 112, 113, 114, 118, 119, 120, 121, 122, 123, 116, 117, 115] (by decide +kernel) (by decide +kernel)
set_option maxRecDepth 20000 in
theorem gX0_letMinuteGoBy_X0_sendIdleServants : GoodIn wsX0_letMinuteGoBy (wsV RX0 103 RX0 yX0_sendIdleServants wsX0_sendIdleServants) := goodIn_app (goodIn_of _ (by decide +kernel)) ggX0_letMinuteGoBy_X0_sendIdleServants
theorem dX0_letMinuteGoBy_0 : decode cX0_letMinuteGoBy 0 = .ok (.aload_n 0, 1) := by decide +kernel
theorem dX0_letMinuteGoBy_1 : decode cX0_letMinuteGoBy 1 = .ok (.getfield 57, 3) := by decide +kernel
theorem dX0_letMinuteGoBy_4 : decode cX0_letMinuteGoBy 4 = .ok (.istore_n 1, 1) := by decide +kernel
theorem dX0_letMinuteGoBy_5 : decode cX0_letMinuteGoBy 5 = .ok (.aload_n 0, 1) := by decide +kernel
theorem dX0_letMinuteGoBy_6 : decode cX0_letMinuteGoBy 6 = .ok (.invokevirtual 97, 3) := by decide +kernel
theorem dX0_letMinuteGoBy_9 : decode cX0_letMinuteGoBy 9 = .ok (.aload_n 0, 1) := by decide +kernel
theorem dX0_letMinuteGoBy_10 : decode cX0_letMinuteGoBy 10 = .ok (.invokevirtual 100, 3) := by decide +kernel
theorem dX0_letMinuteGoBy_13 : decode cX0_letMinuteGoBy 13 = .ok (.aload_n 0, 1) := by decide +kernel
theorem dX0_letMinuteGoBy_14 : decode cX0_letMinuteGoBy 14 = .ok (.invokevirtual 103, 3) := by decide +kernel
theorem dX0_letMinuteGoBy_17 : decode cX0_letMinuteGoBy 17 = .ok (.aload_n 0, 1) := by decide +kernel
theorem dX0_letMinuteGoBy_18 : decode cX0_letMinuteGoBy 18 = .ok (.dup, 1) := by decide +kernel
theorem dX0_letMinuteGoBy_19 : decode cX0_letMinuteGoBy 19 = .ok (.getfield 51, 3) := by decide +kernel
theorem dX0_letMinuteGoBy_22 : decode cX0_letMinuteGoBy 22 = .ok (.iconst 1, 1) := by decide +kernel
theorem dX0_letMinuteGoBy_23 : decode cX0_letMinuteGoBy 23 = .ok (.iadd, 1) := by decide +kernel
theorem dX0_letMinuteGoBy_24 : decode cX0_letMinuteGoBy 24 = .ok (.putfield 51, 3) := by decide +kernel
theorem dX0_letMinuteGoBy_27 : decode cX0_letMinuteGoBy 27 = .ok (.aload_n 0, 1) := by decide +kernel
theorem dX0_letMinuteGoBy_28 : decode cX0_letMinuteGoBy 28 = .ok (.getfield 57, 3) := by decide +kernel
theorem dX0_letMinuteGoBy_31 : decode cX0_letMinuteGoBy 31 = .ok (.iload_n 1, 1) := by decide +kernel
theorem dX0_letMinuteGoBy_32 : decode cX0_letMinuteGoBy 32 = .ok (.isub, 1) := by decide +kernel
theorem dX0_letMinuteGoBy_33 : decode cX0_letMinuteGoBy 33 = .ok (.ireturn, 1) := by decide +kernel
set_option maxRecDepth 20000 in
theorem ggX0_letRoomsWait_X2_get : GoodIn wsX0_letRoomsWait wsX2_get := goodIn_r _ [9, 10, 58] (by decide +kernel) (by decide +kernel)
set_option maxRecDepth 20000 in
theorem gX0_letRoomsWait_X2_get : GoodIn wsX0_letRoomsWait (wsV RX0 83 RX2 yX2_get wsX2_get) := goodIn_app (goodIn_of _ (by decide +kernel)) ggX0_letRoomsWait_X2_get
set_option maxRecDepth 20000 in
theorem ggX0_letRoomsWait_X2_set : GoodIn wsX0_letRoomsWait wsX2_set := goodIn_r _ [14, 10, 58] (by decide +kernel) (by decide +kernel)
set_option maxRecDepth 20000 in
theorem gX0_letRoomsWait_X2_set : GoodIn wsX0_letRoomsWait (wsV RX0 79 RX2 yX2_set wsX2_set) := goodIn_app (goodIn_of _ (by decide +kernel)) ggX0_letRoomsWait_X2_set
set_option maxRecDepth 20000 in
theorem ggX0_letRoomsWait_X0_isMultiple : GoodIn wsX0_letRoomsWait wsX0_isMultiple := goodIn_r _ [18] (by decide +kernel) (by decide +kernel)
set_option maxRecDepth 20000 in
theorem gX0_letRoomsWait_X0_isMultiple : GoodIn wsX0_letRoomsWait (va_wsS RX0 106 yX0_isMultiple wsX0_isMultiple) := goodIn_app (goodIn_of _ (by decide +kernel)) ggX0_letRoomsWait_X0_isMultiple
set_option maxRecDepth 20000 in
theorem ggX0_letRoomsWait_X0_pullBell : GoodIn wsX0_letRoomsWait wsX0_pullBell := goodIn_r _ [22, 23, 24, 25, 26, 27, 28, 5, 6, 7, 8, 9, 10, 29, 30, 17, 31, 32, 33, 34, 35, 36, 37, 38, 39, 40, 41, 42, 43, 44, 45, 46, 47, 48, 49, 50, 51, 52, 53, 54, 55, 56, 57, 58, 59, 60] (by decide +kernel) (by decide +kernel)
set_option maxRecDepth 20000 in
theorem gX0_letRoomsWait_X0_pullBell : GoodIn wsX0_letRoomsWait (wsV RX0 110 RX0 yX0_pullBell wsX0_pullBell) := goodIn_app (goodIn_of _ (by decide +kernel)) ggX0_letRoomsWait_X0_pullBell
theorem dX0_letRoomsWait_0 : decode cX0_letRoomsWait 0 = .ok (.iconst 0, 1) := by decide +kernel
theorem dX0_letRoomsWait_1 : decode cX0_letRoomsWait 1 = .ok (.istore_n 1, 1) := by decide +kernel
theorem dX0_letRoomsWait_2 : decode cX0_letRoomsWait 2 = .ok (.iload_n 1, 1) := by decide +kernel
theorem dX0_letRoomsWait_3 : decode cX0_letRoomsWait 3 = .ok (.aload_n 0, 1) := by decide +kernel
theorem dX0_letRoomsWait_4 : decode cX0_letRoomsWait 4 = .ok (.getfield 54, 3) := by decide +kernel
theorem dX0_letRoomsWait_7 : decode cX0_letRoomsWait 7 = .ok (.if_icmp .ge 93, 3) := by decide +kernel
theorem dX0_letRoomsWait_10 : decode cX0_letRoomsWait 10 = .ok (.aload_n 0, 1) := by decide +kernel
theorem dX0_letRoomsWait_11 : decode cX0_letRoomsWait 11 = .ok (.getfield 34, 3) := by decide +kernel
theorem dX0_letRoomsWait_14 : decode cX0_letRoomsWait 14 = .ok (.iload_n 1, 1) := by decide +kernel
theorem dX0_letRoomsWait_15 : decode cX0_letRoomsWait 15 = .ok (.invokevirtual 83, 3) := by decide +kernel
theorem dX0_letRoomsWait_18 : decode cX0_letRoomsWait 18 = .ok (.iconst (-1), 1) := by decide +kernel
theorem dX0_letRoomsWait_19 : decode cX0_letRoomsWait 19 = .ok (.if_icmp .ne 6, 3) := by decide +kernel
theorem dX0_letRoomsWait_22 : decode cX0_letRoomsWait 22 = .ok (.goto 72, 3) := by decide +kernel
theorem dX0_letRoomsWait_25 : decode cX0_letRoomsWait 25 = .ok (.aload_n 0, 1) := by decide +kernel
theorem dX0_letRoomsWait_26 : decode cX0_letRoomsWait 26 = .ok (.getfield 34, 3) := by decide +kernel
theorem dX0_letRoomsWait_29 : decode cX0_letRoomsWait 29 = .ok (.iload_n 1, 1) := by decide +kernel
theorem dX0_letRoomsWait_30 : decode cX0_letRoomsWait 30 = .ok (.invokevirtual 83, 3) := by decide +kernel
theorem dX0_letRoomsWait_33 : decode cX0_letRoomsWait 33 = .ok (.iconst 1, 1) := by decide +kernel
theorem dX0_letRoomsWait_34 : decode cX0_letRoomsWait 34 = .ok (.iadd, 1) := by decide +kernel
theorem dX0_letRoomsWait_35 : decode cX0_letRoomsWait 35 = .ok (.istore_n 2, 1) := by decide +kernel
theorem dX0_letRoomsWait_36 : decode cX0_letRoomsWait 36 = .ok (.iload_n 2, 1) := by decide +kernel
theorem dX0_letRoomsWait_37 : decode cX0_letRoomsWait 37 = .ok (.bipush 30, 2) := by decide +kernel
theorem dX0_letRoomsWait_39 : decode cX0_letRoomsWait 39 = .ok (.if_icmp .lt 25, 3) := by decide +kernel
theorem dX0_letRoomsWait_42 : decode cX0_letRoomsWait 42 = .ok (.aload_n 0, 1) := by decide +kernel
theorem dX0_letRoomsWait_43 : decode cX0_letRoomsWait 43 = .ok (.getfield 34, 3) := by decide +kernel
theorem dX0_letRoomsWait_46 : decode cX0_letRoomsWait 46 = .ok (.iload_n 1, 1) := by decide +kernel
theorem dX0_letRoomsWait_47 : decode cX0_letRoomsWait 47 = .ok (.iconst (-1), 1) := by decide +kernel
theorem dX0_letRoomsWait_48 : decode cX0_letRoomsWait 48 = .ok (.invokevirtual 79, 3) := by decide +kernel
theorem dX0_letRoomsWait_51 : decode cX0_letRoomsWait 51 = .ok (.aload_n 0, 1) := by decide +kernel
theorem dX0_letRoomsWait_52 : decode cX0_letRoomsWait 52 = .ok (.dup, 1) := by decide +kernel
theorem dX0_letRoomsWait_53 : decode cX0_letRoomsWait 53 = .ok (.getfield 63, 3) := by decide +kernel
theorem dX0_letRoomsWait_56 : decode cX0_letRoomsWait 56 = .ok (.iconst 1, 1) := by decide +kernel
theorem dX0_letRoomsWait_57 : decode cX0_letRoomsWait 57 = .ok (.iadd, 1) := by decide +kernel
theorem dX0_letRoomsWait_58 : decode cX0_letRoomsWait 58 = .ok (.putfield 63, 3) := by decide +kernel
theorem dX0_letRoomsWait_61 : decode cX0_letRoomsWait 61 = .ok (.goto 33, 3) := by decide +kernel
theorem dX0_letRoomsWait_64 : decode cX0_letRoomsWait 64 = .ok (.aload_n 0, 1) := by decide +kernel
theorem dX0_letRoomsWait_65 : decode cX0_letRoomsWait 65 = .ok (.getfield 34, 3) := by decide +kernel
theorem dX0_letRoomsWait_68 : decode cX0_letRoomsWait 68 = .ok (.iload_n 1, 1) := by decide +kernel
theorem dX0_letRoomsWait_69 : decode cX0_letRoomsWait 69 = .ok (.iload_n 2, 1) := by decide +kernel
theorem dX0_letRoomsWait_70 : decode cX0_letRoomsWait 70 = .ok (.invokevirtual 79, 3) := by decide +kernel
theorem dX0_letRoomsWait_73 : decode cX0_letRoomsWait 73 = .ok (.iload_n 2, 1) := by decide +kernel
theorem dX0_letRoomsWait_74 : decode cX0_letRoomsWait 74 = .ok (.aload_n 0, 1) := by decide +kernel
theorem dX0_letRoomsWait_75 : decode cX0_letRoomsWait 75 = .ok (.getfield 22, 3) := by decide +kernel
theorem dX0_letRoomsWait_78 : decode cX0_letRoomsWait 78 = .ok (.iload_n 1, 1) := by decide +kernel
theorem dX0_letRoomsWait_79 : decode cX0_letRoomsWait 79 = .ok (.invokevirtual 83, 3) := by decide +kernel
theorem dX0_letRoomsWait_82 : decode cX0_letRoomsWait 82 = .ok (.invokestatic 106, 3) := by decide +kernel
theorem dX0_letRoomsWait_85 : decode cX0_letRoomsWait 85 = .ok (.ifCond .eq 9, 3) := by decide +kernel
theorem dX0_letRoomsWait_88 : decode cX0_letRoomsWait 88 = .ok (.aload_n 0, 1) := by decide +kernel
theorem dX0_letRoomsWait_89 : decode cX0_letRoomsWait 89 = .ok (.iload_n 1, 1) := by decide +kernel
theorem dX0_letRoomsWait_90 : decode cX0_letRoomsWait 90 = .ok (.invokevirtual 110, 3) := by decide +kernel
theorem dX0_letRoomsWait_93 : decode cX0_letRoomsWait 93 = .ok (.pop, 1) := by decide +kernel
theorem dX0_letRoomsWait_94 : decode cX0_letRoomsWait 94 = .ok (.iinc 1 1, 3) := by decide +kernel
theorem dX0_letRoomsWait_97 : decode cX0_letRoomsWait 97 = .ok (.goto (-95), 3) := by decide +kernel
theorem dX0_letRoomsWait_100 : decode cX0_letRoomsWait 100 = .ok (.return_, 1) := by decide +kernel
theorem dX0_isMultiple_0 : decode cX0_isMultiple 0 = .ok (.iload_n 1, 1) := by decide +kernel
theorem dX0_isMultiple_1 : decode cX0_isMultiple 1 = .ok (.ifCond .le 13, 3) := by decide +kernel
theorem dX0_isMultiple_4 : decode cX0_isMultiple 4 = .ok (.iload_n 0, 1) := by decide +kernel
theorem dX0_isMultiple_5 : decode cX0_isMultiple 5 = .ok (.iload_n 1, 1) := by decide +kernel
theorem dX0_isMultiple_6 : decode cX0_isMultiple 6 = .ok (.irem, 1) := by decide +kernel
theorem dX0_isMultiple_7 : decode cX0_isMultiple 7 = .ok (.ifCond .ne 7, 3) := by decide +kernel
theorem dX0_isMultiple_10 : decode cX0_isMultiple 10 = .ok (.iconst 1, 1) := by decide +kernel
theorem dX0_isMultiple_11 : decode cX0_isMultiple 11 = .ok (.goto 4, 3) := by decide +kernel
theorem dX0_isMultiple_14 : decode cX0_isMultiple 14 = .ok (.iconst 0, 1) := by decide +kernel
theorem dX0_isMultiple_15 : decode cX0_isMultiple 15 = .ok (.ireturn, 1) := by decide +kernel
set_option maxRecDepth 20000 in
theorem ggX0_letServantsMove_X3_isIdle : GoodIn wsX0_letServantsMove wsX3_isIdle := goodIn_r _ [6, 7, 8, 9, 10, 11, 12, 13, 14, 51, 52, 53, 54, 55, 56, 57] (by decide +kernel) (by decide +kernel)
set_option maxRecDepth 20000 in
theorem gX0_letServantsMove_X3_isIdle : GoodIn wsX0_letServantsMove (wsV RX0 117 RX3 yX3_isIdle wsX3_isIdle) := goodIn_app (goodIn_of _ (by decide +kernel)) ggX0_letServantsMove_X3_isIdle
set_option maxRecDepth 20000 in
theorem ggX0_letServantsMove_X2_get : GoodIn wsX0_letServantsMove wsX2_get := goodIn_r _ [13, 14, 57] (by decide +kernel) (by decide +kernel)
set_option maxRecDepth 20000 in
theorem gX0_letServantsMove_X2_get : GoodIn wsX0_letServantsMove (wsV RX0 83 RX2 yX2_get wsX2_get) := goodIn_app (goodIn_of _ (by decide +kernel)) ggX0_letServantsMove_X2_get
set_option maxRecDepth 20000 in
theorem ggX0_letServantsMove_X2_set : GoodIn wsX0_letServantsMove wsX2_set := goodIn_r _ [19, 14, 57] (by decide +kernel) (by decide +kernel)
set_option maxRecDepth 20000 in
theorem gX0_letServantsMove_X2_set : GoodIn wsX0_letServantsMove (wsV RX0 79 RX2 yX2_set wsX2_set) := goodIn_app (goodIn_of _ (by decide +kernel)) ggX0_letServantsMove_X2_set
set_option maxRecDepth 20000 in
theorem ggX0_letServantsMove_X3_rest : GoodIn wsX0_letServantsMove wsX3_rest := goodIn_r _ [23, 7, 8, 24, 25, 17, 18, 12, 19, 14, 51, 52, 53, 54, 55, 56, 57] (by decide +kernel) (by decide +kernel)
set_option maxRecDepth 20000 in
theorem gX0_letServantsMove_X3_rest : GoodIn wsX0_letServantsMove (wsV RX0 126 RX3 yX3_rest wsX3_rest) := goodIn_app (goodIn_of _ (by decide +kernel)) ggX0_letServantsMove_X3_rest
set_option maxRecDepth 20000 in
theorem ggX0_letServantsMove_X0_arrive : GoodIn wsX0_letServantsMove wsX0_arrive := goodIn_r _ [30, 1, 31, 32, 33, 34, 35, 15, 10, 11, 12, 13, 14, 16, 17, 18, 19, 36, 37, 38, 39, 40, 41, 42, 43, 44, 45, 46, 47, 48, 49, 50, 51, 52, 53, 54, 55, 56, 57] (by decide +kernel) (by decide +kernel)
set_option maxRecDepth 20000 in
theorem gX0_letServantsMove_X0_arrive : GoodIn wsX0_letServantsMove (wsV RX0 129 RX0 yX0_arrive wsX0_arrive) := goodIn_app (goodIn_of _ (by decide +kernel)) ggX0_letServantsMove_X0_arrive
theorem dX0_letServantsMove_0 : decode cX0_letServantsMove 0 = .ok (.iconst 0, 1) := by decide +kernel
theorem dX0_letServantsMove_1 : decode cX0_letServantsMove 1 = .ok (.istore_n 1, 1) := by decide +kernel
theorem dX0_letServantsMove_2 : decode cX0_letServantsMove 2 = .ok (.iload_n 1, 1) := by decide +kernel
theorem dX0_letServantsMove_3 : decode cX0_letServantsMove 3 = .ok (.aload_n 0, 1) := by decide +kernel
theorem dX0_letServantsMove_4 : decode cX0_letServantsMove 4 = .ok (.getfield 47, 3) := by decide +kernel
theorem dX0_letServantsMove_7 : decode cX0_letServantsMove 7 = .ok (.getfield 114, 3) := by decide +kernel
theorem dX0_letServantsMove_10 : decode cX0_letServantsMove 10 = .ok (.if_icmp .ge 87, 3) := by decide +kernel
theorem dX0_letServantsMove_13 : decode cX0_letServantsMove 13 = .ok (.aload_n 0, 1) := by decide +kernel
theorem dX0_letServantsMove_14 : decode cX0_letServantsMove 14 = .ok (.getfield 47, 3) := by decide +kernel
theorem dX0_letServantsMove_17 : decode cX0_letServantsMove 17 = .ok (.iload_n 1, 1) := by decide +kernel
theorem dX0_letServantsMove_18 : decode cX0_letServantsMove 18 = .ok (.invokevirtual 117, 3) := by decide +kernel
theorem dX0_letServantsMove_21 : decode cX0_letServantsMove 21 = .ok (.ifCond .eq 6, 3) := by decide +kernel
theorem dX0_letServantsMove_24 : decode cX0_letServantsMove 24 = .ok (.goto 67, 3) := by decide +kernel
theorem dX0_letServantsMove_27 : decode cX0_letServantsMove 27 = .ok (.aload_n 0, 1) := by decide +kernel
theorem dX0_letServantsMove_28 : decode cX0_letServantsMove 28 = .ok (.getfield 47, 3) := by decide +kernel
theorem dX0_letServantsMove_31 : decode cX0_letServantsMove 31 = .ok (.getfield 120, 3) := by decide +kernel
theorem dX0_letServantsMove_34 : decode cX0_letServantsMove 34 = .ok (.iload_n 1, 1) := by decide +kernel
theorem dX0_letServantsMove_35 : decode cX0_letServantsMove 35 = .ok (.invokevirtual 83, 3) := by decide +kernel
theorem dX0_letServantsMove_38 : decode cX0_letServantsMove 38 = .ok (.iconst 1, 1) := by decide +kernel
theorem dX0_letServantsMove_39 : decode cX0_letServantsMove 39 = .ok (.isub, 1) := by decide +kernel
theorem dX0_letServantsMove_40 : decode cX0_letServantsMove 40 = .ok (.istore_n 2, 1) := by decide +kernel
theorem dX0_letServantsMove_41 : decode cX0_letServantsMove 41 = .ok (.aload_n 0, 1) := by decide +kernel
theorem dX0_letServantsMove_42 : decode cX0_letServantsMove 42 = .ok (.getfield 47, 3) := by decide +kernel
theorem dX0_letServantsMove_45 : decode cX0_letServantsMove 45 = .ok (.getfield 120, 3) := by decide +kernel
theorem dX0_letServantsMove_48 : decode cX0_letServantsMove 48 = .ok (.iload_n 1, 1) := by decide +kernel
theorem dX0_letServantsMove_49 : decode cX0_letServantsMove 49 = .ok (.iload_n 2, 1) := by decide +kernel
theorem dX0_letServantsMove_50 : decode cX0_letServantsMove 50 = .ok (.invokevirtual 79, 3) := by decide +kernel
theorem dX0_letServantsMove_53 : decode cX0_letServantsMove 53 = .ok (.iload_n 2, 1) := by decide +kernel
theorem dX0_letServantsMove_54 : decode cX0_letServantsMove 54 = .ok (.ifCond .le 6, 3) := by decide +kernel
theorem dX0_letServantsMove_57 : decode cX0_letServantsMove 57 = .ok (.goto 34, 3) := by decide +kernel
theorem dX0_letServantsMove_60 : decode cX0_letServantsMove 60 = .ok (.aload_n 0, 1) := by decide +kernel
theorem dX0_letServantsMove_61 : decode cX0_letServantsMove 61 = .ok (.getfield 47, 3) := by decide +kernel
theorem dX0_letServantsMove_64 : decode cX0_letServantsMove 64 = .ok (.getfield 123, 3) := by decide +kernel
theorem dX0_letServantsMove_67 : decode cX0_letServantsMove 67 = .ok (.iload_n 1, 1) := by decide +kernel
theorem dX0_letServantsMove_68 : decode cX0_letServantsMove 68 = .ok (.invokevirtual 83, 3) := by decide +kernel
theorem dX0_letServantsMove_71 : decode cX0_letServantsMove 71 = .ok (.istore_n 3, 1) := by decide +kernel
theorem dX0_letServantsMove_72 : decode cX0_letServantsMove 72 = .ok (.aload_n 0, 1) := by decide +kernel
theorem dX0_letServantsMove_73 : decode cX0_letServantsMove 73 = .ok (.getfield 47, 3) := by decide +kernel
theorem dX0_letServantsMove_76 : decode cX0_letServantsMove 76 = .ok (.iload_n 1, 1) := by decide +kernel
theorem dX0_letServantsMove_77 : decode cX0_letServantsMove 77 = .ok (.invokevirtual 126, 3) := by decide +kernel
theorem dX0_letServantsMove_80 : decode cX0_letServantsMove 80 = .ok (.iload_n 3, 1) := by decide +kernel
theorem dX0_letServantsMove_81 : decode cX0_letServantsMove 81 = .ok (.iconst (-1), 1) := by decide +kernel
theorem dX0_letServantsMove_82 : decode cX0_letServantsMove 82 = .ok (.if_icmp .eq 9, 3) := by decide +kernel
theorem dX0_letServantsMove_85 : decode cX0_letServantsMove 85 = .ok (.aload_n 0, 1) := by decide +kernel
theorem dX0_letServantsMove_86 : decode cX0_letServantsMove 86 = .ok (.iload_n 1, 1) := by decide +kernel
theorem dX0_letServantsMove_87 : decode cX0_letServantsMove 87 = .ok (.iload_n 3, 1) := by decide +kernel
theorem dX0_letServantsMove_88 : decode cX0_letServantsMove 88 = .ok (.invokevirtual 129, 3) := by decide +kernel
theorem dX0_letServantsMove_91 : decode cX0_letServantsMove 91 = .ok (.iinc 1 1, 3) := by decide +kernel
theorem dX0_letServantsMove_94 : decode cX0_letServantsMove 94 = .ok (.goto (-92), 3) := by decide +kernel
theorem dX0_letServantsMove_97 : decode cX0_letServantsMove 97 = .ok (.return_, 1) := by decide +kernel
set_option maxRecDepth 20000 in
theorem ggX0_arrive_X2_get : GoodIn wsX0_arrive wsX2_get := goodIn_r _ [11, 12, 38] (by decide +kernel) (by decide +kernel)
set_option maxRecDepth 20000 in
theorem gX0_arrive_X2_get : GoodIn wsX0_arrive (wsV RX0 83 RX2 yX2_get wsX2_get) := goodIn_app (goodIn_of _ (by decide +kernel)) ggX0_arrive_X2_get
set_option maxRecDepth 20000 in
theorem ggX0_arrive_X2_set : GoodIn wsX0_arrive wsX2_set := goodIn_r _ [16, 12, 38] (by decide +kernel) (by decide +kernel)
set_option maxRecDepth 20000 in
theorem gX0_arrive_X2_set : GoodIn wsX0_arrive (wsV RX0 79 RX2 yX2_set wsX2_set) := goodIn_app (goodIn_of _ (by decide +kernel)) ggX0_arrive_X2_set
theorem dX0_arrive_0 : decode cX0_arrive 0 = .ok (.aload_n 0, 1) := by decide +kernel
theorem dX0_arrive_1 : decode cX0_arrive 1 = .ok (.getfield 47, 3) := by decide +kernel
theorem dX0_arrive_4 : decode cX0_arrive 4 = .ok (.getfield 132, 3) := by decide +kernel
theorem dX0_arrive_7 : decode cX0_arrive 7 = .ok (.iload_n 1, 1) := by decide +kernel
theorem dX0_arrive_8 : decode cX0_arrive 8 = .ok (.aload_n 0, 1) := by decide +kernel
theorem dX0_arrive_9 : decode cX0_arrive 9 = .ok (.getfield 18, 3) := by decide +kernel
theorem dX0_arrive_12 : decode cX0_arrive 12 = .ok (.iload_n 2, 1) := by decide +kernel
theorem dX0_arrive_13 : decode cX0_arrive 13 = .ok (.invokevirtual 83, 3) := by decide +kernel
theorem dX0_arrive_16 : decode cX0_arrive 16 = .ok (.invokevirtual 79, 3) := by decide +kernel
theorem dX0_arrive_19 : decode cX0_arrive 19 = .ok (.aload_n 0, 1) := by decide +kernel
theorem dX0_arrive_20 : decode cX0_arrive 20 = .ok (.getfield 34, 3) := by decide +kernel
theorem dX0_arrive_23 : decode cX0_arrive 23 = .ok (.iload_n 2, 1) := by decide +kernel
theorem dX0_arrive_24 : decode cX0_arrive 24 = .ok (.invokevirtual 83, 3) := by decide +kernel
theorem dX0_arrive_27 : decode cX0_arrive 27 = .ok (.iconst (-1), 1) := by decide +kernel
theorem dX0_arrive_28 : decode cX0_arrive 28 = .ok (.if_icmp .ne 14, 3) := by decide +kernel
theorem dX0_arrive_31 : decode cX0_arrive 31 = .ok (.aload_n 0, 1) := by decide +kernel
theorem dX0_arrive_32 : decode cX0_arrive 32 = .ok (.dup, 1) := by decide +kernel
theorem dX0_arrive_33 : decode cX0_arrive 33 = .ok (.getfield 60, 3) := by decide +kernel
theorem dX0_arrive_36 : decode cX0_arrive 36 = .ok (.iconst 1, 1) := by decide +kernel
theorem dX0_arrive_37 : decode cX0_arrive 37 = .ok (.iadd, 1) := by decide +kernel
theorem dX0_arrive_38 : decode cX0_arrive 38 = .ok (.putfield 60, 3) := by decide +kernel
theorem dX0_arrive_41 : decode cX0_arrive 41 = .ok (.return_, 1) := by decide +kernel
theorem dX0_arrive_42 : decode cX0_arrive 42 = .ok (.aload_n 0, 1) := by decide +kernel
theorem dX0_arrive_43 : decode cX0_arrive 43 = .ok (.getfield 34, 3) := by decide +kernel
theorem dX0_arrive_46 : decode cX0_arrive 46 = .ok (.iload_n 2, 1) := by decide +kernel
theorem dX0_arrive_47 : decode cX0_arrive 47 = .ok (.iconst (-1), 1) := by decide +kernel
theorem dX0_arrive_48 : decode cX0_arrive 48 = .ok (.invokevirtual 79, 3) := by decide +kernel
theorem dX0_arrive_51 : decode cX0_arrive 51 = .ok (.aload_n 0, 1) := by decide +kernel
theorem dX0_arrive_52 : decode cX0_arrive 52 = .ok (.dup, 1) := by decide +kernel
theorem dX0_arrive_53 : decode cX0_arrive 53 = .ok (.getfield 57, 3) := by decide +kernel
theorem dX0_arrive_56 : decode cX0_arrive 56 = .ok (.iconst 1, 1) := by decide +kernel
theorem dX0_arrive_57 : decode cX0_arrive 57 = .ok (.iadd, 1) := by decide +kernel
theorem dX0_arrive_58 : decode cX0_arrive 58 = .ok (.putfield 57, 3) := by decide +kernel
theorem dX0_arrive_61 : decode cX0_arrive 61 = .ok (.aload_n 0, 1) := by decide +kernel
theorem dX0_arrive_62 : decode cX0_arrive 62 = .ok (.getfield 47, 3) := by decide +kernel
theorem dX0_arrive_65 : decode cX0_arrive 65 = .ok (.getfield 133, 3) := by decide +kernel
theorem dX0_arrive_68 : decode cX0_arrive 68 = .ok (.iload_n 1, 1) := by decide +kernel
theorem dX0_arrive_69 : decode cX0_arrive 69 = .ok (.iload_n 2, 1) := by decide +kernel
theorem dX0_arrive_70 : decode cX0_arrive 70 = .ok (.invokevirtual 79, 3) := by decide +kernel
theorem dX0_arrive_73 : decode cX0_arrive 73 = .ok (.aload_n 0, 1) := by decide +kernel
theorem dX0_arrive_74 : decode cX0_arrive 74 = .ok (.getfield 47, 3) := by decide +kernel
theorem dX0_arrive_77 : decode cX0_arrive 77 = .ok (.getfield 120, 3) := by decide +kernel
theorem dX0_arrive_80 : decode cX0_arrive 80 = .ok (.iload_n 1, 1) := by decide +kernel
theorem dX0_arrive_81 : decode cX0_arrive 81 = .ok (.aload_n 0, 1) := by decide +kernel
theorem dX0_arrive_82 : decode cX0_arrive 82 = .ok (.getfield 25, 3) := by decide +kernel
theorem dX0_arrive_85 : decode cX0_arrive 85 = .ok (.iload_n 2, 1) := by decide +kernel
theorem dX0_arrive_86 : decode cX0_arrive 86 = .ok (.invokevirtual 83, 3) := by decide +kernel
theorem dX0_arrive_89 : decode cX0_arrive 89 = .ok (.invokevirtual 79, 3) := by decide +kernel
theorem dX0_arrive_92 : decode cX0_arrive 92 = .ok (.return_, 1) := by decide +kernel
set_option maxRecDepth 20000 in
theorem ggX0_sendIdleServants_X1_first : GoodIn wsX0_sendIdleServants wsX1_first := goodIn_r _ [8, 9, 10, 64, 65] (by decide +kernel) (by decide +kernel)
set_option maxRecDepth 20000 in
theorem gX0_sendIdleServants_X1_first : GoodIn wsX0_sendIdleServants (wsV RX0 137 RX1 yX1_first wsX1_first) := goodIn_app (goodIn_of _ (by decide +kernel)) ggX0_sendIdleServants_X1_first
set_option maxRecDepth 20000 in
theorem ggX0_sendIdleServants_X2_get : GoodIn wsX0_sendIdleServants wsX2_get := goodIn_r _ [15, 16, 66] (by decide +kernel) (by decide +kernel)
set_option maxRecDepth 20000 in
theorem gX0_sendIdleServants_X2_get : GoodIn wsX0_sendIdleServants (wsV RX0 83 RX2 yX2_get wsX2_get) := goodIn_app (goodIn_of _ (by decide +kernel)) ggX0_sendIdleServants_X2_get
set_option maxRecDepth 20000 in
theorem ggX0_sendIdleServants_X3_nearestTo : GoodIn wsX0_sendIdleServants wsX3_nearestTo := goodIn_r _ [21, 22, 23, 24, 25, 26, 27, 12, 13, 14, 15, 16, 28, 29, 20, 30, 58, 59, 60, 61, 62, 63, 66] (by decide +kernel) (by decide +kernel)
set_option maxRecDepth 20000 in
theorem gX0_sendIdleServants_X3_nearestTo : GoodIn wsX0_sendIdleServants (wsV RX0 141 RX3 yX3_nearestTo wsX3_nearestTo) := goodIn_app (goodIn_of _ (by decide +kernel)) ggX0_sendIdleServants_X3_nearestTo
set_option maxRecDepth 20000 in
theorem ggX0_sendIdleServants_X1_remove : GoodIn wsX0_sendIdleServants wsX1_remove := goodIn_r _ [34, 9, 10, 64, 65] (by decide +kernel) (by decide +kernel)
set_option maxRecDepth 20000 in
theorem gX0_sendIdleServants_X1_remove : GoodIn wsX0_sendIdleServants (wsV RX0 144 RX1 yX1_remove wsX1_remove) := goodIn_app (goodIn_of _ (by decide +kernel)) ggX0_sendIdleServants_X1_remove
set_option maxRecDepth 20000 in
theorem ggX0_sendIdleServants_X3_wayToFloor : GoodIn wsX0_sendIdleServants wsX3_wayToFloor := goodIn_r _ [38, 25, 26, 27, 12, 13, 14, 15, 16, 28, 29, 20, 30, 58, 59, 60, 61, 62, 63, 66] (by decide +kernel) (by decide +kernel)
set_option maxRecDepth 20000 in
theorem gX0_sendIdleServants_X3_wayToFloor : GoodIn wsX0_sendIdleServants (wsV RX0 147 RX3 yX3_wayToFloor wsX3_wayToFloor) := goodIn_app (goodIn_of _ (by decide +kernel)) ggX0_sendIdleServants_X3_wayToFloor
set_option maxRecDepth 20000 in
theorem ggX0_sendIdleServants_X2_set : GoodIn wsX0_sendIdleServants wsX2_set := goodIn_r _ [42, 16, 66] (by decide +kernel) (by decide +kernel)
set_option maxRecDepth 20000 in
theorem gX0_sendIdleServants_X2_set : GoodIn wsX0_sendIdleServants (wsV RX0 79 RX2 yX2_set wsX2_set) := goodIn_app (goodIn_of _ (by decide +kernel)) ggX0_sendIdleServants_X2_set
theorem dX0_sendIdleServants_0 : decode cX0_sendIdleServants 0 = .ok (.iconst 0, 1) := by decide +kernel
theorem dX0_sendIdleServants_1 : decode cX0_sendIdleServants 1 = .ok (.istore_n 1, 1) := by decide +kernel
theorem dX0_sendIdleServants_2 : decode cX0_sendIdleServants 2 = .ok (.iload_n 1, 1) := by decide +kernel
theorem dX0_sendIdleServants_3 : decode cX0_sendIdleServants 3 = .ok (.aload_n 0, 1) := by decide +kernel
theorem dX0_sendIdleServants_4 : decode cX0_sendIdleServants 4 = .ok (.getfield 47, 3) := by decide +kernel
theorem dX0_sendIdleServants_7 : decode cX0_sendIdleServants 7 = .ok (.getfield 114, 3) := by decide +kernel
theorem dX0_sendIdleServants_10 : decode cX0_sendIdleServants 10 = .ok (.if_icmp .ge 100, 3) := by decide +kernel
theorem dX0_sendIdleServants_13 : decode cX0_sendIdleServants 13 = .ok (.aload_n 0, 1) := by decide +kernel
theorem dX0_sendIdleServants_14 : decode cX0_sendIdleServants 14 = .ok (.getfield 40, 3) := by decide +kernel
theorem dX0_sendIdleServants_17 : decode cX0_sendIdleServants 17 = .ok (.getfield 136, 3) := by decide +kernel
theorem dX0_sendIdleServants_20 : decode cX0_sendIdleServants 20 = .ok (.ifCond .le 90, 3) := by decide +kernel
theorem dX0_sendIdleServants_23 : decode cX0_sendIdleServants 23 = .ok (.aload_n 0, 1) := by decide +kernel
theorem dX0_sendIdleServants_24 : decode cX0_sendIdleServants 24 = .ok (.getfield 40, 3) := by decide +kernel
theorem dX0_sendIdleServants_27 : decode cX0_sendIdleServants 27 = .ok (.invokevirtual 137, 3) := by decide +kernel
theorem dX0_sendIdleServants_30 : decode cX0_sendIdleServants 30 = .ok (.istore_n 2, 1) := by decide +kernel
theorem dX0_sendIdleServants_31 : decode cX0_sendIdleServants 31 = .ok (.aload_n 0, 1) := by decide +kernel
theorem dX0_sendIdleServants_32 : decode cX0_sendIdleServants 32 = .ok (.getfield 47, 3) := by decide +kernel
theorem dX0_sendIdleServants_35 : decode cX0_sendIdleServants 35 = .ok (.aload_n 0, 1) := by decide +kernel
theorem dX0_sendIdleServants_36 : decode cX0_sendIdleServants 36 = .ok (.getfield 18, 3) := by decide +kernel
theorem dX0_sendIdleServants_39 : decode cX0_sendIdleServants 39 = .ok (.iload_n 2, 1) := by decide +kernel
theorem dX0_sendIdleServants_40 : decode cX0_sendIdleServants 40 = .ok (.invokevirtual 83, 3) := by decide +kernel
theorem dX0_sendIdleServants_43 : decode cX0_sendIdleServants 43 = .ok (.invokevirtual 141, 3) := by decide +kernel
theorem dX0_sendIdleServants_46 : decode cX0_sendIdleServants 46 = .ok (.istore_n 3, 1) := by decide +kernel
theorem dX0_sendIdleServants_47 : decode cX0_sendIdleServants 47 = .ok (.iload_n 3, 1) := by decide +kernel
theorem dX0_sendIdleServants_48 : decode cX0_sendIdleServants 48 = .ok (.iconst (-1), 1) := by decide +kernel
theorem dX0_sendIdleServants_49 : decode cX0_sendIdleServants 49 = .ok (.if_icmp .ne 4, 3) := by decide +kernel
theorem dX0_sendIdleServants_52 : decode cX0_sendIdleServants 52 = .ok (.return_, 1) := by decide +kernel
theorem dX0_sendIdleServants_53 : decode cX0_sendIdleServants 53 = .ok (.aload_n 0, 1) := by decide +kernel
theorem dX0_sendIdleServants_54 : decode cX0_sendIdleServants 54 = .ok (.getfield 40, 3) := by decide +kernel
theorem dX0_sendIdleServants_57 : decode cX0_sendIdleServants 57 = .ok (.iload_n 2, 1) := by decide +kernel
theorem dX0_sendIdleServants_58 : decode cX0_sendIdleServants 58 = .ok (.invokevirtual 144, 3) := by decide +kernel
theorem dX0_sendIdleServants_61 : decode cX0_sendIdleServants 61 = .ok (.aload_n 0, 1) := by decide +kernel
theorem dX0_sendIdleServants_62 : decode cX0_sendIdleServants 62 = .ok (.getfield 47, 3) := by decide +kernel
theorem dX0_sendIdleServants_65 : decode cX0_sendIdleServants 65 = .ok (.iload_n 3, 1) := by decide +kernel
theorem dX0_sendIdleServants_66 : decode cX0_sendIdleServants 66 = .ok (.aload_n 0, 1) := by decide +kernel
theorem dX0_sendIdleServants_67 : decode cX0_sendIdleServants 67 = .ok (.getfield 18, 3) := by decide +kernel
theorem dX0_sendIdleServants_70 : decode cX0_sendIdleServants 70 = .ok (.iload_n 2, 1) := by decide +kernel
theorem dX0_sendIdleServants_71 : decode cX0_sendIdleServants 71 = .ok (.invokevirtual 83, 3) := by decide +kernel
theorem dX0_sendIdleServants_74 : decode cX0_sendIdleServants 74 = .ok (.invokevirtual 147, 3) := by decide +kernel
theorem dX0_sendIdleServants_77 : decode cX0_sendIdleServants 77 = .ok (.istore 4, 2) := by decide +kernel
theorem dX0_sendIdleServants_79 : decode cX0_sendIdleServants 79 = .ok (.aload_n 0, 1) := by decide +kernel
theorem dX0_sendIdleServants_80 : decode cX0_sendIdleServants 80 = .ok (.getfield 47, 3) := by decide +kernel
theorem dX0_sendIdleServants_83 : decode cX0_sendIdleServants 83 = .ok (.getfield 123, 3) := by decide +kernel
theorem dX0_sendIdleServants_86 : decode cX0_sendIdleServants 86 = .ok (.iload_n 3, 1) := by decide +kernel
theorem dX0_sendIdleServants_87 : decode cX0_sendIdleServants 87 = .ok (.iload_n 2, 1) := by decide +kernel
theorem dX0_sendIdleServants_88 : decode cX0_sendIdleServants 88 = .ok (.invokevirtual 79, 3) := by decide +kernel
theorem dX0_sendIdleServants_91 : decode cX0_sendIdleServants 91 = .ok (.aload_n 0, 1) := by decide +kernel
theorem dX0_sendIdleServants_92 : decode cX0_sendIdleServants 92 = .ok (.getfield 47, 3) := by decide +kernel
theorem dX0_sendIdleServants_95 : decode cX0_sendIdleServants 95 = .ok (.getfield 120, 3) := by decide +kernel
theorem dX0_sendIdleServants_98 : decode cX0_sendIdleServants 98 = .ok (.iload_n 3, 1) := by decide +kernel
theorem dX0_sendIdleServants_99 : decode cX0_sendIdleServants 99 = .ok (.iload 4, 2) := by decide +kernel
theorem dX0_sendIdleServants_101 : decode cX0_sendIdleServants 101 = .ok (.invokevirtual 79, 3) := by decide +kernel
theorem dX0_sendIdleServants_104 : decode cX0_sendIdleServants 104 = .ok (.iinc 1 1, 3) := by decide +kernel
theorem dX0_sendIdleServants_107 : decode cX0_sendIdleServants 107 = .ok (.goto (-105), 3) := by decide +kernel
theorem dX0_sendIdleServants_110 : decode cX0_sendIdleServants 110 = .ok (.return_, 1) := by decide +kernel
theorem dX1_init_0 : decode cX1_init 0 = .ok (.aload_n 0, 1) := by decide +kernel
theorem dX1_init_1 : decode cX1_init 1 = .ok (.invokespecial 3, 3) := by decide +kernel
theorem dX1_init_4 : decode cX1_init 4 = .ok (.aload_n 0, 1) := by decide +kernel
theorem dX1_init_5 : decode cX1_init 5 = .ok (.bipush 12, 2) := by decide +kernel
theorem dX1_init_7 : decode cX1_init 7 = .ok (.newarray .int, 2) := by decide +kernel
theorem dX1_init_9 : decode cX1_init 9 = .ok (.putfield 9, 3) := by decide +kernel
theorem dX1_init_12 : decode cX1_init 12 = .ok (.return_, 1) := by decide +kernel
theorem dX1_copyFrom_0 : decode cX1_copyFrom 0 = .ok (.aload_n 0, 1) := by decide +kernel
theorem dX1_copyFrom_1 : decode cX1_copyFrom 1 = .ok (.aload_n 1, 1) := by decide +kernel
theorem dX1_copyFrom_2 : decode cX1_copyFrom 2 = .ok (.getfield 15, 3) := by decide +kernel
theorem dX1_copyFrom_5 : decode cX1_copyFrom 5 = .ok (.putfield 15, 3) := by decide +kernel
theorem dX1_copyFrom_8 : decode cX1_copyFrom 8 = .ok (.iconst 0, 1) := by decide +kernel
theorem dX1_copyFrom_9 : decode cX1_copyFrom 9 = .ok (.istore_n 2, 1) := by decide +kernel
theorem dX1_copyFrom_10 : decode cX1_copyFrom 10 = .ok (.iload_n 2, 1) := by decide +kernel
theorem dX1_copyFrom_11 : decode cX1_copyFrom 11 = .ok (.aload_n 0, 1) := by decide +kernel
theorem dX1_copyFrom_12 : decode cX1_copyFrom 12 = .ok (.getfield 9, 3) := by decide +kernel
theorem dX1_copyFrom_15 : decode cX1_copyFrom 15 = .ok (.arraylength, 1) := by decide +kernel
theorem dX1_copyFrom_16 : decode cX1_copyFrom 16 = .ok (.if_icmp .ge 30, 3) := by decide +kernel
theorem dX1_copyFrom_19 : decode cX1_copyFrom 19 = .ok (.iload_n 2, 1) := by decide +kernel
theorem dX1_copyFrom_20 : decode cX1_copyFrom 20 = .ok (.aload_n 1, 1) := by decide +kernel
theorem dX1_copyFrom_21 : decode cX1_copyFrom 21 = .ok (.getfield 9, 3) := by decide +kernel
theorem dX1_copyFrom_24 : decode cX1_copyFrom 24 = .ok (.arraylength, 1) := by decide +kernel
theorem dX1_copyFrom_25 : decode cX1_copyFrom 25 = .ok (.if_icmp .ge 21, 3) := by decide +kernel
theorem dX1_copyFrom_28 : decode cX1_copyFrom 28 = .ok (.aload_n 0, 1) := by decide +kernel
theorem dX1_copyFrom_29 : decode cX1_copyFrom 29 = .ok (.getfield 9, 3) := by decide +kernel
theorem dX1_copyFrom_32 : decode cX1_copyFrom 32 = .ok (.iload_n 2, 1) := by decide +kernel
theorem dX1_copyFrom_33 : decode cX1_copyFrom 33 = .ok (.aload_n 1, 1) := by decide +kernel
theorem dX1_copyFrom_34 : decode cX1_copyFrom 34 = .ok (.getfield 9, 3) := by decide +kernel
theorem dX1_copyFrom_37 : decode cX1_copyFrom 37 = .ok (.iload_n 2, 1) := by decide +kernel
theorem dX1_copyFrom_38 : decode cX1_copyFrom 38 = .ok (.iaload, 1) := by decide +kernel
theorem dX1_copyFrom_39 : decode cX1_copyFrom 39 = .ok (.iastore, 1) := by decide +kernel
theorem dX1_copyFrom_40 : decode cX1_copyFrom 40 = .ok (.iinc 2 1, 3) := by decide +kernel
theorem dX1_copyFrom_43 : decode cX1_copyFrom 43 = .ok (.goto (-33), 3) := by decide +kernel
theorem dX1_copyFrom_46 : decode cX1_copyFrom 46 = .ok (.return_, 1) := by decide +kernel
theorem dX1_first_0 : decode cX1_first 0 = .ok (.aload_n 0, 1) := by decide +kernel
theorem dX1_first_1 : decode cX1_first 1 = .ok (.getfield 15, 3) := by decide +kernel
theorem dX1_first_4 : decode cX1_first 4 = .ok (.ifCond .le 20, 3) := by decide +kernel
theorem dX1_first_7 : decode cX1_first 7 = .ok (.aload_n 0, 1) := by decide +kernel
theorem dX1_first_8 : decode cX1_first 8 = .ok (.getfield 9, 3) := by decide +kernel
theorem dX1_first_11 : decode cX1_first 11 = .ok (.arraylength, 1) := by decide +kernel
theorem dX1_first_12 : decode cX1_first 12 = .ok (.ifCond .le 12, 3) := by decide +kernel
theorem dX1_first_15 : decode cX1_first 15 = .ok (.aload_n 0, 1) := by decide +kernel
theorem dX1_first_16 : decode cX1_first 16 = .ok (.getfield 9, 3) := by decide +kernel
theorem dX1_first_19 : decode cX1_first 19 = .ok (.iconst 0, 1) := by decide +kernel
theorem dX1_first_20 : decode cX1_first 20 = .ok (.iaload, 1) := by decide +kernel
theorem dX1_first_21 : decode cX1_first 21 = .ok (.goto 4, 3) := by decide +kernel
theorem dX1_first_24 : decode cX1_first 24 = .ok (.iconst (-1), 1) := by decide +kernel
theorem dX1_first_25 : decode cX1_first 25 = .ok (.ireturn, 1) := by decide +kernel
theorem dX1_placeOf_0 : decode cX1_placeOf 0 = .ok (.iconst 0, 1) := by decide +kernel
theorem dX1_placeOf_1 : decode cX1_placeOf 1 = .ok (.istore_n 2, 1) := by decide +kernel
theorem dX1_placeOf_2 : decode cX1_placeOf 2 = .ok (.iload_n 2, 1) := by decide +kernel
theorem dX1_placeOf_3 : decode cX1_placeOf 3 = .ok (.aload_n 0, 1) := by decide +kernel
theorem dX1_placeOf_4 : decode cX1_placeOf 4 = .ok (.getfield 15, 3) := by decide +kernel
theorem dX1_placeOf_7 : decode cX1_placeOf 7 = .ok (.if_icmp .ge 30, 3) := by decide +kernel
theorem dX1_placeOf_10 : decode cX1_placeOf 10 = .ok (.iload_n 2, 1) := by decide +kernel
theorem dX1_placeOf_11 : decode cX1_placeOf 11 = .ok (.aload_n 0, 1) := by decide +kernel
theorem dX1_placeOf_12 : decode cX1_placeOf 12 = .ok (.getfield 9, 3) := by decide +kernel
theorem dX1_placeOf_15 : decode cX1_placeOf 15 = .ok (.arraylength, 1) := by decide +kernel
theorem dX1_placeOf_16 : decode cX1_placeOf 16 = .ok (.if_icmp .ge 21, 3) := by decide +kernel
theorem dX1_placeOf_19 : decode cX1_placeOf 19 = .ok (.aload_n 0, 1) := by decide +kernel
theorem dX1_placeOf_20 : decode cX1_placeOf 20 = .ok (.getfield 9, 3) := by decide +kernel
theorem dX1_placeOf_23 : decode cX1_placeOf 23 = .ok (.iload_n 2, 1) := by decide +kernel
theorem dX1_placeOf_24 : decode cX1_placeOf 24 = .ok (.iaload, 1) := by decide +kernel
theorem dX1_placeOf_25 : decode cX1_placeOf 25 = .ok (.iload_n 1, 1) := by decide +kernel
theorem dX1_placeOf_26 : decode cX1_placeOf 26 = .ok (.if_icmp .ne 5, 3) := by decide +kernel
theorem dX1_placeOf_29 : decode cX1_placeOf 29 = .ok (.iload_n 2, 1) := by decide +kernel
theorem dX1_placeOf_30 : decode cX1_placeOf 30 = .ok (.ireturn, 1) := by decide +kernel
theorem dX1_placeOf_31 : decode cX1_placeOf 31 = .ok (.iinc 2 1, 3) := by decide +kernel
theorem dX1_placeOf_34 : decode cX1_placeOf 34 = .ok (.goto (-32), 3) := by decide +kernel
theorem dX1_placeOf_37 : decode cX1_placeOf 37 = .ok (.iconst (-1), 1) := by decide +kernel
theorem dX1_placeOf_38 : decode cX1_placeOf 38 = .ok (.ireturn, 1) := by decide +kernel
theorem dX1_append_0 : decode cX1_append 0 = .ok (.aload_n 0, 1) := by decide +kernel
theorem dX1_append_1 : decode cX1_append 1 = .ok (.getfield 15, 3) := by decide +kernel
theorem dX1_append_4 : decode cX1_append 4 = .ok (.ifCond .lt 35, 3) := by decide +kernel
theorem dX1_append_7 : decode cX1_append 7 = .ok (.aload_n 0, 1) := by decide +kernel
theorem dX1_append_8 : decode cX1_append 8 = .ok (.getfield 15, 3) := by decide +kernel
theorem dX1_append_11 : decode cX1_append 11 = .ok (.aload_n 0, 1) := by decide +kernel
theorem dX1_append_12 : decode cX1_append 12 = .ok (.getfield 9, 3) := by decide +kernel
theorem dX1_append_15 : decode cX1_append 15 = .ok (.arraylength, 1) := by decide +kernel
theorem dX1_append_16 : decode cX1_append 16 = .ok (.if_icmp .ge 23, 3) := by decide +kernel
theorem dX1_append_19 : decode cX1_append 19 = .ok (.aload_n 0, 1) := by decide +kernel
theorem dX1_append_20 : decode cX1_append 20 = .ok (.getfield 9, 3) := by decide +kernel
theorem dX1_append_23 : decode cX1_append 23 = .ok (.aload_n 0, 1) := by decide +kernel
theorem dX1_append_24 : decode cX1_append 24 = .ok (.getfield 15, 3) := by decide +kernel
theorem dX1_append_27 : decode cX1_append 27 = .ok (.iload_n 1, 1) := by decide +kernel
theorem dX1_append_28 : decode cX1_append 28 = .ok (.iastore, 1) := by decide +kernel
theorem dX1_append_29 : decode cX1_append 29 = .ok (.aload_n 0, 1) := by decide +kernel
theorem dX1_append_30 : decode cX1_append 30 = .ok (.dup, 1) := by decide +kernel
theorem dX1_append_31 : decode cX1_append 31 = .ok (.getfield 15, 3) := by decide +kernel
theorem dX1_append_34 : decode cX1_append 34 = .ok (.iconst 1, 1) := by decide +kernel
theorem dX1_append_35 : decode cX1_append 35 = .ok (.iadd, 1) := by decide +kernel
theorem dX1_append_36 : decode cX1_append 36 = .ok (.putfield 15, 3) := by decide +kernel
theorem dX1_append_39 : decode cX1_append 39 = .ok (.return_, 1) := by decide +kernel
theorem dX1_remove_0 : decode cX1_remove 0 = .ok (.iconst 0, 1) := by decide +kernel
theorem dX1_remove_1 : decode cX1_remove 1 = .ok (.istore_n 2, 1) := by decide +kernel
theorem dX1_remove_2 : decode cX1_remove 2 = .ok (.iconst 0, 1) := by decide +kernel
theorem dX1_remove_3 : decode cX1_remove 3 = .ok (.istore_n 3, 1) := by decide +kernel
theorem dX1_remove_4 : decode cX1_remove 4 = .ok (.iload_n 3, 1) := by decide +kernel
theorem dX1_remove_5 : decode cX1_remove 5 = .ok (.aload_n 0, 1) := by decide +kernel
theorem dX1_remove_6 : decode cX1_remove 6 = .ok (.getfield 15, 3) := by decide +kernel
theorem dX1_remove_9 : decode cX1_remove 9 = .ok (.if_icmp .ge 52, 3) := by decide +kernel
theorem dX1_remove_12 : decode cX1_remove 12 = .ok (.iload_n 3, 1) := by decide +kernel
theorem dX1_remove_13 : decode cX1_remove 13 = .ok (.aload_n 0, 1) := by decide +kernel
theorem dX1_remove_14 : decode cX1_remove 14 = .ok (.getfield 9, 3) := by decide +kernel
theorem dX1_remove_17 : decode cX1_remove 17 = .ok (.arraylength, 1) := by decide +kernel
theorem dX1_remove_18 : decode cX1_remove 18 = .ok (.if_icmp .ge 43, 3) := by decide +kernel
theorem dX1_remove_21 : decode cX1_remove 21 = .ok (.aload_n 0, 1) := by decide +kernel
theorem dX1_remove_22 : decode cX1_remove 22 = .ok (.getfield 9, 3) := by decide +kernel
theorem dX1_remove_25 : decode cX1_remove 25 = .ok (.iload_n 3, 1) := by decide +kernel
theorem dX1_remove_26 : decode cX1_remove 26 = .ok (.iaload, 1) := by decide +kernel
theorem dX1_remove_27 : decode cX1_remove 27 = .ok (.iload_n 1, 1) := by decide +kernel
theorem dX1_remove_28 : decode cX1_remove 28 = .ok (.if_icmp .eq 27, 3) := by decide +kernel
theorem dX1_remove_31 : decode cX1_remove 31 = .ok (.iload_n 2, 1) := by decide +kernel
theorem dX1_remove_32 : decode cX1_remove 32 = .ok (.aload_n 0, 1) := by decide +kernel
theorem dX1_remove_33 : decode cX1_remove 33 = .ok (.getfield 9, 3) := by decide +kernel
theorem dX1_remove_36 : decode cX1_remove 36 = .ok (.arraylength, 1) := by decide +kernel
theorem dX1_remove_37 : decode cX1_remove 37 = .ok (.if_icmp .ge 18, 3) := by decide +kernel
theorem dX1_remove_40 : decode cX1_remove 40 = .ok (.aload_n 0, 1) := by decide +kernel
theorem dX1_remove_41 : decode cX1_remove 41 = .ok (.getfield 9, 3) := by decide +kernel
theorem dX1_remove_44 : decode cX1_remove 44 = .ok (.iload_n 2, 1) := by decide +kernel
theorem dX1_remove_45 : decode cX1_remove 45 = .ok (.aload_n 0, 1) := by decide +kernel
theorem dX1_remove_46 : decode cX1_remove 46 = .ok (.getfield 9, 3) := by decide +kernel
theorem dX1_remove_49 : decode cX1_remove 49 = .ok (.iload_n 3, 1) := by decide +kernel
theorem dX1_remove_50 : decode cX1_remove 50 = .ok (.iaload, 1) := by decide +kernel
theorem dX1_remove_51 : decode cX1_remove 51 = .ok (.iastore, 1) := by decide +kernel
theorem dX1_remove_52 : decode cX1_remove 52 = .ok (.iinc 2 1, 3) := by decide +kernel
theorem dX1_remove_55 : decode cX1_remove 55 = .ok (.iinc 3 1, 3) := by decide +kernel
theorem dX1_remove_58 : decode cX1_remove 58 = .ok (.goto (-54), 3) := by decide +kernel
theorem dX1_remove_61 : decode cX1_remove 61 = .ok (.aload_n 0, 1) := by decide +kernel
theorem dX1_remove_62 : decode cX1_remove 62 = .ok (.iload_n 2, 1) := by decide +kernel
theorem dX1_remove_63 : decode cX1_remove 63 = .ok (.putfield 15, 3) := by decide +kernel
theorem dX1_remove_66 : decode cX1_remove 66 = .ok (.return_, 1) := by decide +kernel
theorem dX2_init_0 : decode cX2_init 0 = .ok (.aload_n 0, 1) := by decide +kernel
theorem dX2_init_1 : decode cX2_init 1 = .ok (.invokespecial 3, 3) := by decide +kernel
theorem dX2_init_4 : decode cX2_init 4 = .ok (.aload_n 0, 1) := by decide +kernel
theorem dX2_init_5 : decode cX2_init 5 = .ok (.bipush 12, 2) := by decide +kernel
theorem dX2_init_7 : decode cX2_init 7 = .ok (.newarray .int, 2) := by decide +kernel
theorem dX2_init_9 : decode cX2_init 9 = .ok (.putfield 9, 3) := by decide +kernel
theorem dX2_init_12 : decode cX2_init 12 = .ok (.return_, 1) := by decide +kernel
theorem dX2_get_0 : decode cX2_get 0 = .ok (.iload_n 1, 1) := by decide +kernel
theorem dX2_get_1 : decode cX2_get 1 = .ok (.ifCond .lt 21, 3) := by decide +kernel
theorem dX2_get_4 : decode cX2_get 4 = .ok (.iload_n 1, 1) := by decide +kernel
theorem dX2_get_5 : decode cX2_get 5 = .ok (.aload_n 0, 1) := by decide +kernel
theorem dX2_get_6 : decode cX2_get 6 = .ok (.getfield 9, 3) := by decide +kernel
theorem dX2_get_9 : decode cX2_get 9 = .ok (.arraylength, 1) := by decide +kernel
theorem dX2_get_10 : decode cX2_get 10 = .ok (.if_icmp .ge 12, 3) := by decide +kernel
theorem dX2_get_13 : decode cX2_get 13 = .ok (.aload_n 0, 1) := by decide +kernel
theorem dX2_get_14 : decode cX2_get 14 = .ok (.getfield 9, 3) := by decide +kernel
theorem dX2_get_17 : decode cX2_get 17 = .ok (.iload_n 1, 1) := by decide +kernel
theorem dX2_get_18 : decode cX2_get 18 = .ok (.iaload, 1) := by decide +kernel
theorem dX2_get_19 : decode cX2_get 19 = .ok (.goto 4, 3) := by decide +kernel
theorem dX2_get_22 : decode cX2_get 22 = .ok (.iconst 0, 1) := by decide +kernel
theorem dX2_get_23 : decode cX2_get 23 = .ok (.ireturn, 1) := by decide +kernel
theorem dX2_set_0 : decode cX2_set 0 = .ok (.iload_n 1, 1) := by decide +kernel
theorem dX2_set_1 : decode cX2_set 1 = .ok (.ifCond .lt 19, 3) := by decide +kernel
theorem dX2_set_4 : decode cX2_set 4 = .ok (.iload_n 1, 1) := by decide +kernel
theorem dX2_set_5 : decode cX2_set 5 = .ok (.aload_n 0, 1) := by decide +kernel
theorem dX2_set_6 : decode cX2_set 6 = .ok (.getfield 9, 3) := by decide +kernel
theorem dX2_set_9 : decode cX2_set 9 = .ok (.arraylength, 1) := by decide +kernel
theorem dX2_set_10 : decode cX2_set 10 = .ok (.if_icmp .ge 10, 3) := by decide +kernel
theorem dX2_set_13 : decode cX2_set 13 = .ok (.aload_n 0, 1) := by decide +kernel
theorem dX2_set_14 : decode cX2_set 14 = .ok (.getfield 9, 3) := by decide +kernel
theorem dX2_set_17 : decode cX2_set 17 = .ok (.iload_n 1, 1) := by decide +kernel
theorem dX2_set_18 : decode cX2_set 18 = .ok (.iload_n 2, 1) := by decide +kernel
theorem dX2_set_19 : decode cX2_set 19 = .ok (.iastore, 1) := by decide +kernel
theorem dX2_set_20 : decode cX2_set 20 = .ok (.return_, 1) := by decide +kernel
theorem dX2_copyFrom_0 : decode cX2_copyFrom 0 = .ok (.iconst 0, 1) := by decide +kernel
theorem dX2_copyFrom_1 : decode cX2_copyFrom 1 = .ok (.istore_n 2, 1) := by decide +kernel
theorem dX2_copyFrom_2 : decode cX2_copyFrom 2 = .ok (.iload_n 2, 1) := by decide +kernel
theorem dX2_copyFrom_3 : decode cX2_copyFrom 3 = .ok (.aload_n 0, 1) := by decide +kernel
theorem dX2_copyFrom_4 : decode cX2_copyFrom 4 = .ok (.getfield 9, 3) := by decide +kernel
theorem dX2_copyFrom_7 : decode cX2_copyFrom 7 = .ok (.arraylength, 1) := by decide +kernel
theorem dX2_copyFrom_8 : decode cX2_copyFrom 8 = .ok (.if_icmp .ge 30, 3) := by decide +kernel
theorem dX2_copyFrom_11 : decode cX2_copyFrom 11 = .ok (.iload_n 2, 1) := by decide +kernel
theorem dX2_copyFrom_12 : decode cX2_copyFrom 12 = .ok (.aload_n 1, 1) := by decide +kernel
theorem dX2_copyFrom_13 : decode cX2_copyFrom 13 = .ok (.getfield 9, 3) := by decide +kernel
theorem dX2_copyFrom_16 : decode cX2_copyFrom 16 = .ok (.arraylength, 1) := by decide +kernel
theorem dX2_copyFrom_17 : decode cX2_copyFrom 17 = .ok (.if_icmp .ge 21, 3) := by decide +kernel
theorem dX2_copyFrom_20 : decode cX2_copyFrom 20 = .ok (.aload_n 0, 1) := by decide +kernel
theorem dX2_copyFrom_21 : decode cX2_copyFrom 21 = .ok (.getfield 9, 3) := by decide +kernel
theorem dX2_copyFrom_24 : decode cX2_copyFrom 24 = .ok (.iload_n 2, 1) := by decide +kernel
theorem dX2_copyFrom_25 : decode cX2_copyFrom 25 = .ok (.aload_n 1, 1) := by decide +kernel
theorem dX2_copyFrom_26 : decode cX2_copyFrom 26 = .ok (.getfield 9, 3) := by decide +kernel
theorem dX2_copyFrom_29 : decode cX2_copyFrom 29 = .ok (.iload_n 2, 1) := by decide +kernel
theorem dX2_copyFrom_30 : decode cX2_copyFrom 30 = .ok (.iaload, 1) := by decide +kernel
theorem dX2_copyFrom_31 : decode cX2_copyFrom 31 = .ok (.iastore, 1) := by decide +kernel
theorem dX2_copyFrom_32 : decode cX2_copyFrom 32 = .ok (.iinc 2 1, 3) := by decide +kernel
theorem dX2_copyFrom_35 : decode cX2_copyFrom 35 = .ok (.goto (-33), 3) := by decide +kernel
theorem dX2_copyFrom_38 : decode cX2_copyFrom 38 = .ok (.return_, 1) := by decide +kernel
set_option maxRecDepth 20000 in
theorem ggX3_init_X2_init : GoodIn wsX3_init wsX2_init := goodIn_r _ [14, 15, 2, 3, 16, 17, 18] (by decide +kernel) (by decide +kernel)
set_option maxRecDepth 20000 in
theorem gX3_init_X2_init : GoodIn wsX3_init (wsX2_init) := ggX3_init_X2_init
theorem dX3_init_0 : decode cX3_init 0 = .ok (.aload_n 0, 1) := by decide +kernel
theorem dX3_init_1 : decode cX3_init 1 = .ok (.invokespecial 3, 3) := by decide +kernel
theorem dX3_init_4 : decode cX3_init 4 = .ok (.aload_n 0, 1) := by decide +kernel
theorem dX3_init_5 : decode cX3_init 5 = .ok (.new 9, 3) := by decide +kernel
theorem dX3_init_8 : decode cX3_init 8 = .ok (.dup, 1) := by decide +kernel
theorem dX3_init_9 : decode cX3_init 9 = .ok (.invokespecial 11, 3) := by decide +kernel
theorem dX3_init_12 : decode cX3_init 12 = .ok (.putfield 12, 3) := by decide +kernel
theorem dX3_init_15 : decode cX3_init 15 = .ok (.aload_n 0, 1) := by decide +kernel
theorem dX3_init_16 : decode cX3_init 16 = .ok (.new 9, 3) := by decide +kernel
theorem dX3_init_19 : decode cX3_init 19 = .ok (.dup, 1) := by decide +kernel
theorem dX3_init_20 : decode cX3_init 20 = .ok (.invokespecial 11, 3) := by decide +kernel
theorem dX3_init_23 : decode cX3_init 23 = .ok (.putfield 18, 3) := by decide +kernel
theorem dX3_init_26 : decode cX3_init 26 = .ok (.aload_n 0, 1) := by decide +kernel
theorem dX3_init_27 : decode cX3_init 27 = .ok (.new 9, 3) := by decide +kernel
theorem dX3_init_30 : decode cX3_init 30 = .ok (.dup, 1) := by decide +kernel
theorem dX3_init_31 : decode cX3_init 31 = .ok (.invokespecial 11, 3) := by decide +kernel
theorem dX3_init_34 : decode cX3_init 34 = .ok (.putfield 21, 3) := by decide +kernel
theorem dX3_init_37 : decode cX3_init 37 = .ok (.aload_n 0, 1) := by decide +kernel
theorem dX3_init_38 : decode cX3_init 38 = .ok (.new 9, 3) := by decide +kernel
theorem dX3_init_41 : decode cX3_init 41 = .ok (.dup, 1) := by decide +kernel
theorem dX3_init_42 : decode cX3_init 42 = .ok (.invokespecial 11, 3) := by decide +kernel
theorem dX3_init_45 : decode cX3_init 45 = .ok (.putfield 24, 3) := by decide +kernel
theorem dX3_init_48 : decode cX3_init 48 = .ok (.aload_n 0, 1) := by decide +kernel
theorem dX3_init_49 : decode cX3_init 49 = .ok (.new 9, 3) := by decide +kernel
theorem dX3_init_52 : decode cX3_init 52 = .ok (.dup, 1) := by decide +kernel
theorem dX3_init_53 : decode cX3_init 53 = .ok (.invokespecial 11, 3) := by decide +kernel
theorem dX3_init_56 : decode cX3_init 56 = .ok (.putfield 27, 3) := by decide +kernel
theorem dX3_init_59 : decode cX3_init 59 = .ok (.return_, 1) := by decide +kernel
set_option maxRecDepth 20000 in
theorem ggX3_copyFrom_X2_copyFrom : GoodIn wsX3_copyFrom wsX2_copyFrom := goodIn_r _ [11, 12, 19] (by decide +kernel) (by decide +kernel)
set_option maxRecDepth 20000 in
theorem gX3_copyFrom_X2_copyFrom : GoodIn wsX3_copyFrom (wsV RX3 34 RX2 yX2_copyFrom wsX2_copyFrom) := goodIn_app (goodIn_of _ (by decide +kernel)) ggX3_copyFrom_X2_copyFrom
theorem dX3_copyFrom_0 : decode cX3_copyFrom 0 = .ok (.aload_n 0, 1) := by decide +kernel
theorem dX3_copyFrom_1 : decode cX3_copyFrom 1 = .ok (.aload_n 1, 1) := by decide +kernel
theorem dX3_copyFrom_2 : decode cX3_copyFrom 2 = .ok (.getfield 30, 3) := by decide +kernel
theorem dX3_copyFrom_5 : decode cX3_copyFrom 5 = .ok (.putfield 30, 3) := by decide +kernel
theorem dX3_copyFrom_8 : decode cX3_copyFrom 8 = .ok (.aload_n 0, 1) := by decide +kernel
theorem dX3_copyFrom_9 : decode cX3_copyFrom 9 = .ok (.getfield 12, 3) := by decide +kernel
theorem dX3_copyFrom_12 : decode cX3_copyFrom 12 = .ok (.aload_n 1, 1) := by decide +kernel
theorem dX3_copyFrom_13 : decode cX3_copyFrom 13 = .ok (.getfield 12, 3) := by decide +kernel
theorem dX3_copyFrom_16 : decode cX3_copyFrom 16 = .ok (.invokevirtual 34, 3) := by decide +kernel
theorem dX3_copyFrom_19 : decode cX3_copyFrom 19 = .ok (.aload_n 0, 1) := by decide +kernel
theorem dX3_copyFrom_20 : decode cX3_copyFrom 20 = .ok (.getfield 18, 3) := by decide +kernel
theorem dX3_copyFrom_23 : decode cX3_copyFrom 23 = .ok (.aload_n 1, 1) := by decide +kernel
theorem dX3_copyFrom_24 : decode cX3_copyFrom 24 = .ok (.getfield 18, 3) := by decide +kernel
theorem dX3_copyFrom_27 : decode cX3_copyFrom 27 = .ok (.invokevirtual 34, 3) := by decide +kernel
theorem dX3_copyFrom_30 : decode cX3_copyFrom 30 = .ok (.aload_n 0, 1) := by decide +kernel
theorem dX3_copyFrom_31 : decode cX3_copyFrom 31 = .ok (.getfield 21, 3) := by decide +kernel
theorem dX3_copyFrom_34 : decode cX3_copyFrom 34 = .ok (.aload_n 1, 1) := by decide +kernel
theorem dX3_copyFrom_35 : decode cX3_copyFrom 35 = .ok (.getfield 21, 3) := by decide +kernel
theorem dX3_copyFrom_38 : decode cX3_copyFrom 38 = .ok (.invokevirtual 34, 3) := by decide +kernel
theorem dX3_copyFrom_41 : decode cX3_copyFrom 41 = .ok (.aload_n 0, 1) := by decide +kernel
theorem dX3_copyFrom_42 : decode cX3_copyFrom 42 = .ok (.getfield 24, 3) := by decide +kernel
theorem dX3_copyFrom_45 : decode cX3_copyFrom 45 = .ok (.aload_n 1, 1) := by decide +kernel
theorem dX3_copyFrom_46 : decode cX3_copyFrom 46 = .ok (.getfield 24, 3) := by decide +kernel
theorem dX3_copyFrom_49 : decode cX3_copyFrom 49 = .ok (.invokevirtual 34, 3) := by decide +kernel
theorem dX3_copyFrom_52 : decode cX3_copyFrom 52 = .ok (.aload_n 0, 1) := by decide +kernel
theorem dX3_copyFrom_53 : decode cX3_copyFrom 53 = .ok (.getfield 27, 3) := by decide +kernel
theorem dX3_copyFrom_56 : decode cX3_copyFrom 56 = .ok (.aload_n 1, 1) := by decide +kernel
theorem dX3_copyFrom_57 : decode cX3_copyFrom 57 = .ok (.getfield 27, 3) := by decide +kernel
theorem dX3_copyFrom_60 : decode cX3_copyFrom 60 = .ok (.invokevirtual 34, 3) := by decide +kernel
theorem dX3_copyFrom_63 : decode cX3_copyFrom 63 = .ok (.return_, 1) := by decide +kernel
set_option maxRecDepth 20000 in
theorem ggX3_hire_X2_set : GoodIn wsX3_hire wsX2_set := goodIn_r _ [8, 9, 24] (by decide +kernel) (by decide +kernel)
set_option maxRecDepth 20000 in
theorem gX3_hire_X2_set : GoodIn wsX3_hire (wsV RX3 38 RX2 yX2_set wsX2_set) := goodIn_app (goodIn_of _ (by decide +kernel)) ggX3_hire_X2_set
set_option maxRecDepth 20000 in
theorem ggX3_hire_X3_rest : GoodIn wsX3_hire wsX3_rest := goodIn_r _ [14, 15, 16, 17, 4, 5, 6, 7, 8, 9, 18, 19, 20, 21, 22, 23, 24] (by decide +kernel) (by decide +kernel)
set_option maxRecDepth 20000 in
theorem gX3_hire_X3_rest : GoodIn wsX3_hire (wsV RX3 42 RX3 yX3_rest wsX3_rest) := goodIn_app (goodIn_of _ (by decide +kernel)) ggX3_hire_X3_rest
theorem dX3_hire_0 : decode cX3_hire 0 = .ok (.aload_n 0, 1) := by decide +kernel
theorem dX3_hire_1 : decode cX3_hire 1 = .ok (.getfield 30, 3) := by decide +kernel
theorem dX3_hire_4 : decode cX3_hire 4 = .ok (.istore_n 2, 1) := by decide +kernel
theorem dX3_hire_5 : decode cX3_hire 5 = .ok (.aload_n 0, 1) := by decide +kernel
theorem dX3_hire_6 : decode cX3_hire 6 = .ok (.dup, 1) := by decide +kernel
theorem dX3_hire_7 : decode cX3_hire 7 = .ok (.getfield 30, 3) := by decide +kernel
theorem dX3_hire_10 : decode cX3_hire 10 = .ok (.iconst 1, 1) := by decide +kernel
theorem dX3_hire_11 : decode cX3_hire 11 = .ok (.iadd, 1) := by decide +kernel
theorem dX3_hire_12 : decode cX3_hire 12 = .ok (.putfield 30, 3) := by decide +kernel
theorem dX3_hire_15 : decode cX3_hire 15 = .ok (.aload_n 0, 1) := by decide +kernel
theorem dX3_hire_16 : decode cX3_hire 16 = .ok (.getfield 12, 3) := by decide +kernel
theorem dX3_hire_19 : decode cX3_hire 19 = .ok (.iload_n 2, 1) := by decide +kernel
theorem dX3_hire_20 : decode cX3_hire 20 = .ok (.iload_n 1, 1) := by decide +kernel
theorem dX3_hire_21 : decode cX3_hire 21 = .ok (.invokevirtual 38, 3) := by decide +kernel
theorem dX3_hire_24 : decode cX3_hire 24 = .ok (.aload_n 0, 1) := by decide +kernel
theorem dX3_hire_25 : decode cX3_hire 25 = .ok (.getfield 18, 3) := by decide +kernel
theorem dX3_hire_28 : decode cX3_hire 28 = .ok (.iload_n 2, 1) := by decide +kernel
theorem dX3_hire_29 : decode cX3_hire 29 = .ok (.iconst 0, 1) := by decide +kernel
theorem dX3_hire_30 : decode cX3_hire 30 = .ok (.invokevirtual 38, 3) := by decide +kernel
theorem dX3_hire_33 : decode cX3_hire 33 = .ok (.aload_n 0, 1) := by decide +kernel
theorem dX3_hire_34 : decode cX3_hire 34 = .ok (.iload_n 2, 1) := by decide +kernel
theorem dX3_hire_35 : decode cX3_hire 35 = .ok (.invokevirtual 42, 3) := by decide +kernel
theorem dX3_hire_38 : decode cX3_hire 38 = .ok (.iload_n 2, 1) := by decide +kernel
theorem dX3_hire_39 : decode cX3_hire 39 = .ok (.ireturn, 1) := by decide +kernel
set_option maxRecDepth 20000 in
theorem ggX3_rest_X2_set : GoodIn wsX3_rest wsX2_set := goodIn_r _ [8, 9, 16] (by decide +kernel) (by decide +kernel)
set_option maxRecDepth 20000 in
theorem gX3_rest_X2_set : GoodIn wsX3_rest (wsV RX3 38 RX2 yX2_set wsX2_set) := goodIn_app (goodIn_of _ (by decide +kernel)) ggX3_rest_X2_set
theorem dX3_rest_0 : decode cX3_rest 0 = .ok (.aload_n 0, 1) := by decide +kernel
theorem dX3_rest_1 : decode cX3_rest 1 = .ok (.getfield 21, 3) := by decide +kernel
theorem dX3_rest_4 : decode cX3_rest 4 = .ok (.iload_n 1, 1) := by decide +kernel
theorem dX3_rest_5 : decode cX3_rest 5 = .ok (.iconst (-1), 1) := by decide +kernel
theorem dX3_rest_6 : decode cX3_rest 6 = .ok (.invokevirtual 38, 3) := by decide +kernel
theorem dX3_rest_9 : decode cX3_rest 9 = .ok (.aload_n 0, 1) := by decide +kernel
theorem dX3_rest_10 : decode cX3_rest 10 = .ok (.getfield 24, 3) := by decide +kernel
theorem dX3_rest_13 : decode cX3_rest 13 = .ok (.iload_n 1, 1) := by decide +kernel
theorem dX3_rest_14 : decode cX3_rest 14 = .ok (.iconst (-1), 1) := by decide +kernel
theorem dX3_rest_15 : decode cX3_rest 15 = .ok (.invokevirtual 38, 3) := by decide +kernel
theorem dX3_rest_18 : decode cX3_rest 18 = .ok (.aload_n 0, 1) := by decide +kernel
theorem dX3_rest_19 : decode cX3_rest 19 = .ok (.getfield 27, 3) := by decide +kernel
theorem dX3_rest_22 : decode cX3_rest 22 = .ok (.iload_n 1, 1) := by decide +kernel
theorem dX3_rest_23 : decode cX3_rest 23 = .ok (.iconst 0, 1) := by decide +kernel
theorem dX3_rest_24 : decode cX3_rest 24 = .ok (.invokevirtual 38, 3) := by decide +kernel
theorem dX3_rest_27 : decode cX3_rest 27 = .ok (.return_, 1) := by decide +kernel
set_option maxRecDepth 20000 in
theorem ggX3_isIdle_X2_get : GoodIn wsX3_isIdle wsX2_get := goodIn_r _ [7, 8, 15] (by decide +kernel) (by decide +kernel)
set_option maxRecDepth 20000 in
theorem gX3_isIdle_X2_get : GoodIn wsX3_isIdle (wsV RX3 46 RX2 yX2_get wsX2_get) := goodIn_app (goodIn_of _ (by decide +kernel)) ggX3_isIdle_X2_get
theorem dX3_isIdle_0 : decode cX3_isIdle 0 = .ok (.aload_n 0, 1) := by decide +kernel
theorem dX3_isIdle_1 : decode cX3_isIdle 1 = .ok (.getfield 21, 3) := by decide +kernel
theorem dX3_isIdle_4 : decode cX3_isIdle 4 = .ok (.iload_n 1, 1) := by decide +kernel
theorem dX3_isIdle_5 : decode cX3_isIdle 5 = .ok (.invokevirtual 46, 3) := by decide +kernel
theorem dX3_isIdle_8 : decode cX3_isIdle 8 = .ok (.iconst (-1), 1) := by decide +kernel
theorem dX3_isIdle_9 : decode cX3_isIdle 9 = .ok (.if_icmp .ne 19, 3) := by decide +kernel
theorem dX3_isIdle_12 : decode cX3_isIdle 12 = .ok (.aload_n 0, 1) := by decide +kernel
theorem dX3_isIdle_13 : decode cX3_isIdle 13 = .ok (.getfield 24, 3) := by decide +kernel
theorem dX3_isIdle_16 : decode cX3_isIdle 16 = .ok (.iload_n 1, 1) := by decide +kernel
theorem dX3_isIdle_17 : decode cX3_isIdle 17 = .ok (.invokevirtual 46, 3) := by decide +kernel
theorem dX3_isIdle_20 : decode cX3_isIdle 20 = .ok (.iconst (-1), 1) := by decide +kernel
theorem dX3_isIdle_21 : decode cX3_isIdle 21 = .ok (.if_icmp .ne 7, 3) := by decide +kernel
theorem dX3_isIdle_24 : decode cX3_isIdle 24 = .ok (.iconst 1, 1) := by decide +kernel
theorem dX3_isIdle_25 : decode cX3_isIdle 25 = .ok (.goto 4, 3) := by decide +kernel
theorem dX3_isIdle_28 : decode cX3_isIdle 28 = .ok (.iconst 0, 1) := by decide +kernel
theorem dX3_isIdle_29 : decode cX3_isIdle 29 = .ok (.ireturn, 1) := by decide +kernel
set_option maxRecDepth 20000 in
theorem ggX3_isServing_X2_get : GoodIn wsX3_isServing wsX2_get := goodIn_r _ [7, 8, 15] (by decide +kernel) (by decide +kernel)
set_option maxRecDepth 20000 in
theorem gX3_isServing_X2_get : GoodIn wsX3_isServing (wsV RX3 46 RX2 yX2_get wsX2_get) := goodIn_app (goodIn_of _ (by decide +kernel)) ggX3_isServing_X2_get
theorem dX3_isServing_0 : decode cX3_isServing 0 = .ok (.iconst 0, 1) := by decide +kernel
theorem dX3_isServing_1 : decode cX3_isServing 1 = .ok (.istore_n 2, 1) := by decide +kernel
theorem dX3_isServing_2 : decode cX3_isServing 2 = .ok (.iload_n 2, 1) := by decide +kernel
theorem dX3_isServing_3 : decode cX3_isServing 3 = .ok (.aload_n 0, 1) := by decide +kernel
theorem dX3_isServing_4 : decode cX3_isServing 4 = .ok (.getfield 30, 3) := by decide +kernel
theorem dX3_isServing_7 : decode cX3_isServing 7 = .ok (.if_icmp .ge 23, 3) := by decide +kernel
theorem dX3_isServing_10 : decode cX3_isServing 10 = .ok (.aload_n 0, 1) := by decide +kernel
theorem dX3_isServing_11 : decode cX3_isServing 11 = .ok (.getfield 24, 3) := by decide +kernel
theorem dX3_isServing_14 : decode cX3_isServing 14 = .ok (.iload_n 2, 1) := by decide +kernel
theorem dX3_isServing_15 : decode cX3_isServing 15 = .ok (.invokevirtual 46, 3) := by decide +kernel
theorem dX3_isServing_18 : decode cX3_isServing 18 = .ok (.iload_n 1, 1) := by decide +kernel
theorem dX3_isServing_19 : decode cX3_isServing 19 = .ok (.if_icmp .ne 5, 3) := by decide +kernel
theorem dX3_isServing_22 : decode cX3_isServing 22 = .ok (.iconst 1, 1) := by decide +kernel
theorem dX3_isServing_23 : decode cX3_isServing 23 = .ok (.ireturn, 1) := by decide +kernel
theorem dX3_isServing_24 : decode cX3_isServing 24 = .ok (.iinc 2 1, 3) := by decide +kernel
theorem dX3_isServing_27 : decode cX3_isServing 27 = .ok (.goto (-25), 3) := by decide +kernel
theorem dX3_isServing_30 : decode cX3_isServing 30 = .ok (.iconst 0, 1) := by decide +kernel
theorem dX3_isServing_31 : decode cX3_isServing 31 = .ok (.ireturn, 1) := by decide +kernel
set_option maxRecDepth 20000 in
theorem ggX3_wayToFloor_X2_get : GoodIn wsX3_wayToFloor wsX2_get := goodIn_r _ [7, 8, 19] (by decide +kernel) (by decide +kernel)
set_option maxRecDepth 20000 in
theorem gX3_wayToFloor_X2_get : GoodIn wsX3_wayToFloor (wsV RX3 46 RX2 yX2_get wsX2_get) := goodIn_app (goodIn_of _ (by decide +kernel)) ggX3_wayToFloor_X2_get
set_option maxRecDepth 20000 in
theorem ggX3_wayToFloor_X3_minutesOfWay : GoodIn wsX3_wayToFloor wsX3_minutesOfWay := goodIn_r _ [12] (by decide +kernel) (by decide +kernel)
set_option maxRecDepth 20000 in
theorem gX3_wayToFloor_X3_minutesOfWay : GoodIn wsX3_wayToFloor (va_wsS RX3 50 yX3_minutesOfWay wsX3_minutesOfWay) := goodIn_app (goodIn_of _ (by decide +kernel)) ggX3_wayToFloor_X3_minutesOfWay
theorem dX3_wayToFloor_0 : decode cX3_wayToFloor 0 = .ok (.aload_n 0, 1) := by decide +kernel
theorem dX3_wayToFloor_1 : decode cX3_wayToFloor 1 = .ok (.getfield 18, 3) := by decide +kernel
theorem dX3_wayToFloor_4 : decode cX3_wayToFloor 4 = .ok (.iload_n 1, 1) := by decide +kernel
theorem dX3_wayToFloor_5 : decode cX3_wayToFloor 5 = .ok (.invokevirtual 46, 3) := by decide +kernel
theorem dX3_wayToFloor_8 : decode cX3_wayToFloor 8 = .ok (.iload_n 2, 1) := by decide +kernel
theorem dX3_wayToFloor_9 : decode cX3_wayToFloor 9 = .ok (.aload_n 0, 1) := by decide +kernel
theorem dX3_wayToFloor_10 : decode cX3_wayToFloor 10 = .ok (.getfield 12, 3) := by decide +kernel
theorem dX3_wayToFloor_13 : decode cX3_wayToFloor 13 = .ok (.iload_n 1, 1) := by decide +kernel
theorem dX3_wayToFloor_14 : decode cX3_wayToFloor 14 = .ok (.invokevirtual 46, 3) := by decide +kernel
theorem dX3_wayToFloor_17 : decode cX3_wayToFloor 17 = .ok (.invokestatic 50, 3) := by decide +kernel
theorem dX3_wayToFloor_20 : decode cX3_wayToFloor 20 = .ok (.ireturn, 1) := by decide +kernel
set_option maxRecDepth 20000 in
theorem ggX3_nearestTo_X2_get : GoodIn wsX3_nearestTo wsX2_get := goodIn_r _ [10, 11, 22] (by decide +kernel) (by decide +kernel)
set_option maxRecDepth 20000 in
theorem gX3_nearestTo_X2_get : GoodIn wsX3_nearestTo (wsV RX3 46 RX2 yX2_get wsX2_get) := goodIn_app (goodIn_of _ (by decide +kernel)) ggX3_nearestTo_X2_get
set_option maxRecDepth 20000 in
theorem ggX3_nearestTo_X3_minutesOfWay : GoodIn wsX3_nearestTo wsX3_minutesOfWay := goodIn_r _ [15] (by decide +kernel) (by decide +kernel)
set_option maxRecDepth 20000 in
theorem gX3_nearestTo_X3_minutesOfWay : GoodIn wsX3_nearestTo (va_wsS RX3 50 yX3_minutesOfWay wsX3_minutesOfWay) := goodIn_app (goodIn_of _ (by decide +kernel)) ggX3_nearestTo_X3_minutesOfWay
theorem dX3_nearestTo_0 : decode cX3_nearestTo 0 = .ok (.iconst (-1), 1) := by decide +kernel
theorem dX3_nearestTo_1 : decode cX3_nearestTo 1 = .ok (.istore_n 2, 1) := by decide +kernel
theorem dX3_nearestTo_2 : decode cX3_nearestTo 2 = .ok (.iconst 0, 1) := by decide +kernel
theorem dX3_nearestTo_3 : decode cX3_nearestTo 3 = .ok (.istore_n 3, 1) := by decide +kernel
theorem dX3_nearestTo_4 : decode cX3_nearestTo 4 = .ok (.iconst 0, 1) := by decide +kernel
theorem dX3_nearestTo_5 : decode cX3_nearestTo 5 = .ok (.istore 4, 2) := by decide +kernel
theorem dX3_nearestTo_7 : decode cX3_nearestTo 7 = .ok (.iload 4, 2) := by decide +kernel
theorem dX3_nearestTo_9 : decode cX3_nearestTo 9 = .ok (.aload_n 0, 1) := by decide +kernel
theorem dX3_nearestTo_10 : decode cX3_nearestTo 10 = .ok (.getfield 30, 3) := by decide +kernel
theorem dX3_nearestTo_13 : decode cX3_nearestTo 13 = .ok (.if_icmp .ge 79, 3) := by decide +kernel
theorem dX3_nearestTo_16 : decode cX3_nearestTo 16 = .ok (.aload_n 0, 1) := by decide +kernel
theorem dX3_nearestTo_17 : decode cX3_nearestTo 17 = .ok (.getfield 21, 3) := by decide +kernel
theorem dX3_nearestTo_20 : decode cX3_nearestTo 20 = .ok (.iload 4, 2) := by decide +kernel
theorem dX3_nearestTo_22 : decode cX3_nearestTo 22 = .ok (.invokevirtual 46, 3) := by decide +kernel
theorem dX3_nearestTo_25 : decode cX3_nearestTo 25 = .ok (.iconst (-1), 1) := by decide +kernel
theorem dX3_nearestTo_26 : decode cX3_nearestTo 26 = .ok (.if_icmp .ne 60, 3) := by decide +kernel
theorem dX3_nearestTo_29 : decode cX3_nearestTo 29 = .ok (.aload_n 0, 1) := by decide +kernel
theorem dX3_nearestTo_30 : decode cX3_nearestTo 30 = .ok (.getfield 24, 3) := by decide +kernel
theorem dX3_nearestTo_33 : decode cX3_nearestTo 33 = .ok (.iload 4, 2) := by decide +kernel
theorem dX3_nearestTo_35 : decode cX3_nearestTo 35 = .ok (.invokevirtual 46, 3) := by decide +kernel
theorem dX3_nearestTo_38 : decode cX3_nearestTo 38 = .ok (.iconst (-1), 1) := by decide +kernel
theorem dX3_nearestTo_39 : decode cX3_nearestTo 39 = .ok (.if_icmp .eq 6, 3) := by decide +kernel
theorem dX3_nearestTo_42 : decode cX3_nearestTo 42 = .ok (.goto 44, 3) := by decide +kernel
theorem dX3_nearestTo_45 : decode cX3_nearestTo 45 = .ok (.aload_n 0, 1) := by decide +kernel
theorem dX3_nearestTo_46 : decode cX3_nearestTo 46 = .ok (.getfield 18, 3) := by decide +kernel
theorem dX3_nearestTo_49 : decode cX3_nearestTo 49 = .ok (.iload 4, 2) := by decide +kernel
theorem dX3_nearestTo_51 : decode cX3_nearestTo 51 = .ok (.invokevirtual 46, 3) := by decide +kernel
theorem dX3_nearestTo_54 : decode cX3_nearestTo 54 = .ok (.iload_n 1, 1) := by decide +kernel
theorem dX3_nearestTo_55 : decode cX3_nearestTo 55 = .ok (.aload_n 0, 1) := by decide +kernel
theorem dX3_nearestTo_56 : decode cX3_nearestTo 56 = .ok (.getfield 12, 3) := by decide +kernel
theorem dX3_nearestTo_59 : decode cX3_nearestTo 59 = .ok (.iload 4, 2) := by decide +kernel
theorem dX3_nearestTo_61 : decode cX3_nearestTo 61 = .ok (.invokevirtual 46, 3) := by decide +kernel
theorem dX3_nearestTo_64 : decode cX3_nearestTo 64 = .ok (.invokestatic 50, 3) := by decide +kernel
theorem dX3_nearestTo_67 : decode cX3_nearestTo 67 = .ok (.istore 5, 2) := by decide +kernel
theorem dX3_nearestTo_69 : decode cX3_nearestTo 69 = .ok (.iload_n 2, 1) := by decide +kernel
theorem dX3_nearestTo_70 : decode cX3_nearestTo 70 = .ok (.iconst (-1), 1) := by decide +kernel
theorem dX3_nearestTo_71 : decode cX3_nearestTo 71 = .ok (.if_icmp .eq 9, 3) := by decide +kernel
theorem dX3_nearestTo_74 : decode cX3_nearestTo 74 = .ok (.iload 5, 2) := by decide +kernel
theorem dX3_nearestTo_76 : decode cX3_nearestTo 76 = .ok (.iload_n 3, 1) := by decide +kernel
theorem dX3_nearestTo_77 : decode cX3_nearestTo 77 = .ok (.if_icmp .ge 9, 3) := by decide +kernel
theorem dX3_nearestTo_80 : decode cX3_nearestTo 80 = .ok (.iload 4, 2) := by decide +kernel
theorem dX3_nearestTo_82 : decode cX3_nearestTo 82 = .ok (.istore_n 2, 1) := by decide +kernel
theorem dX3_nearestTo_83 : decode cX3_nearestTo 83 = .ok (.iload 5, 2) := by decide +kernel
theorem dX3_nearestTo_85 : decode cX3_nearestTo 85 = .ok (.istore_n 3, 1) := by decide +kernel
theorem dX3_nearestTo_86 : decode cX3_nearestTo 86 = .ok (.iinc 4 1, 3) := by decide +kernel
theorem dX3_nearestTo_89 : decode cX3_nearestTo 89 = .ok (.goto (-82), 3) := by decide +kernel
theorem dX3_nearestTo_92 : decode cX3_nearestTo 92 = .ok (.iload_n 2, 1) := by decide +kernel
theorem dX3_nearestTo_93 : decode cX3_nearestTo 93 = .ok (.ireturn, 1) := by decide +kernel
theorem dX3_minutesOfWay_0 : decode cX3_minutesOfWay 0 = .ok (.iload_n 0, 1) := by decide +kernel
theorem dX3_minutesOfWay_1 : decode cX3_minutesOfWay 1 = .ok (.iload_n 1, 1) := by decide +kernel
theorem dX3_minutesOfWay_2 : decode cX3_minutesOfWay 2 = .ok (.if_icmp .ge 9, 3) := by decide +kernel
theorem dX3_minutesOfWay_5 : decode cX3_minutesOfWay 5 = .ok (.iload_n 1, 1) := by decide +kernel
theorem dX3_minutesOfWay_6 : decode cX3_minutesOfWay 6 = .ok (.iload_n 0, 1) := by decide +kernel
theorem dX3_minutesOfWay_7 : decode cX3_minutesOfWay 7 = .ok (.isub, 1) := by decide +kernel
theorem dX3_minutesOfWay_8 : decode cX3_minutesOfWay 8 = .ok (.goto 6, 3) := by decide +kernel
theorem dX3_minutesOfWay_11 : decode cX3_minutesOfWay 11 = .ok (.iload_n 0, 1) := by decide +kernel
theorem dX3_minutesOfWay_12 : decode cX3_minutesOfWay 12 = .ok (.iload_n 1, 1) := by decide +kernel
theorem dX3_minutesOfWay_13 : decode cX3_minutesOfWay 13 = .ok (.isub, 1) := by decide +kernel
theorem dX3_minutesOfWay_14 : decode cX3_minutesOfWay 14 = .ok (.istore_n 3, 1) := by decide +kernel
theorem dX3_minutesOfWay_15 : decode cX3_minutesOfWay 15 = .ok (.iload_n 2, 1) := by decide +kernel
theorem dX3_minutesOfWay_16 : decode cX3_minutesOfWay 16 = .ok (.iconst 1, 1) := by decide +kernel
theorem dX3_minutesOfWay_17 : decode cX3_minutesOfWay 17 = .ok (.if_icmp .ge 7, 3) := by decide +kernel
theorem dX3_minutesOfWay_20 : decode cX3_minutesOfWay 20 = .ok (.iconst 1, 1) := by decide +kernel
theorem dX3_minutesOfWay_21 : decode cX3_minutesOfWay 21 = .ok (.goto 10, 3) := by decide +kernel
theorem dX3_minutesOfWay_24 : decode cX3_minutesOfWay 24 = .ok (.iload_n 3, 1) := by decide +kernel
theorem dX3_minutesOfWay_25 : decode cX3_minutesOfWay 25 = .ok (.iload_n 2, 1) := by decide +kernel
theorem dX3_minutesOfWay_26 : decode cX3_minutesOfWay 26 = .ok (.iadd, 1) := by decide +kernel
theorem dX3_minutesOfWay_27 : decode cX3_minutesOfWay 27 = .ok (.iconst 1, 1) := by decide +kernel
theorem dX3_minutesOfWay_28 : decode cX3_minutesOfWay 28 = .ok (.isub, 1) := by decide +kernel
theorem dX3_minutesOfWay_29 : decode cX3_minutesOfWay 29 = .ok (.iload_n 2, 1) := by decide +kernel
theorem dX3_minutesOfWay_30 : decode cX3_minutesOfWay 30 = .ok (.idiv, 1) := by decide +kernel
theorem dX3_minutesOfWay_31 : decode cX3_minutesOfWay 31 = .ok (.istore 4, 2) := by decide +kernel
theorem dX3_minutesOfWay_33 : decode cX3_minutesOfWay 33 = .ok (.iload 4, 2) := by decide +kernel
theorem dX3_minutesOfWay_35 : decode cX3_minutesOfWay 35 = .ok (.iconst 1, 1) := by decide +kernel
theorem dX3_minutesOfWay_36 : decode cX3_minutesOfWay 36 = .ok (.if_icmp .ge 7, 3) := by decide +kernel
theorem dX3_minutesOfWay_39 : decode cX3_minutesOfWay 39 = .ok (.iconst 1, 1) := by decide +kernel
theorem dX3_minutesOfWay_40 : decode cX3_minutesOfWay 40 = .ok (.goto 5, 3) := by decide +kernel
theorem dX3_minutesOfWay_43 : decode cX3_minutesOfWay 43 = .ok (.iload 4, 2) := by decide +kernel
theorem dX3_minutesOfWay_45 : decode cX3_minutesOfWay 45 = .ok (.ireturn, 1) := by decide +kernel
