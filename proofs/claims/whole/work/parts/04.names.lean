theorem dX1_countWays_14 : decode cX1_countWays 14 = .ok (.aload_n 0, 1) := by decide +kernel
theorem dX1_countWays_15 : decode cX1_countWays 15 = .ok (.iload_n 3, 1) := by decide +kernel
theorem dX1_countWays_16 : decode cX1_countWays 16 = .ok (.invokevirtual 123, 3) := by decide +kernel
theorem dX1_countWays_19 : decode cX1_countWays 19 = .ok (.istore 4, 2) := by decide +kernel
theorem dX1_countWays_21 : decode cX1_countWays 21 = .ok (.iconst 1, 1) := by decide +kernel
theorem dX1_countWays_22 : decode cX1_countWays 22 = .ok (.istore 5, 2) := by decide +kernel
theorem dX1_countWays_24 : decode cX1_countWays 24 = .ok (.iload 5, 2) := by decide +kernel
theorem dX1_countWays_26 : decode cX1_countWays 26 = .ok (.iload 4, 2) := by decide +kernel
theorem dX1_countWays_28 : decode cX1_countWays 28 = .ok (.if_icmp .gt 19, 3) := by decide +kernel
theorem dX1_countWays_31 : decode cX1_countWays 31 = .ok (.iinc 2 1, 3) := by decide +kernel
theorem dX1_countWays_34 : decode cX1_countWays 34 = .ok (.iload_n 1, 1) := by decide +kernel
theorem dX1_countWays_35 : decode cX1_countWays 35 = .ok (.iload_n 2, 1) := by decide +kernel
theorem dX1_countWays_36 : decode cX1_countWays 36 = .ok (.imul, 1) := by decide +kernel
theorem dX1_countWays_37 : decode cX1_countWays 37 = .ok (.iload 5, 2) := by decide +kernel
theorem dX1_countWays_39 : decode cX1_countWays 39 = .ok (.idiv, 1) := by decide +kernel
theorem dX1_countWays_40 : decode cX1_countWays 40 = .ok (.istore_n 1, 1) := by decide +kernel
theorem dX1_countWays_41 : decode cX1_countWays 41 = .ok (.iinc 5 1, 3) := by decide +kernel
theorem dX1_countWays_44 : decode cX1_countWays 44 = .ok (.goto (-20), 3) := by decide +kernel
theorem dX1_countWays_47 : decode cX1_countWays 47 = .ok (.iinc 3 1, 3) := by decide +kernel
theorem dX1_countWays_50 : decode cX1_countWays 50 = .ok (.goto (-44), 3) := by decide +kernel
theorem dX1_countWays_53 : decode cX1_countWays 53 = .ok (.iload_n 1, 1) := by decide +kernel
theorem dX1_countWays_54 : decode cX1_countWays 54 = .ok (.ireturn, 1) := by decide +kernel
set_option maxRecDepth 20000 in
theorem ggX1_countLuck_X0_clearScores : GoodIn wsX1_countLuck wsX0_clearScores := goodIn_r _ [8, 9, 10, 11, 7, 12, 13, 14, 59, 60, 61, 62] (by decide +kernel) (by decide +kernel)
set_option maxRecDepth 20000 in
theorem gX1_countLuck_X0_clearScores : GoodIn wsX1_countLuck (wsV RX1 99 RX0 yX0_clearScores wsX0_clearScores) := goodIn_app (goodIn_of _ (by decide +kernel)) ggX1_countLuck_X0_clearScores
set_option maxRecDepth 20000 in
theorem ggX1_countLuck_X1_ridesBy : GoodIn wsX1_countLuck wsX1_ridesBy := goodIn_r _ [19, 20, 21, 48, 49, 50, 51, 52, 53, 54, 55, 56, 57, 58] (by decide +kernel) (by decide +kernel)
set_option maxRecDepth 20000 in
theorem gX1_countLuck_X1_ridesBy : GoodIn wsX1_countLuck (wsV RX1 123 RX1 yX1_ridesBy wsX1_ridesBy) := goodIn_app (goodIn_of _ (by decide +kernel)) ggX1_countLuck_X1_ridesBy
set_option maxRecDepth 20000 in
theorem ggX1_countLuck_X1_winsFrom : GoodIn wsX1_countLuck wsX1_winsFrom := goodIn_r _ [25, 20, 1, 2, 3, 26, 27, 28, 29, 30, 31, 7, 32, 33, 34, 35, 36, 37, 13, 38, 39, 40, 41, 42, 14, 43, 44, 45, 46, 9, 10, 11, 12, 22, 23, 24, 18, 47, 48, 49, 50, 51, 52, 53, 54, 55, 56, 57, 58, 59, 60, 61, 62] (by decide +kernel) (by decide +kernel)
set_option maxRecDepth 20000 in
theorem gX1_countLuck_X1_winsFrom : GoodIn wsX1_countLuck (wsV RX1 126 RX1 yX1_winsFrom wsX1_winsFrom) := goodIn_app (goodIn_of _ (by decide +kernel)) ggX1_countLuck_X1_winsFrom
theorem dX1_countLuck_0 : decode cX1_countLuck 0 = .ok (.aload_n 0, 1) := by decide +kernel
theorem dX1_countLuck_1 : decode cX1_countLuck 1 = .ok (.getfield 47, 3) := by decide +kernel
theorem dX1_countLuck_4 : decode cX1_countLuck 4 = .ok (.invokevirtual 99, 3) := by decide +kernel
theorem dX1_countLuck_7 : decode cX1_countLuck 7 = .ok (.iconst 0, 1) := by decide +kernel
theorem dX1_countLuck_8 : decode cX1_countLuck 8 = .ok (.istore_n 2, 1) := by decide +kernel
theorem dX1_countLuck_9 : decode cX1_countLuck 9 = .ok (.iload_n 2, 1) := by decide +kernel
theorem dX1_countLuck_10 : decode cX1_countLuck 10 = .ok (.aload_n 0, 1) := by decide +kernel
theorem dX1_countLuck_11 : decode cX1_countLuck 11 = .ok (.getfield 55, 3) := by decide +kernel
theorem dX1_countLuck_14 : decode cX1_countLuck 14 = .ok (.if_icmp .ge 20, 3) := by decide +kernel
theorem dX1_countLuck_17 : decode cX1_countLuck 17 = .ok (.aload_n 0, 1) := by decide +kernel
theorem dX1_countLuck_18 : decode cX1_countLuck 18 = .ok (.getfield 27, 3) := by decide +kernel
theorem dX1_countLuck_21 : decode cX1_countLuck 21 = .ok (.iload_n 2, 1) := by decide +kernel
theorem dX1_countLuck_22 : decode cX1_countLuck 22 = .ok (.aload_n 0, 1) := by decide +kernel
theorem dX1_countLuck_23 : decode cX1_countLuck 23 = .ok (.iload_n 2, 1) := by decide +kernel
theorem dX1_countLuck_24 : decode cX1_countLuck 24 = .ok (.invokevirtual 123, 3) := by decide +kernel
theorem dX1_countLuck_27 : decode cX1_countLuck 27 = .ok (.iastore, 1) := by decide +kernel
theorem dX1_countLuck_28 : decode cX1_countLuck 28 = .ok (.iinc 2 1, 3) := by decide +kernel
theorem dX1_countLuck_31 : decode cX1_countLuck 31 = .ok (.goto (-22), 3) := by decide +kernel
theorem dX1_countLuck_34 : decode cX1_countLuck 34 = .ok (.aload_n 0, 1) := by decide +kernel
theorem dX1_countLuck_35 : decode cX1_countLuck 35 = .ok (.iconst 0, 1) := by decide +kernel
theorem dX1_countLuck_36 : decode cX1_countLuck 36 = .ok (.iload_n 1, 1) := by decide +kernel
theorem dX1_countLuck_37 : decode cX1_countLuck 37 = .ok (.invokevirtual 126, 3) := by decide +kernel
theorem dX1_countLuck_40 : decode cX1_countLuck 40 = .ok (.ireturn, 1) := by decide +kernel
set_option maxRecDepth 20000 in
theorem ggX1_winsFrom_X0_placeOf : GoodIn wsX1_winsFrom wsX0_placeOf := goodIn_r _ [12, 13, 14, 15, 16, 11, 17, 18, 19, 20, 21, 22, 23, 24, 49, 50, 51, 52] (by decide +kernel) (by decide +kernel)
set_option maxRecDepth 20000 in
theorem gX1_winsFrom_X0_placeOf : GoodIn wsX1_winsFrom (wsV RX1 115 RX0 yX0_placeOf wsX0_placeOf) := goodIn_app (goodIn_of _ (by decide +kernel)) ggX1_winsFrom_X0_placeOf
set_option maxRecDepth 20000 in
theorem ggX1_winsFrom_X0_addScore : GoodIn wsX1_winsFrom wsX0_addScore := goodIn_r _ [28, 18, 24, 29, 30, 31, 11, 32, 49, 50, 51, 52] (by decide +kernel) (by decide +kernel)
set_option maxRecDepth 20000 in
theorem gX1_winsFrom_X0_addScore : GoodIn wsX1_winsFrom (wsV RX1 102 RX0 yX0_addScore wsX0_addScore) := goodIn_app (goodIn_of _ (by decide +kernel)) ggX1_winsFrom_X0_addScore
set_option maxRecDepth 20000 in
theorem ggX1_winsFrom_X1_winsFrom : GoodIn wsX1_winsFrom wsX1_winsFrom := goodIn_r _ [0, 1, 2, 3, 4, 5, 6, 7, 8, 9, 10, 11, 12, 13, 14, 15, 16, 17, 18, 19, 20, 21, 22, 23, 24, 25, 26, 27, 28, 29, 30, 31, 32, 33, 34, 35, 36, 37, 38, 39, 40, 41, 42, 43, 44, 45, 46, 47, 48, 49, 50, 51, 52] (by decide +kernel) (by decide +kernel)
set_option maxRecDepth 20000 in
theorem gX1_winsFrom_X1_winsFrom : GoodIn wsX1_winsFrom (wsV RX1 126 RX1 yX1_winsFrom wsX1_winsFrom) := goodIn_app (goodIn_of _ (by decide +kernel)) ggX1_winsFrom_X1_winsFrom
set_option maxRecDepth 20000 in
theorem ggX1_winsFrom_X0_setScores : GoodIn wsX1_winsFrom wsX0_setScores := goodIn_r _ [32, 18, 24, 49, 50, 51, 52] (by decide +kernel) (by decide +kernel)
set_option maxRecDepth 20000 in
theorem gX1_winsFrom_X0_setScores : GoodIn wsX1_winsFrom (wsV RX1 119 RX0 yX0_setScores wsX0_setScores) := goodIn_app (goodIn_of _ (by decide +kernel)) ggX1_winsFrom_X0_setScores
theorem dX1_winsFrom_0 : decode cX1_winsFrom 0 = .ok (.iload_n 1, 1) := by decide +kernel
theorem dX1_winsFrom_1 : decode cX1_winsFrom 1 = .ok (.aload_n 0, 1) := by decide +kernel
theorem dX1_winsFrom_2 : decode cX1_winsFrom 2 = .ok (.getfield 59, 3) := by decide +kernel
theorem dX1_winsFrom_5 : decode cX1_winsFrom 5 = .ok (.if_icmp .ge 9, 3) := by decide +kernel
theorem dX1_winsFrom_8 : decode cX1_winsFrom 8 = .ok (.iload_n 1, 1) := by decide +kernel
theorem dX1_winsFrom_9 : decode cX1_winsFrom 9 = .ok (.bipush 8, 2) := by decide +kernel
theorem dX1_winsFrom_11 : decode cX1_winsFrom 11 = .ok (.if_icmp .lt 20, 3) := by decide +kernel
theorem dX1_winsFrom_14 : decode cX1_winsFrom 14 = .ok (.aload_n 0, 1) := by decide +kernel
theorem dX1_winsFrom_15 : decode cX1_winsFrom 15 = .ok (.getfield 47, 3) := by decide +kernel
theorem dX1_winsFrom_18 : decode cX1_winsFrom 18 = .ok (.iload_n 2, 1) := by decide +kernel
theorem dX1_winsFrom_19 : decode cX1_winsFrom 19 = .ok (.invokevirtual 115, 3) := by decide +kernel
theorem dX1_winsFrom_22 : decode cX1_winsFrom 22 = .ok (.ifCond .ne 7, 3) := by decide +kernel
theorem dX1_winsFrom_25 : decode cX1_winsFrom 25 = .ok (.iconst 1, 1) := by decide +kernel
theorem dX1_winsFrom_26 : decode cX1_winsFrom 26 = .ok (.goto 4, 3) := by decide +kernel
theorem dX1_winsFrom_29 : decode cX1_winsFrom 29 = .ok (.iconst 0, 1) := by decide +kernel
theorem dX1_winsFrom_30 : decode cX1_winsFrom 30 = .ok (.ireturn, 1) := by decide +kernel
theorem dX1_winsFrom_31 : decode cX1_winsFrom 31 = .ok (.iconst 0, 1) := by decide +kernel
theorem dX1_winsFrom_32 : decode cX1_winsFrom 32 = .ok (.istore_n 3, 1) := by decide +kernel
theorem dX1_winsFrom_33 : decode cX1_winsFrom 33 = .ok (.iconst 0, 1) := by decide +kernel
theorem dX1_winsFrom_34 : decode cX1_winsFrom 34 = .ok (.istore 4, 2) := by decide +kernel
theorem dX1_winsFrom_36 : decode cX1_winsFrom 36 = .ok (.iload 4, 2) := by decide +kernel
theorem dX1_winsFrom_38 : decode cX1_winsFrom 38 = .ok (.aload_n 0, 1) := by decide +kernel
theorem dX1_winsFrom_39 : decode cX1_winsFrom 39 = .ok (.getfield 55, 3) := by decide +kernel
theorem dX1_winsFrom_42 : decode cX1_winsFrom 42 = .ok (.if_icmp .ge 104, 3) := by decide +kernel
theorem dX1_winsFrom_45 : decode cX1_winsFrom 45 = .ok (.aload_n 0, 1) := by decide +kernel
theorem dX1_winsFrom_46 : decode cX1_winsFrom 46 = .ok (.getfield 27, 3) := by decide +kernel
theorem dX1_winsFrom_49 : decode cX1_winsFrom 49 = .ok (.iload 4, 2) := by decide +kernel
theorem dX1_winsFrom_51 : decode cX1_winsFrom 51 = .ok (.iaload, 1) := by decide +kernel
theorem dX1_winsFrom_52 : decode cX1_winsFrom 52 = .ok (.ifCond .le 88, 3) := by decide +kernel
theorem dX1_winsFrom_55 : decode cX1_winsFrom 55 = .ok (.aload_n 0, 1) := by decide +kernel
theorem dX1_winsFrom_56 : decode cX1_winsFrom 56 = .ok (.getfield 47, 3) := by decide +kernel
theorem dX1_winsFrom_59 : decode cX1_winsFrom 59 = .ok (.getfield 109, 3) := by decide +kernel
theorem dX1_winsFrom_62 : decode cX1_winsFrom 62 = .ok (.iload 4, 2) := by decide +kernel
theorem dX1_winsFrom_64 : decode cX1_winsFrom 64 = .ok (.iaload, 1) := by decide +kernel
theorem dX1_winsFrom_65 : decode cX1_winsFrom 65 = .ok (.istore 5, 2) := by decide +kernel
theorem dX1_winsFrom_67 : decode cX1_winsFrom 67 = .ok (.aload_n 0, 1) := by decide +kernel
theorem dX1_winsFrom_68 : decode cX1_winsFrom 68 = .ok (.getfield 47, 3) := by decide +kernel
theorem dX1_winsFrom_71 : decode cX1_winsFrom 71 = .ok (.getfield 112, 3) := by decide +kernel
theorem dX1_winsFrom_74 : decode cX1_winsFrom 74 = .ok (.iload 4, 2) := by decide +kernel
theorem dX1_winsFrom_76 : decode cX1_winsFrom 76 = .ok (.iaload, 1) := by decide +kernel
theorem dX1_winsFrom_77 : decode cX1_winsFrom 77 = .ok (.istore 6, 2) := by decide +kernel
theorem dX1_winsFrom_79 : decode cX1_winsFrom 79 = .ok (.aload_n 0, 1) := by decide +kernel
theorem dX1_winsFrom_80 : decode cX1_winsFrom 80 = .ok (.getfield 27, 3) := by decide +kernel
theorem dX1_winsFrom_83 : decode cX1_winsFrom 83 = .ok (.iload 4, 2) := by decide +kernel
theorem dX1_winsFrom_85 : decode cX1_winsFrom 85 = .ok (.dup2, 1) := by decide +kernel
theorem dX1_winsFrom_86 : decode cX1_winsFrom 86 = .ok (.iaload, 1) := by decide +kernel
theorem dX1_winsFrom_87 : decode cX1_winsFrom 87 = .ok (.iconst 1, 1) := by decide +kernel
theorem dX1_winsFrom_88 : decode cX1_winsFrom 88 = .ok (.isub, 1) := by decide +kernel
theorem dX1_winsFrom_89 : decode cX1_winsFrom 89 = .ok (.iastore, 1) := by decide +kernel
theorem dX1_winsFrom_90 : decode cX1_winsFrom 90 = .ok (.aload_n 0, 1) := by decide +kernel
theorem dX1_winsFrom_91 : decode cX1_winsFrom 91 = .ok (.getfield 47, 3) := by decide +kernel
theorem dX1_winsFrom_94 : decode cX1_winsFrom 94 = .ok (.iload 4, 2) := by decide +kernel
theorem dX1_winsFrom_96 : decode cX1_winsFrom 96 = .ok (.aload_n 0, 1) := by decide +kernel
theorem dX1_winsFrom_97 : decode cX1_winsFrom 97 = .ok (.getfield 24, 3) := by decide +kernel
theorem dX1_winsFrom_100 : decode cX1_winsFrom 100 = .ok (.iload_n 1, 1) := by decide +kernel
theorem dX1_winsFrom_101 : decode cX1_winsFrom 101 = .ok (.iaload, 1) := by decide +kernel
theorem dX1_winsFrom_102 : decode cX1_winsFrom 102 = .ok (.invokevirtual 102, 3) := by decide +kernel
theorem dX1_winsFrom_105 : decode cX1_winsFrom 105 = .ok (.iload_n 3, 1) := by decide +kernel
theorem dX1_winsFrom_106 : decode cX1_winsFrom 106 = .ok (.aload_n 0, 1) := by decide +kernel
theorem dX1_winsFrom_107 : decode cX1_winsFrom 107 = .ok (.iload_n 1, 1) := by decide +kernel
theorem dX1_winsFrom_108 : decode cX1_winsFrom 108 = .ok (.iconst 1, 1) := by decide +kernel
theorem dX1_winsFrom_109 : decode cX1_winsFrom 109 = .ok (.iadd, 1) := by decide +kernel
theorem dX1_winsFrom_110 : decode cX1_winsFrom 110 = .ok (.iload_n 2, 1) := by decide +kernel
theorem dX1_winsFrom_111 : decode cX1_winsFrom 111 = .ok (.invokevirtual 126, 3) := by decide +kernel
theorem dX1_winsFrom_114 : decode cX1_winsFrom 114 = .ok (.iadd, 1) := by decide +kernel
theorem dX1_winsFrom_115 : decode cX1_winsFrom 115 = .ok (.istore_n 3, 1) := by decide +kernel
theorem dX1_winsFrom_116 : decode cX1_winsFrom 116 = .ok (.aload_n 0, 1) := by decide +kernel
theorem dX1_winsFrom_117 : decode cX1_winsFrom 117 = .ok (.getfield 47, 3) := by decide +kernel
theorem dX1_winsFrom_120 : decode cX1_winsFrom 120 = .ok (.iload 4, 2) := by decide +kernel
theorem dX1_winsFrom_122 : decode cX1_winsFrom 122 = .ok (.iload 5, 2) := by decide +kernel
theorem dX1_winsFrom_124 : decode cX1_winsFrom 124 = .ok (.iload 6, 2) := by decide +kernel
theorem dX1_winsFrom_126 : decode cX1_winsFrom 126 = .ok (.invokevirtual 119, 3) := by decide +kernel
theorem dX1_winsFrom_129 : decode cX1_winsFrom 129 = .ok (.aload_n 0, 1) := by decide +kernel
theorem dX1_winsFrom_130 : decode cX1_winsFrom 130 = .ok (.getfield 27, 3) := by decide +kernel
theorem dX1_winsFrom_133 : decode cX1_winsFrom 133 = .ok (.iload 4, 2) := by decide +kernel
theorem dX1_winsFrom_135 : decode cX1_winsFrom 135 = .ok (.dup2, 1) := by decide +kernel
theorem dX1_winsFrom_136 : decode cX1_winsFrom 136 = .ok (.iaload, 1) := by decide +kernel
theorem dX1_winsFrom_137 : decode cX1_winsFrom 137 = .ok (.iconst 1, 1) := by decide +kernel
theorem dX1_winsFrom_138 : decode cX1_winsFrom 138 = .ok (.iadd, 1) := by decide +kernel
theorem dX1_winsFrom_139 : decode cX1_winsFrom 139 = .ok (.iastore, 1) := by decide +kernel
theorem dX1_winsFrom_140 : decode cX1_winsFrom 140 = .ok (.iinc 4 1, 3) := by decide +kernel
theorem dX1_winsFrom_143 : decode cX1_winsFrom 143 = .ok (.goto (-107), 3) := by decide +kernel
theorem dX1_winsFrom_146 : decode cX1_winsFrom 146 = .ok (.iload_n 3, 1) := by decide +kernel
theorem dX1_winsFrom_147 : decode cX1_winsFrom 147 = .ok (.ireturn, 1) := by decide +kernel
theorem dX2_init_0 : decode cX2_init 0 = .ok (.aload_n 0, 1) := by decide +kernel
theorem dX2_init_1 : decode cX2_init 1 = .ok (.invokespecial 3, 3) := by decide +kernel
theorem dX2_init_4 : decode cX2_init 4 = .ok (.aload_n 0, 1) := by decide +kernel
theorem dX2_init_5 : decode cX2_init 5 = .ok (.iconst 4, 1) := by decide +kernel
theorem dX2_init_6 : decode cX2_init 6 = .ok (.newarray .int, 2) := by decide +kernel
theorem dX2_init_8 : decode cX2_init 8 = .ok (.putfield 9, 3) := by decide +kernel
theorem dX2_init_11 : decode cX2_init 11 = .ok (.return_, 1) := by decide +kernel
set_option maxRecDepth 20000 in
theorem ggX2_fillByNumbers_X2_join : GoodIn wsX2_fillByNumbers wsX2_join := goodIn_r _ [6, 1, 7, 8, 9] (by decide +kernel) (by decide +kernel)
set_option maxRecDepth 20000 in
theorem gX2_fillByNumbers_X2_join : GoodIn wsX2_fillByNumbers (wsV RX2 19 RX2 yX2_join wsX2_join) := goodIn_app (goodIn_of _ (by decide +kernel)) ggX2_fillByNumbers_X2_join
theorem dX2_fillByNumbers_0 : decode cX2_fillByNumbers 0 = .ok (.aload_n 0, 1) := by decide +kernel
theorem dX2_fillByNumbers_1 : decode cX2_fillByNumbers 1 = .ok (.iconst 0, 1) := by decide +kernel
theorem dX2_fillByNumbers_2 : decode cX2_fillByNumbers 2 = .ok (.putfield 15, 3) := by decide +kernel
theorem dX2_fillByNumbers_5 : decode cX2_fillByNumbers 5 = .ok (.iconst 0, 1) := by decide +kernel
theorem dX2_fillByNumbers_6 : decode cX2_fillByNumbers 6 = .ok (.istore_n 2, 1) := by decide +kernel
theorem dX2_fillByNumbers_7 : decode cX2_fillByNumbers 7 = .ok (.iload_n 2, 1) := by decide +kernel
theorem dX2_fillByNumbers_8 : decode cX2_fillByNumbers 8 = .ok (.iload_n 1, 1) := by decide +kernel
theorem dX2_fillByNumbers_9 : decode cX2_fillByNumbers 9 = .ok (.if_icmp .ge 14, 3) := by decide +kernel
theorem dX2_fillByNumbers_12 : decode cX2_fillByNumbers 12 = .ok (.aload_n 0, 1) := by decide +kernel
theorem dX2_fillByNumbers_13 : decode cX2_fillByNumbers 13 = .ok (.iload_n 2, 1) := by decide +kernel
theorem dX2_fillByNumbers_14 : decode cX2_fillByNumbers 14 = .ok (.invokevirtual 19, 3) := by decide +kernel
theorem dX2_fillByNumbers_17 : decode cX2_fillByNumbers 17 = .ok (.iinc 2 1, 3) := by decide +kernel
theorem dX2_fillByNumbers_20 : decode cX2_fillByNumbers 20 = .ok (.goto (-13), 3) := by decide +kernel
theorem dX2_fillByNumbers_23 : decode cX2_fillByNumbers 23 = .ok (.return_, 1) := by decide +kernel
theorem dX2_join_0 : decode cX2_join 0 = .ok (.aload_n 0, 1) := by decide +kernel
theorem dX2_join_1 : decode cX2_join 1 = .ok (.getfield 15, 3) := by decide +kernel
theorem dX2_join_4 : decode cX2_join 4 = .ok (.iconst 4, 1) := by decide +kernel
theorem dX2_join_5 : decode cX2_join 5 = .ok (.if_icmp .ge 23, 3) := by decide +kernel
theorem dX2_join_8 : decode cX2_join 8 = .ok (.aload_n 0, 1) := by decide +kernel
theorem dX2_join_9 : decode cX2_join 9 = .ok (.getfield 9, 3) := by decide +kernel
theorem dX2_join_12 : decode cX2_join 12 = .ok (.aload_n 0, 1) := by decide +kernel
theorem dX2_join_13 : decode cX2_join 13 = .ok (.getfield 15, 3) := by decide +kernel
theorem dX2_join_16 : decode cX2_join 16 = .ok (.iload_n 1, 1) := by decide +kernel
theorem dX2_join_17 : decode cX2_join 17 = .ok (.iastore, 1) := by decide +kernel
theorem dX2_join_18 : decode cX2_join 18 = .ok (.aload_n 0, 1) := by decide +kernel
theorem dX2_join_19 : decode cX2_join 19 = .ok (.dup, 1) := by decide +kernel
theorem dX2_join_20 : decode cX2_join 20 = .ok (.getfield 15, 3) := by decide +kernel
theorem dX2_join_23 : decode cX2_join 23 = .ok (.iconst 1, 1) := by decide +kernel
theorem dX2_join_24 : decode cX2_join 24 = .ok (.iadd, 1) := by decide +kernel
theorem dX2_join_25 : decode cX2_join 25 = .ok (.putfield 15, 3) := by decide +kernel
theorem dX2_join_28 : decode cX2_join 28 = .ok (.return_, 1) := by decide +kernel
theorem dX2_leave_0 : decode cX2_leave 0 = .ok (.iconst 0, 1) := by decide +kernel
theorem dX2_leave_1 : decode cX2_leave 1 = .ok (.istore_n 2, 1) := by decide +kernel
theorem dX2_leave_2 : decode cX2_leave 2 = .ok (.iconst 0, 1) := by decide +kernel
theorem dX2_leave_3 : decode cX2_leave 3 = .ok (.istore_n 3, 1) := by decide +kernel
theorem dX2_leave_4 : decode cX2_leave 4 = .ok (.iload_n 3, 1) := by decide +kernel
theorem dX2_leave_5 : decode cX2_leave 5 = .ok (.aload_n 0, 1) := by decide +kernel
theorem dX2_leave_6 : decode cX2_leave 6 = .ok (.getfield 15, 3) := by decide +kernel
theorem dX2_leave_9 : decode cX2_leave 9 = .ok (.if_icmp .ge 34, 3) := by decide +kernel
theorem dX2_leave_12 : decode cX2_leave 12 = .ok (.aload_n 0, 1) := by decide +kernel
theorem dX2_leave_13 : decode cX2_leave 13 = .ok (.getfield 9, 3) := by decide +kernel
theorem dX2_leave_16 : decode cX2_leave 16 = .ok (.iload_n 3, 1) := by decide +kernel
theorem dX2_leave_17 : decode cX2_leave 17 = .ok (.iaload, 1) := by decide +kernel
theorem dX2_leave_18 : decode cX2_leave 18 = .ok (.iload_n 1, 1) := by decide +kernel
theorem dX2_leave_19 : decode cX2_leave 19 = .ok (.if_icmp .eq 18, 3) := by decide +kernel
theorem dX2_leave_22 : decode cX2_leave 22 = .ok (.aload_n 0, 1) := by decide +kernel
theorem dX2_leave_23 : decode cX2_leave 23 = .ok (.getfield 9, 3) := by decide +kernel
theorem dX2_leave_26 : decode cX2_leave 26 = .ok (.iload_n 2, 1) := by decide +kernel
theorem dX2_leave_27 : decode cX2_leave 27 = .ok (.aload_n 0, 1) := by decide +kernel
theorem dX2_leave_28 : decode cX2_leave 28 = .ok (.getfield 9, 3) := by decide +kernel
theorem dX2_leave_31 : decode cX2_leave 31 = .ok (.iload_n 3, 1) := by decide +kernel
theorem dX2_leave_32 : decode cX2_leave 32 = .ok (.iaload, 1) := by decide +kernel
theorem dX2_leave_33 : decode cX2_leave 33 = .ok (.iastore, 1) := by decide +kernel
theorem dX2_leave_34 : decode cX2_leave 34 = .ok (.iinc 2 1, 3) := by decide +kernel
theorem dX2_leave_37 : decode cX2_leave 37 = .ok (.iinc 3 1, 3) := by decide +kernel
theorem dX2_leave_40 : decode cX2_leave 40 = .ok (.goto (-36), 3) := by decide +kernel
theorem dX2_leave_43 : decode cX2_leave 43 = .ok (.aload_n 0, 1) := by decide +kernel
theorem dX2_leave_44 : decode cX2_leave 44 = .ok (.iload_n 2, 1) := by decide +kernel
theorem dX2_leave_45 : decode cX2_leave 45 = .ok (.putfield 15, 3) := by decide +kernel
theorem dX2_leave_48 : decode cX2_leave 48 = .ok (.return_, 1) := by decide +kernel
set_option maxRecDepth 20000 in
theorem ggX2_holds_X2_positionOf : GoodIn wsX2_holds wsX2_positionOf := goodIn_r _ [6, 1, 7, 8, 9] (by decide +kernel) (by decide +kernel)
set_option maxRecDepth 20000 in
theorem gX2_holds_X2_positionOf : GoodIn wsX2_holds (wsV RX2 23 RX2 yX2_positionOf wsX2_positionOf) := goodIn_app (goodIn_of _ (by decide +kernel)) ggX2_holds_X2_positionOf
theorem dX2_holds_0 : decode cX2_holds 0 = .ok (.aload_n 0, 1) := by decide +kernel
theorem dX2_holds_1 : decode cX2_holds 1 = .ok (.iload_n 1, 1) := by decide +kernel
theorem dX2_holds_2 : decode cX2_holds 2 = .ok (.invokevirtual 23, 3) := by decide +kernel
theorem dX2_holds_5 : decode cX2_holds 5 = .ok (.aload_n 0, 1) := by decide +kernel
theorem dX2_holds_6 : decode cX2_holds 6 = .ok (.getfield 15, 3) := by decide +kernel
theorem dX2_holds_9 : decode cX2_holds 9 = .ok (.if_icmp .ge 7, 3) := by decide +kernel
theorem dX2_holds_12 : decode cX2_holds 12 = .ok (.iconst 1, 1) := by decide +kernel
theorem dX2_holds_13 : decode cX2_holds 13 = .ok (.goto 4, 3) := by decide +kernel
theorem dX2_holds_16 : decode cX2_holds 16 = .ok (.iconst 0, 1) := by decide +kernel
theorem dX2_holds_17 : decode cX2_holds 17 = .ok (.ireturn, 1) := by decide +kernel
theorem dX2_positionOf_0 : decode cX2_positionOf 0 = .ok (.iconst 0, 1) := by decide +kernel
theorem dX2_positionOf_1 : decode cX2_positionOf 1 = .ok (.istore_n 2, 1) := by decide +kernel
theorem dX2_positionOf_2 : decode cX2_positionOf 2 = .ok (.iload_n 2, 1) := by decide +kernel
theorem dX2_positionOf_3 : decode cX2_positionOf 3 = .ok (.aload_n 0, 1) := by decide +kernel
theorem dX2_positionOf_4 : decode cX2_positionOf 4 = .ok (.getfield 15, 3) := by decide +kernel
theorem dX2_positionOf_7 : decode cX2_positionOf 7 = .ok (.if_icmp .ge 21, 3) := by decide +kernel
theorem dX2_positionOf_10 : decode cX2_positionOf 10 = .ok (.aload_n 0, 1) := by decide +kernel
theorem dX2_positionOf_11 : decode cX2_positionOf 11 = .ok (.getfield 9, 3) := by decide +kernel
theorem dX2_positionOf_14 : decode cX2_positionOf 14 = .ok (.iload_n 2, 1) := by decide +kernel
theorem dX2_positionOf_15 : decode cX2_positionOf 15 = .ok (.iaload, 1) := by decide +kernel
theorem dX2_positionOf_16 : decode cX2_positionOf 16 = .ok (.iload_n 1, 1) := by decide +kernel
theorem dX2_positionOf_17 : decode cX2_positionOf 17 = .ok (.if_icmp .ne 5, 3) := by decide +kernel
theorem dX2_positionOf_20 : decode cX2_positionOf 20 = .ok (.iload_n 2, 1) := by decide +kernel
theorem dX2_positionOf_21 : decode cX2_positionOf 21 = .ok (.ireturn, 1) := by decide +kernel
theorem dX2_positionOf_22 : decode cX2_positionOf 22 = .ok (.iinc 2 1, 3) := by decide +kernel
theorem dX2_positionOf_25 : decode cX2_positionOf 25 = .ok (.goto (-23), 3) := by decide +kernel
theorem dX2_positionOf_28 : decode cX2_positionOf 28 = .ok (.aload_n 0, 1) := by decide +kernel
theorem dX2_positionOf_29 : decode cX2_positionOf 29 = .ok (.getfield 15, 3) := by decide +kernel
theorem dX2_positionOf_32 : decode cX2_positionOf 32 = .ok (.ireturn, 1) := by decide +kernel
theorem dX3_init_0 : decode cX3_init 0 = .ok (.aload_n 0, 1) := by decide +kernel
theorem dX3_init_1 : decode cX3_init 1 = .ok (.invokespecial 3, 3) := by decide +kernel
theorem dX3_init_4 : decode cX3_init 4 = .ok (.aload_n 0, 1) := by decide +kernel
theorem dX3_init_5 : decode cX3_init 5 = .ok (.bipush 40, 2) := by decide +kernel
theorem dX3_init_7 : decode cX3_init 7 = .ok (.newarray .int, 2) := by decide +kernel
theorem dX3_init_9 : decode cX3_init 9 = .ok (.putfield 9, 3) := by decide +kernel
theorem dX3_init_12 : decode cX3_init 12 = .ok (.return_, 1) := by decide +kernel
theorem dX3_add_0 : decode cX3_add 0 = .ok (.aload_n 0, 1) := by decide +kernel
theorem dX3_add_1 : decode cX3_add 1 = .ok (.getfield 15, 3) := by decide +kernel
theorem dX3_add_4 : decode cX3_add 4 = .ok (.bipush 40, 2) := by decide +kernel
theorem dX3_add_6 : decode cX3_add 6 = .ok (.if_icmp .ge 23, 3) := by decide +kernel
theorem dX3_add_9 : decode cX3_add 9 = .ok (.aload_n 0, 1) := by decide +kernel
theorem dX3_add_10 : decode cX3_add 10 = .ok (.getfield 9, 3) := by decide +kernel
theorem dX3_add_13 : decode cX3_add 13 = .ok (.aload_n 0, 1) := by decide +kernel
theorem dX3_add_14 : decode cX3_add 14 = .ok (.getfield 15, 3) := by decide +kernel
theorem dX3_add_17 : decode cX3_add 17 = .ok (.iload_n 1, 1) := by decide +kernel
theorem dX3_add_18 : decode cX3_add 18 = .ok (.iastore, 1) := by decide +kernel
theorem dX3_add_19 : decode cX3_add 19 = .ok (.aload_n 0, 1) := by decide +kernel
theorem dX3_add_20 : decode cX3_add 20 = .ok (.dup, 1) := by decide +kernel
theorem dX3_add_21 : decode cX3_add 21 = .ok (.getfield 15, 3) := by decide +kernel
theorem dX3_add_24 : decode cX3_add 24 = .ok (.iconst 1, 1) := by decide +kernel
theorem dX3_add_25 : decode cX3_add 25 = .ok (.iadd, 1) := by decide +kernel
theorem dX3_add_26 : decode cX3_add 26 = .ok (.putfield 15, 3) := by decide +kernel
theorem dX3_add_29 : decode cX3_add 29 = .ok (.return_, 1) := by decide +kernel
theorem dX3_notBelow_0 : decode cX3_notBelow 0 = .ok (.iconst 0, 1) := by decide +kernel
theorem dX3_notBelow_1 : decode cX3_notBelow 1 = .ok (.istore_n 2, 1) := by decide +kernel
theorem dX3_notBelow_2 : decode cX3_notBelow 2 = .ok (.iconst 0, 1) := by decide +kernel
theorem dX3_notBelow_3 : decode cX3_notBelow 3 = .ok (.istore_n 3, 1) := by decide +kernel
theorem dX3_notBelow_4 : decode cX3_notBelow 4 = .ok (.iload_n 3, 1) := by decide +kernel
theorem dX3_notBelow_5 : decode cX3_notBelow 5 = .ok (.aload_n 0, 1) := by decide +kernel
theorem dX3_notBelow_6 : decode cX3_notBelow 6 = .ok (.getfield 15, 3) := by decide +kernel
theorem dX3_notBelow_9 : decode cX3_notBelow 9 = .ok (.if_icmp .ge 22, 3) := by decide +kernel
theorem dX3_notBelow_12 : decode cX3_notBelow 12 = .ok (.aload_n 0, 1) := by decide +kernel
theorem dX3_notBelow_13 : decode cX3_notBelow 13 = .ok (.getfield 9, 3) := by decide +kernel
theorem dX3_notBelow_16 : decode cX3_notBelow 16 = .ok (.iload_n 3, 1) := by decide +kernel
theorem dX3_notBelow_17 : decode cX3_notBelow 17 = .ok (.iaload, 1) := by decide +kernel
theorem dX3_notBelow_18 : decode cX3_notBelow 18 = .ok (.iload_n 1, 1) := by decide +kernel
theorem dX3_notBelow_19 : decode cX3_notBelow 19 = .ok (.if_icmp .lt 6, 3) := by decide +kernel
theorem dX3_notBelow_22 : decode cX3_notBelow 22 = .ok (.iinc 2 1, 3) := by decide +kernel
theorem dX3_notBelow_25 : decode cX3_notBelow 25 = .ok (.iinc 3 1, 3) := by decide +kernel
theorem dX3_notBelow_28 : decode cX3_notBelow 28 = .ok (.goto (-24), 3) := by decide +kernel
theorem dX3_notBelow_31 : decode cX3_notBelow 31 = .ok (.iload_n 2, 1) := by decide +kernel
theorem dX3_notBelow_32 : decode cX3_notBelow 32 = .ok (.ireturn, 1) := by decide +kernel
set_option maxRecDepth 20000 in
theorem ggX4_init_X4_begin : GoodIn wsX4_init wsX4_begin := goodIn_r _ [16, 17, 5, 6, 7, 10, 11, 18, 19, 20, 15, 21, 22, 23, 24, 25, 26, 27, 28, 29, 30, 31, 32, 33, 34, 35, 36, 37, 38, 39, 40, 41, 42, 43] (by decide +kernel) (by decide +kernel)
set_option maxRecDepth 20000 in
theorem gX4_init_X4_begin : GoodIn wsX4_init (wsV RX4 30 RX4 yX4_begin wsX4_begin) := goodIn_app (goodIn_of _ (by decide +kernel)) ggX4_init_X4_begin
theorem dX4_init_0 : decode cX4_init 0 = .ok (.aload_n 0, 1) := by decide +kernel
theorem dX4_init_1 : decode cX4_init 1 = .ok (.invokespecial 3, 3) := by decide +kernel
theorem dX4_init_4 : decode cX4_init 4 = .ok (.aload_n 0, 1) := by decide +kernel
theorem dX4_init_5 : decode cX4_init 5 = .ok (.bipush 9, 2) := by decide +kernel
theorem dX4_init_7 : decode cX4_init 7 = .ok (.newarray .int, 2) := by decide +kernel
theorem dX4_init_9 : decode cX4_init 9 = .ok (.putfield 9, 3) := by decide +kernel
theorem dX4_init_12 : decode cX4_init 12 = .ok (.aload_n 0, 1) := by decide +kernel
theorem dX4_init_13 : decode cX4_init 13 = .ok (.bipush 9, 2) := by decide +kernel
theorem dX4_init_15 : decode cX4_init 15 = .ok (.newarray .int, 2) := by decide +kernel
theorem dX4_init_17 : decode cX4_init 17 = .ok (.putfield 15, 3) := by decide +kernel
theorem dX4_init_20 : decode cX4_init 20 = .ok (.aload_n 0, 1) := by decide +kernel
theorem dX4_init_21 : decode cX4_init 21 = .ok (.bipush 9, 2) := by decide +kernel
theorem dX4_init_23 : decode cX4_init 23 = .ok (.newarray .int, 2) := by decide +kernel
theorem dX4_init_25 : decode cX4_init 25 = .ok (.putfield 18, 3) := by decide +kernel
theorem dX4_init_28 : decode cX4_init 28 = .ok (.aload_n 0, 1) := by decide +kernel
theorem dX4_init_29 : decode cX4_init 29 = .ok (.bipush 10, 2) := by decide +kernel
theorem dX4_init_31 : decode cX4_init 31 = .ok (.bipush 10, 2) := by decide +kernel
theorem dX4_init_33 : decode cX4_init 33 = .ok (.multianewarray 21 2, 4) := by decide +kernel
theorem dX4_init_37 : decode cX4_init 37 = .ok (.putfield 23, 3) := by decide +kernel
theorem dX4_init_40 : decode cX4_init 40 = .ok (.aload_n 0, 1) := by decide +kernel
theorem dX4_init_41 : decode cX4_init 41 = .ok (.bipush 10, 2) := by decide +kernel
theorem dX4_init_43 : decode cX4_init 43 = .ok (.newarray .long, 2) := by decide +kernel
theorem dX4_init_45 : decode cX4_init 45 = .ok (.putfield 26, 3) := by decide +kernel
theorem dX4_init_48 : decode cX4_init 48 = .ok (.aload_n 0, 1) := by decide +kernel
theorem dX4_init_49 : decode cX4_init 49 = .ok (.iconst 5, 1) := by decide +kernel
theorem dX4_init_50 : decode cX4_init 50 = .ok (.invokevirtual 30, 3) := by decide +kernel
theorem dX4_init_53 : decode cX4_init 53 = .ok (.return_, 1) := by decide +kernel
set_option maxRecDepth 20000 in
theorem ggX4_begin_X4_weighDownFrom : GoodIn wsX4_begin wsX4_weighDownFrom := goodIn_r _ [11, 6, 3, 2, 1, 5, 12, 13, 14, 10, 15, 16, 17, 18, 19, 20, 21, 22, 23, 24, 25, 26, 27, 28, 29, 30, 31, 32, 33] (by decide +kernel) (by decide +kernel)
set_option maxRecDepth 20000 in
theorem gX4_begin_X4_weighDownFrom : GoodIn wsX4_begin (wsV RX4 38 RX4 yX4_weighDownFrom wsX4_weighDownFrom) := goodIn_app (goodIn_of _ (by decide +kernel)) ggX4_begin_X4_weighDownFrom
theorem dX4_begin_0 : decode cX4_begin 0 = .ok (.aload_n 0, 1) := by decide +kernel
theorem dX4_begin_1 : decode cX4_begin 1 = .ok (.iload_n 1, 1) := by decide +kernel
theorem dX4_begin_2 : decode cX4_begin 2 = .ok (.putfield 34, 3) := by decide +kernel
theorem dX4_begin_5 : decode cX4_begin 5 = .ok (.iconst 0, 1) := by decide +kernel
theorem dX4_begin_6 : decode cX4_begin 6 = .ok (.istore_n 2, 1) := by decide +kernel
theorem dX4_begin_7 : decode cX4_begin 7 = .ok (.iload_n 2, 1) := by decide +kernel
theorem dX4_begin_8 : decode cX4_begin 8 = .ok (.iload_n 1, 1) := by decide +kernel
theorem dX4_begin_9 : decode cX4_begin 9 = .ok (.if_icmp .ge 31, 3) := by decide +kernel
theorem dX4_begin_12 : decode cX4_begin 12 = .ok (.aload_n 0, 1) := by decide +kernel
theorem dX4_begin_13 : decode cX4_begin 13 = .ok (.getfield 9, 3) := by decide +kernel
theorem dX4_begin_16 : decode cX4_begin 16 = .ok (.iload_n 2, 1) := by decide +kernel
theorem dX4_begin_17 : decode cX4_begin 17 = .ok (.iconst 0, 1) := by decide +kernel
theorem dX4_begin_18 : decode cX4_begin 18 = .ok (.iastore, 1) := by decide +kernel
theorem dX4_begin_19 : decode cX4_begin 19 = .ok (.aload_n 0, 1) := by decide +kernel
theorem dX4_begin_20 : decode cX4_begin 20 = .ok (.getfield 15, 3) := by decide +kernel
theorem dX4_begin_23 : decode cX4_begin 23 = .ok (.iload_n 2, 1) := by decide +kernel
theorem dX4_begin_24 : decode cX4_begin 24 = .ok (.bipush 9, 2) := by decide +kernel
theorem dX4_begin_26 : decode cX4_begin 26 = .ok (.iastore, 1) := by decide +kernel
theorem dX4_begin_27 : decode cX4_begin 27 = .ok (.aload_n 0, 1) := by decide +kernel
theorem dX4_begin_28 : decode cX4_begin 28 = .ok (.getfield 18, 3) := by decide +kernel
theorem dX4_begin_31 : decode cX4_begin 31 = .ok (.iload_n 2, 1) := by decide +kernel
theorem dX4_begin_32 : decode cX4_begin 32 = .ok (.iconst (-1), 1) := by decide +kernel
theorem dX4_begin_33 : decode cX4_begin 33 = .ok (.iastore, 1) := by decide +kernel
theorem dX4_begin_34 : decode cX4_begin 34 = .ok (.iinc 2 1, 3) := by decide +kernel
theorem dX4_begin_37 : decode cX4_begin 37 = .ok (.goto (-30), 3) := by decide +kernel
theorem dX4_begin_40 : decode cX4_begin 40 = .ok (.aload_n 0, 1) := by decide +kernel
theorem dX4_begin_41 : decode cX4_begin 41 = .ok (.getfield 23, 3) := by decide +kernel
theorem dX4_begin_44 : decode cX4_begin 44 = .ok (.iload_n 1, 1) := by decide +kernel
theorem dX4_begin_45 : decode cX4_begin 45 = .ok (.aaload, 1) := by decide +kernel
theorem dX4_begin_46 : decode cX4_begin 46 = .ok (.iconst 0, 1) := by decide +kernel
theorem dX4_begin_47 : decode cX4_begin 47 = .ok (.lconst 0, 1) := by decide +kernel
theorem dX4_begin_48 : decode cX4_begin 48 = .ok (.lastore, 1) := by decide +kernel
theorem dX4_begin_49 : decode cX4_begin 49 = .ok (.aload_n 0, 1) := by decide +kernel
theorem dX4_begin_50 : decode cX4_begin 50 = .ok (.getfield 26, 3) := by decide +kernel
theorem dX4_begin_53 : decode cX4_begin 53 = .ok (.iload_n 1, 1) := by decide +kernel
theorem dX4_begin_54 : decode cX4_begin 54 = .ok (.lconst 1, 1) := by decide +kernel
theorem dX4_begin_55 : decode cX4_begin 55 = .ok (.lastore, 1) := by decide +kernel
theorem dX4_begin_56 : decode cX4_begin 56 = .ok (.aload_n 0, 1) := by decide +kernel
theorem dX4_begin_57 : decode cX4_begin 57 = .ok (.iload_n 1, 1) := by decide +kernel
theorem dX4_begin_58 : decode cX4_begin 58 = .ok (.iconst 1, 1) := by decide +kernel
theorem dX4_begin_59 : decode cX4_begin 59 = .ok (.isub, 1) := by decide +kernel
theorem dX4_begin_60 : decode cX4_begin 60 = .ok (.invokevirtual 38, 3) := by decide +kernel
theorem dX4_begin_63 : decode cX4_begin 63 = .ok (.return_, 1) := by decide +kernel
theorem dX4_hasDay_0 : decode cX4_hasDay 0 = .ok (.iload_n 1, 1) := by decide +kernel
theorem dX4_hasDay_1 : decode cX4_hasDay 1 = .ok (.ifCond .lt 15, 3) := by decide +kernel
theorem dX4_hasDay_4 : decode cX4_hasDay 4 = .ok (.iload_n 1, 1) := by decide +kernel
theorem dX4_hasDay_5 : decode cX4_hasDay 5 = .ok (.aload_n 0, 1) := by decide +kernel
theorem dX4_hasDay_6 : decode cX4_hasDay 6 = .ok (.getfield 34, 3) := by decide +kernel
theorem dX4_hasDay_9 : decode cX4_hasDay 9 = .ok (.if_icmp .ge 7, 3) := by decide +kernel
theorem dX4_hasDay_12 : decode cX4_hasDay 12 = .ok (.iconst 1, 1) := by decide +kernel
theorem dX4_hasDay_13 : decode cX4_hasDay 13 = .ok (.goto 4, 3) := by decide +kernel
theorem dX4_hasDay_16 : decode cX4_hasDay 16 = .ok (.iconst 0, 1) := by decide +kernel
theorem dX4_hasDay_17 : decode cX4_hasDay 17 = .ok (.ireturn, 1) := by decide +kernel
theorem dX4_isInSpan_0 : decode cX4_isInSpan 0 = .ok (.iload_n 2, 1) := by decide +kernel
theorem dX4_isInSpan_1 : decode cX4_isInSpan 1 = .ok (.aload_n 0, 1) := by decide +kernel
theorem dX4_isInSpan_2 : decode cX4_isInSpan 2 = .ok (.getfield 9, 3) := by decide +kernel
theorem dX4_isInSpan_5 : decode cX4_isInSpan 5 = .ok (.iload_n 1, 1) := by decide +kernel
theorem dX4_isInSpan_6 : decode cX4_isInSpan 6 = .ok (.iaload, 1) := by decide +kernel
theorem dX4_isInSpan_7 : decode cX4_isInSpan 7 = .ok (.if_icmp .lt 17, 3) := by decide +kernel
theorem dX4_isInSpan_10 : decode cX4_isInSpan 10 = .ok (.iload_n 2, 1) := by decide +kernel
theorem dX4_isInSpan_11 : decode cX4_isInSpan 11 = .ok (.aload_n 0, 1) := by decide +kernel
theorem dX4_isInSpan_12 : decode cX4_isInSpan 12 = .ok (.getfield 15, 3) := by decide +kernel
theorem dX4_isInSpan_15 : decode cX4_isInSpan 15 = .ok (.iload_n 1, 1) := by decide +kernel
theorem dX4_isInSpan_16 : decode cX4_isInSpan 16 = .ok (.iaload, 1) := by decide +kernel
theorem dX4_isInSpan_17 : decode cX4_isInSpan 17 = .ok (.if_icmp .gt 7, 3) := by decide +kernel
theorem dX4_isInSpan_20 : decode cX4_isInSpan 20 = .ok (.iconst 1, 1) := by decide +kernel
theorem dX4_isInSpan_21 : decode cX4_isInSpan 21 = .ok (.goto 4, 3) := by decide +kernel
theorem dX4_isInSpan_24 : decode cX4_isInSpan 24 = .ok (.iconst 0, 1) := by decide +kernel
theorem dX4_isInSpan_25 : decode cX4_isInSpan 25 = .ok (.ireturn, 1) := by decide +kernel
theorem dX4_hasWorth_0 : decode cX4_hasWorth 0 = .ok (.iload_n 2, 1) := by decide +kernel
theorem dX4_hasWorth_1 : decode cX4_hasWorth 1 = .ok (.aload_n 0, 1) := by decide +kernel
theorem dX4_hasWorth_2 : decode cX4_hasWorth 2 = .ok (.getfield 34, 3) := by decide +kernel
theorem dX4_hasWorth_5 : decode cX4_hasWorth 5 = .ok (.iload_n 1, 1) := by decide +kernel
theorem dX4_hasWorth_6 : decode cX4_hasWorth 6 = .ok (.isub, 1) := by decide +kernel
theorem dX4_hasWorth_7 : decode cX4_hasWorth 7 = .ok (.if_icmp .gt 7, 3) := by decide +kernel
theorem dX4_hasWorth_10 : decode cX4_hasWorth 10 = .ok (.iconst 1, 1) := by decide +kernel
theorem dX4_hasWorth_11 : decode cX4_hasWorth 11 = .ok (.goto 4, 3) := by decide +kernel
theorem dX4_hasWorth_14 : decode cX4_hasWorth 14 = .ok (.iconst 0, 1) := by decide +kernel
theorem dX4_hasWorth_15 : decode cX4_hasWorth 15 = .ok (.ireturn, 1) := by decide +kernel
set_option maxRecDepth 20000 in
theorem ggX4_setSpan_X4_weighDownFrom : GoodIn wsX4_setSpan wsX4_weighDownFrom := goodIn_r _ [8, 9, 2, 1, 10, 11, 12, 13, 14, 7, 15, 16, 17, 18, 19, 20, 21, 22, 23, 24, 25, 26, 27, 28, 29, 30, 31, 32, 33] (by decide +kernel) (by decide +kernel)
set_option maxRecDepth 20000 in
theorem gX4_setSpan_X4_weighDownFrom : GoodIn wsX4_setSpan (wsV RX4 38 RX4 yX4_weighDownFrom wsX4_weighDownFrom) := goodIn_app (goodIn_of _ (by decide +kernel)) ggX4_setSpan_X4_weighDownFrom
theorem dX4_setSpan_0 : decode cX4_setSpan 0 = .ok (.aload_n 0, 1) := by decide +kernel
theorem dX4_setSpan_1 : decode cX4_setSpan 1 = .ok (.getfield 9, 3) := by decide +kernel
theorem dX4_setSpan_4 : decode cX4_setSpan 4 = .ok (.iload_n 1, 1) := by decide +kernel
theorem dX4_setSpan_5 : decode cX4_setSpan 5 = .ok (.iload_n 2, 1) := by decide +kernel
theorem dX4_setSpan_6 : decode cX4_setSpan 6 = .ok (.iastore, 1) := by decide +kernel
theorem dX4_setSpan_7 : decode cX4_setSpan 7 = .ok (.aload_n 0, 1) := by decide +kernel
theorem dX4_setSpan_8 : decode cX4_setSpan 8 = .ok (.getfield 15, 3) := by decide +kernel
theorem dX4_setSpan_11 : decode cX4_setSpan 11 = .ok (.iload_n 1, 1) := by decide +kernel
theorem dX4_setSpan_12 : decode cX4_setSpan 12 = .ok (.iload_n 3, 1) := by decide +kernel
theorem dX4_setSpan_13 : decode cX4_setSpan 13 = .ok (.iastore, 1) := by decide +kernel
theorem dX4_setSpan_14 : decode cX4_setSpan 14 = .ok (.aload_n 0, 1) := by decide +kernel
theorem dX4_setSpan_15 : decode cX4_setSpan 15 = .ok (.getfield 18, 3) := by decide +kernel
theorem dX4_setSpan_18 : decode cX4_setSpan 18 = .ok (.iload_n 1, 1) := by decide +kernel
theorem dX4_setSpan_19 : decode cX4_setSpan 19 = .ok (.iconst (-1), 1) := by decide +kernel
theorem dX4_setSpan_20 : decode cX4_setSpan 20 = .ok (.iastore, 1) := by decide +kernel
theorem dX4_setSpan_21 : decode cX4_setSpan 21 = .ok (.aload_n 0, 1) := by decide +kernel
theorem dX4_setSpan_22 : decode cX4_setSpan 22 = .ok (.iload_n 1, 1) := by decide +kernel
theorem dX4_setSpan_23 : decode cX4_setSpan 23 = .ok (.invokevirtual 38, 3) := by decide +kernel
theorem dX4_setSpan_26 : decode cX4_setSpan 26 = .ok (.return_, 1) := by decide +kernel
set_option maxRecDepth 20000 in
theorem ggX4_weighDownFrom_X4_sumOverSpan : GoodIn wsX4_weighDownFrom wsX4_sumOverSpan := goodIn_r _ [10, 3, 2, 5, 11, 12, 13, 9, 14, 15, 16, 17, 18, 4, 19, 20, 21, 22, 1, 23, 24, 25, 26, 27, 28] (by decide +kernel) (by decide +kernel)
set_option maxRecDepth 20000 in
theorem gX4_weighDownFrom_X4_sumOverSpan : GoodIn wsX4_weighDownFrom (wsV RX4 41 RX4 yX4_sumOverSpan wsX4_sumOverSpan) := goodIn_app (goodIn_of _ (by decide +kernel)) ggX4_weighDownFrom_X4_sumOverSpan
theorem dX4_weighDownFrom_0 : decode cX4_weighDownFrom 0 = .ok (.iload_n 1, 1) := by decide +kernel
theorem dX4_weighDownFrom_1 : decode cX4_weighDownFrom 1 = .ok (.istore_n 2, 1) := by decide +kernel
theorem dX4_weighDownFrom_2 : decode cX4_weighDownFrom 2 = .ok (.iload_n 2, 1) := by decide +kernel
theorem dX4_weighDownFrom_3 : decode cX4_weighDownFrom 3 = .ok (.ifCond .lt 72, 3) := by decide +kernel
theorem dX4_weighDownFrom_6 : decode cX4_weighDownFrom 6 = .ok (.aload_n 0, 1) := by decide +kernel
theorem dX4_weighDownFrom_7 : decode cX4_weighDownFrom 7 = .ok (.getfield 26, 3) := by decide +kernel
theorem dX4_weighDownFrom_10 : decode cX4_weighDownFrom 10 = .ok (.iload_n 2, 1) := by decide +kernel
theorem dX4_weighDownFrom_11 : decode cX4_weighDownFrom 11 = .ok (.aload_n 0, 1) := by decide +kernel
theorem dX4_weighDownFrom_12 : decode cX4_weighDownFrom 12 = .ok (.getfield 15, 3) := by decide +kernel
theorem dX4_weighDownFrom_15 : decode cX4_weighDownFrom 15 = .ok (.iload_n 2, 1) := by decide +kernel
theorem dX4_weighDownFrom_16 : decode cX4_weighDownFrom 16 = .ok (.iaload, 1) := by decide +kernel
theorem dX4_weighDownFrom_17 : decode cX4_weighDownFrom 17 = .ok (.aload_n 0, 1) := by decide +kernel
theorem dX4_weighDownFrom_18 : decode cX4_weighDownFrom 18 = .ok (.getfield 9, 3) := by decide +kernel
theorem dX4_weighDownFrom_21 : decode cX4_weighDownFrom 21 = .ok (.iload_n 2, 1) := by decide +kernel
theorem dX4_weighDownFrom_22 : decode cX4_weighDownFrom 22 = .ok (.iaload, 1) := by decide +kernel
theorem dX4_weighDownFrom_23 : decode cX4_weighDownFrom 23 = .ok (.isub, 1) := by decide +kernel
theorem dX4_weighDownFrom_24 : decode cX4_weighDownFrom 24 = .ok (.iconst 1, 1) := by decide +kernel
theorem dX4_weighDownFrom_25 : decode cX4_weighDownFrom 25 = .ok (.iadd, 1) := by decide +kernel
theorem dX4_weighDownFrom_26 : decode cX4_weighDownFrom 26 = .ok (.i2l, 1) := by decide +kernel
theorem dX4_weighDownFrom_27 : decode cX4_weighDownFrom 27 = .ok (.aload_n 0, 1) := by decide +kernel
theorem dX4_weighDownFrom_28 : decode cX4_weighDownFrom 28 = .ok (.getfield 26, 3) := by decide +kernel
theorem dX4_weighDownFrom_31 : decode cX4_weighDownFrom 31 = .ok (.iload_n 2, 1) := by decide +kernel
theorem dX4_weighDownFrom_32 : decode cX4_weighDownFrom 32 = .ok (.iconst 1, 1) := by decide +kernel
theorem dX4_weighDownFrom_33 : decode cX4_weighDownFrom 33 = .ok (.iadd, 1) := by decide +kernel
theorem dX4_weighDownFrom_34 : decode cX4_weighDownFrom 34 = .ok (.laload, 1) := by decide +kernel
theorem dX4_weighDownFrom_35 : decode cX4_weighDownFrom 35 = .ok (.lmul, 1) := by decide +kernel
theorem dX4_weighDownFrom_36 : decode cX4_weighDownFrom 36 = .ok (.lastore, 1) := by decide +kernel
theorem dX4_weighDownFrom_37 : decode cX4_weighDownFrom 37 = .ok (.iconst 0, 1) := by decide +kernel
theorem dX4_weighDownFrom_38 : decode cX4_weighDownFrom 38 = .ok (.istore_n 3, 1) := by decide +kernel
theorem dX4_weighDownFrom_39 : decode cX4_weighDownFrom 39 = .ok (.iload_n 3, 1) := by decide +kernel
theorem dX4_weighDownFrom_40 : decode cX4_weighDownFrom 40 = .ok (.aload_n 0, 1) := by decide +kernel
theorem dX4_weighDownFrom_41 : decode cX4_weighDownFrom 41 = .ok (.getfield 34, 3) := by decide +kernel
theorem dX4_weighDownFrom_44 : decode cX4_weighDownFrom 44 = .ok (.iload_n 2, 1) := by decide +kernel
theorem dX4_weighDownFrom_45 : decode cX4_weighDownFrom 45 = .ok (.isub, 1) := by decide +kernel
theorem dX4_weighDownFrom_46 : decode cX4_weighDownFrom 46 = .ok (.if_icmp .gt 23, 3) := by decide +kernel
theorem dX4_weighDownFrom_49 : decode cX4_weighDownFrom 49 = .ok (.aload_n 0, 1) := by decide +kernel
theorem dX4_weighDownFrom_50 : decode cX4_weighDownFrom 50 = .ok (.getfield 23, 3) := by decide +kernel
theorem dX4_weighDownFrom_53 : decode cX4_weighDownFrom 53 = .ok (.iload_n 2, 1) := by decide +kernel
theorem dX4_weighDownFrom_54 : decode cX4_weighDownFrom 54 = .ok (.aaload, 1) := by decide +kernel
theorem dX4_weighDownFrom_55 : decode cX4_weighDownFrom 55 = .ok (.iload_n 3, 1) := by decide +kernel
theorem dX4_weighDownFrom_56 : decode cX4_weighDownFrom 56 = .ok (.aload_n 0, 1) := by decide +kernel
theorem dX4_weighDownFrom_57 : decode cX4_weighDownFrom 57 = .ok (.iload_n 2, 1) := by decide +kernel
theorem dX4_weighDownFrom_58 : decode cX4_weighDownFrom 58 = .ok (.iload_n 3, 1) := by decide +kernel
theorem dX4_weighDownFrom_59 : decode cX4_weighDownFrom 59 = .ok (.invokevirtual 41, 3) := by decide +kernel
theorem dX4_weighDownFrom_62 : decode cX4_weighDownFrom 62 = .ok (.lastore, 1) := by decide +kernel
theorem dX4_weighDownFrom_63 : decode cX4_weighDownFrom 63 = .ok (.iinc 3 1, 3) := by decide +kernel
theorem dX4_weighDownFrom_66 : decode cX4_weighDownFrom 66 = .ok (.goto (-27), 3) := by decide +kernel
theorem dX4_weighDownFrom_69 : decode cX4_weighDownFrom 69 = .ok (.iinc 2 (-1), 3) := by decide +kernel
theorem dX4_weighDownFrom_72 : decode cX4_weighDownFrom 72 = .ok (.goto (-70), 3) := by decide +kernel
theorem dX4_weighDownFrom_75 : decode cX4_weighDownFrom 75 = .ok (.return_, 1) := by decide +kernel
set_option maxRecDepth 20000 in
theorem ggX4_sumOverSpan_X4_isCalled : GoodIn wsX4_sumOverSpan wsX4_isCalled := goodIn_r _ [8, 3, 9, 10, 11, 7, 12, 13, 14, 15, 16, 17, 18, 19, 20, 21, 22, 23, 24] (by decide +kernel) (by decide +kernel)
set_option maxRecDepth 20000 in
theorem gX4_sumOverSpan_X4_isCalled : GoodIn wsX4_sumOverSpan (wsV RX4 45 RX4 yX4_isCalled wsX4_isCalled) := goodIn_app (goodIn_of _ (by decide +kernel)) ggX4_sumOverSpan_X4_isCalled
set_option maxRecDepth 20000 in
theorem ggX4_sumOverSpan_X4_aboveIfCalled : GoodIn wsX4_sumOverSpan wsX4_aboveIfCalled := goodIn_r _ [17, 18, 3, 19, 20, 21, 22, 23, 24] (by decide +kernel) (by decide +kernel)
set_option maxRecDepth 20000 in
theorem gX4_sumOverSpan_X4_aboveIfCalled : GoodIn wsX4_sumOverSpan (wsV RX4 49 RX4 yX4_aboveIfCalled wsX4_aboveIfCalled) := goodIn_app (goodIn_of _ (by decide +kernel)) ggX4_sumOverSpan_X4_aboveIfCalled
theorem dX4_sumOverSpan_0 : decode cX4_sumOverSpan 0 = .ok (.lconst 0, 1) := by decide +kernel
theorem dX4_sumOverSpan_1 : decode cX4_sumOverSpan 1 = .ok (.lstore_n 3, 1) := by decide +kernel
theorem dX4_sumOverSpan_2 : decode cX4_sumOverSpan 2 = .ok (.aload_n 0, 1) := by decide +kernel
theorem dX4_sumOverSpan_3 : decode cX4_sumOverSpan 3 = .ok (.getfield 9, 3) := by decide +kernel
theorem dX4_sumOverSpan_6 : decode cX4_sumOverSpan 6 = .ok (.iload_n 1, 1) := by decide +kernel
theorem dX4_sumOverSpan_7 : decode cX4_sumOverSpan 7 = .ok (.iaload, 1) := by decide +kernel
theorem dX4_sumOverSpan_8 : decode cX4_sumOverSpan 8 = .ok (.istore 5, 2) := by decide +kernel
theorem dX4_sumOverSpan_10 : decode cX4_sumOverSpan 10 = .ok (.iload 5, 2) := by decide +kernel
theorem dX4_sumOverSpan_12 : decode cX4_sumOverSpan 12 = .ok (.aload_n 0, 1) := by decide +kernel
theorem dX4_sumOverSpan_13 : decode cX4_sumOverSpan 13 = .ok (.getfield 15, 3) := by decide +kernel
theorem dX4_sumOverSpan_16 : decode cX4_sumOverSpan 16 = .ok (.iload_n 1, 1) := by decide +kernel
theorem dX4_sumOverSpan_17 : decode cX4_sumOverSpan 17 = .ok (.iaload, 1) := by decide +kernel
theorem dX4_sumOverSpan_18 : decode cX4_sumOverSpan 18 = .ok (.if_icmp .gt 44, 3) := by decide +kernel
theorem dX4_sumOverSpan_21 : decode cX4_sumOverSpan 21 = .ok (.lload_n 3, 1) := by decide +kernel
theorem dX4_sumOverSpan_22 : decode cX4_sumOverSpan 22 = .ok (.aload_n 0, 1) := by decide +kernel
theorem dX4_sumOverSpan_23 : decode cX4_sumOverSpan 23 = .ok (.iload_n 1, 1) := by decide +kernel
theorem dX4_sumOverSpan_24 : decode cX4_sumOverSpan 24 = .ok (.iload_n 2, 1) := by decide +kernel
theorem dX4_sumOverSpan_25 : decode cX4_sumOverSpan 25 = .ok (.iload 5, 2) := by decide +kernel
theorem dX4_sumOverSpan_27 : decode cX4_sumOverSpan 27 = .ok (.invokevirtual 45, 3) := by decide +kernel
theorem dX4_sumOverSpan_30 : decode cX4_sumOverSpan 30 = .ok (.ifCond .eq 14, 3) := by decide +kernel
theorem dX4_sumOverSpan_33 : decode cX4_sumOverSpan 33 = .ok (.aload_n 0, 1) := by decide +kernel
theorem dX4_sumOverSpan_34 : decode cX4_sumOverSpan 34 = .ok (.iload_n 1, 1) := by decide +kernel
theorem dX4_sumOverSpan_35 : decode cX4_sumOverSpan 35 = .ok (.iload_n 2, 1) := by decide +kernel
theorem dX4_sumOverSpan_36 : decode cX4_sumOverSpan 36 = .ok (.iload 5, 2) := by decide +kernel
theorem dX4_sumOverSpan_38 : decode cX4_sumOverSpan 38 = .ok (.invokevirtual 49, 3) := by decide +kernel
theorem dX4_sumOverSpan_41 : decode cX4_sumOverSpan 41 = .ok (.goto 13, 3) := by decide +kernel
theorem dX4_sumOverSpan_44 : decode cX4_sumOverSpan 44 = .ok (.aload_n 0, 1) := by decide +kernel
theorem dX4_sumOverSpan_45 : decode cX4_sumOverSpan 45 = .ok (.getfield 23, 3) := by decide +kernel
theorem dX4_sumOverSpan_48 : decode cX4_sumOverSpan 48 = .ok (.iload_n 1, 1) := by decide +kernel
theorem dX4_sumOverSpan_49 : decode cX4_sumOverSpan 49 = .ok (.iconst 1, 1) := by decide +kernel
theorem dX4_sumOverSpan_50 : decode cX4_sumOverSpan 50 = .ok (.iadd, 1) := by decide +kernel
theorem dX4_sumOverSpan_51 : decode cX4_sumOverSpan 51 = .ok (.aaload, 1) := by decide +kernel
theorem dX4_sumOverSpan_52 : decode cX4_sumOverSpan 52 = .ok (.iload_n 2, 1) := by decide +kernel
theorem dX4_sumOverSpan_53 : decode cX4_sumOverSpan 53 = .ok (.laload, 1) := by decide +kernel
theorem dX4_sumOverSpan_54 : decode cX4_sumOverSpan 54 = .ok (.ladd, 1) := by decide +kernel
theorem dX4_sumOverSpan_55 : decode cX4_sumOverSpan 55 = .ok (.lstore_n 3, 1) := by decide +kernel
theorem dX4_sumOverSpan_56 : decode cX4_sumOverSpan 56 = .ok (.iinc 5 1, 3) := by decide +kernel
theorem dX4_sumOverSpan_59 : decode cX4_sumOverSpan 59 = .ok (.goto (-49), 3) := by decide +kernel
theorem dX4_sumOverSpan_62 : decode cX4_sumOverSpan 62 = .ok (.lload_n 3, 1) := by decide +kernel
theorem dX4_sumOverSpan_63 : decode cX4_sumOverSpan 63 = .ok (.lreturn, 1) := by decide +kernel
set_option maxRecDepth 20000 in
theorem ggX4_isCalled_X4_hasWorth : GoodIn wsX4_isCalled wsX4_hasWorth := goodIn_r _ [6, 7, 13, 14, 15, 16, 17, 18] (by decide +kernel) (by decide +kernel)
set_option maxRecDepth 20000 in
theorem gX4_isCalled_X4_hasWorth : GoodIn wsX4_isCalled (wsV RX4 53 RX4 yX4_hasWorth wsX4_hasWorth) := goodIn_app (goodIn_of _ (by decide +kernel)) ggX4_isCalled_X4_hasWorth
set_option maxRecDepth 20000 in
theorem ggX4_isCalled_X4_aboveIfCalled : GoodIn wsX4_isCalled wsX4_aboveIfCalled := goodIn_r _ [11, 12, 1, 13, 14, 15, 16, 17, 18] (by decide +kernel) (by decide +kernel)
set_option maxRecDepth 20000 in
theorem gX4_isCalled_X4_aboveIfCalled : GoodIn wsX4_isCalled (wsV RX4 49 RX4 yX4_aboveIfCalled wsX4_aboveIfCalled) := goodIn_app (goodIn_of _ (by decide +kernel)) ggX4_isCalled_X4_aboveIfCalled
theorem dX4_isCalled_0 : decode cX4_isCalled 0 = .ok (.iload_n 2, 1) := by decide +kernel
theorem dX4_isCalled_1 : decode cX4_isCalled 1 = .ok (.ifCond .gt 5, 3) := by decide +kernel
theorem dX4_isCalled_4 : decode cX4_isCalled 4 = .ok (.iconst 0, 1) := by decide +kernel
theorem dX4_isCalled_5 : decode cX4_isCalled 5 = .ok (.ireturn, 1) := by decide +kernel
theorem dX4_isCalled_6 : decode cX4_isCalled 6 = .ok (.aload_n 0, 1) := by decide +kernel
theorem dX4_isCalled_7 : decode cX4_isCalled 7 = .ok (.iload_n 1, 1) := by decide +kernel
theorem dX4_isCalled_8 : decode cX4_isCalled 8 = .ok (.iconst 1, 1) := by decide +kernel
theorem dX4_isCalled_9 : decode cX4_isCalled 9 = .ok (.iadd, 1) := by decide +kernel
theorem dX4_isCalled_10 : decode cX4_isCalled 10 = .ok (.iload_n 2, 1) := by decide +kernel
theorem dX4_isCalled_11 : decode cX4_isCalled 11 = .ok (.invokevirtual 53, 3) := by decide +kernel
theorem dX4_isCalled_14 : decode cX4_isCalled 14 = .ok (.ifCond .eq 24, 3) := by decide +kernel
theorem dX4_isCalled_17 : decode cX4_isCalled 17 = .ok (.aload_n 0, 1) := by decide +kernel
theorem dX4_isCalled_18 : decode cX4_isCalled 18 = .ok (.iload_n 1, 1) := by decide +kernel
theorem dX4_isCalled_19 : decode cX4_isCalled 19 = .ok (.iload_n 2, 1) := by decide +kernel
theorem dX4_isCalled_20 : decode cX4_isCalled 20 = .ok (.iload_n 3, 1) := by decide +kernel
theorem dX4_isCalled_21 : decode cX4_isCalled 21 = .ok (.invokevirtual 49, 3) := by decide +kernel
theorem dX4_isCalled_24 : decode cX4_isCalled 24 = .ok (.aload_n 0, 1) := by decide +kernel
theorem dX4_isCalled_25 : decode cX4_isCalled 25 = .ok (.getfield 23, 3) := by decide +kernel
theorem dX4_isCalled_28 : decode cX4_isCalled 28 = .ok (.iload_n 1, 1) := by decide +kernel
theorem dX4_isCalled_29 : decode cX4_isCalled 29 = .ok (.iconst 1, 1) := by decide +kernel
theorem dX4_isCalled_30 : decode cX4_isCalled 30 = .ok (.iadd, 1) := by decide +kernel
theorem dX4_isCalled_31 : decode cX4_isCalled 31 = .ok (.aaload, 1) := by decide +kernel
theorem dX4_isCalled_32 : decode cX4_isCalled 32 = .ok (.iload_n 2, 1) := by decide +kernel
theorem dX4_isCalled_33 : decode cX4_isCalled 33 = .ok (.laload, 1) := by decide +kernel
theorem dX4_isCalled_34 : decode cX4_isCalled 34 = .ok (.lcmp, 1) := by decide +kernel
theorem dX4_isCalled_35 : decode cX4_isCalled 35 = .ok (.ifCond .lt 7, 3) := by decide +kernel
theorem dX4_isCalled_38 : decode cX4_isCalled 38 = .ok (.iconst 1, 1) := by decide +kernel
theorem dX4_isCalled_39 : decode cX4_isCalled 39 = .ok (.goto 4, 3) := by decide +kernel
theorem dX4_isCalled_42 : decode cX4_isCalled 42 = .ok (.iconst 0, 1) := by decide +kernel
theorem dX4_isCalled_43 : decode cX4_isCalled 43 = .ok (.ireturn, 1) := by decide +kernel
theorem dX4_aboveIfCalled_0 : decode cX4_aboveIfCalled 0 = .ok (.iload_n 3, 1) := by decide +kernel
theorem dX4_aboveIfCalled_1 : decode cX4_aboveIfCalled 1 = .ok (.i2l, 1) := by decide +kernel
theorem dX4_aboveIfCalled_2 : decode cX4_aboveIfCalled 2 = .ok (.aload_n 0, 1) := by decide +kernel
theorem dX4_aboveIfCalled_3 : decode cX4_aboveIfCalled 3 = .ok (.getfield 26, 3) := by decide +kernel
theorem dX4_aboveIfCalled_6 : decode cX4_aboveIfCalled 6 = .ok (.iload_n 1, 1) := by decide +kernel
theorem dX4_aboveIfCalled_7 : decode cX4_aboveIfCalled 7 = .ok (.iconst 1, 1) := by decide +kernel
theorem dX4_aboveIfCalled_8 : decode cX4_aboveIfCalled 8 = .ok (.iadd, 1) := by decide +kernel
theorem dX4_aboveIfCalled_9 : decode cX4_aboveIfCalled 9 = .ok (.laload, 1) := by decide +kernel
theorem dX4_aboveIfCalled_10 : decode cX4_aboveIfCalled 10 = .ok (.lmul, 1) := by decide +kernel
theorem dX4_aboveIfCalled_11 : decode cX4_aboveIfCalled 11 = .ok (.aload_n 0, 1) := by decide +kernel
theorem dX4_aboveIfCalled_12 : decode cX4_aboveIfCalled 12 = .ok (.getfield 23, 3) := by decide +kernel
theorem dX4_aboveIfCalled_15 : decode cX4_aboveIfCalled 15 = .ok (.iload_n 1, 1) := by decide +kernel
theorem dX4_aboveIfCalled_16 : decode cX4_aboveIfCalled 16 = .ok (.iconst 1, 1) := by decide +kernel
theorem dX4_aboveIfCalled_17 : decode cX4_aboveIfCalled 17 = .ok (.iadd, 1) := by decide +kernel
theorem dX4_aboveIfCalled_18 : decode cX4_aboveIfCalled 18 = .ok (.aaload, 1) := by decide +kernel
theorem dX4_aboveIfCalled_19 : decode cX4_aboveIfCalled 19 = .ok (.iload_n 2, 1) := by decide +kernel
theorem dX4_aboveIfCalled_20 : decode cX4_aboveIfCalled 20 = .ok (.iconst 1, 1) := by decide +kernel
theorem dX4_aboveIfCalled_21 : decode cX4_aboveIfCalled 21 = .ok (.isub, 1) := by decide +kernel
theorem dX4_aboveIfCalled_22 : decode cX4_aboveIfCalled 22 = .ok (.laload, 1) := by decide +kernel
theorem dX4_aboveIfCalled_23 : decode cX4_aboveIfCalled 23 = .ok (.ladd, 1) := by decide +kernel
theorem dX4_aboveIfCalled_24 : decode cX4_aboveIfCalled 24 = .ok (.lreturn, 1) := by decide +kernel
theorem dX4_countKnown_0 : decode cX4_countKnown 0 = .ok (.iconst 0, 1) := by decide +kernel
theorem dX4_countKnown_1 : decode cX4_countKnown 1 = .ok (.istore_n 1, 1) := by decide +kernel
theorem dX4_countKnown_2 : decode cX4_countKnown 2 = .ok (.iconst 0, 1) := by decide +kernel
theorem dX4_countKnown_3 : decode cX4_countKnown 3 = .ok (.istore_n 2, 1) := by decide +kernel
theorem dX4_countKnown_4 : decode cX4_countKnown 4 = .ok (.iload_n 2, 1) := by decide +kernel
theorem dX4_countKnown_5 : decode cX4_countKnown 5 = .ok (.aload_n 0, 1) := by decide +kernel
theorem dX4_countKnown_6 : decode cX4_countKnown 6 = .ok (.getfield 34, 3) := by decide +kernel
theorem dX4_countKnown_9 : decode cX4_countKnown 9 = .ok (.if_icmp .ge 22, 3) := by decide +kernel
theorem dX4_countKnown_12 : decode cX4_countKnown 12 = .ok (.aload_n 0, 1) := by decide +kernel
theorem dX4_countKnown_13 : decode cX4_countKnown 13 = .ok (.getfield 18, 3) := by decide +kernel
theorem dX4_countKnown_16 : decode cX4_countKnown 16 = .ok (.iload_n 2, 1) := by decide +kernel
theorem dX4_countKnown_17 : decode cX4_countKnown 17 = .ok (.iaload, 1) := by decide +kernel
theorem dX4_countKnown_18 : decode cX4_countKnown 18 = .ok (.iconst (-1), 1) := by decide +kernel
theorem dX4_countKnown_19 : decode cX4_countKnown 19 = .ok (.if_icmp .eq 6, 3) := by decide +kernel
theorem dX4_countKnown_22 : decode cX4_countKnown 22 = .ok (.iinc 1 1, 3) := by decide +kernel
theorem dX4_countKnown_25 : decode cX4_countKnown 25 = .ok (.iinc 2 1, 3) := by decide +kernel
theorem dX4_countKnown_28 : decode cX4_countKnown 28 = .ok (.goto (-24), 3) := by decide +kernel
theorem dX4_countKnown_31 : decode cX4_countKnown 31 = .ok (.iload_n 1, 1) := by decide +kernel
theorem dX4_countKnown_32 : decode cX4_countKnown 32 = .ok (.ireturn, 1) := by decide +kernel
theorem dX4_lengthOfRun_0 : decode cX4_lengthOfRun 0 = .ok (.iconst 0, 1) := by decide +kernel
theorem dX4_lengthOfRun_1 : decode cX4_lengthOfRun 1 = .ok (.istore_n 1, 1) := by decide +kernel
theorem dX4_lengthOfRun_2 : decode cX4_lengthOfRun 2 = .ok (.iload_n 1, 1) := by decide +kernel
theorem dX4_lengthOfRun_3 : decode cX4_lengthOfRun 3 = .ok (.aload_n 0, 1) := by decide +kernel
theorem dX4_lengthOfRun_4 : decode cX4_lengthOfRun 4 = .ok (.getfield 34, 3) := by decide +kernel
theorem dX4_lengthOfRun_7 : decode cX4_lengthOfRun 7 = .ok (.if_icmp .ge 21, 3) := by decide +kernel
theorem dX4_lengthOfRun_10 : decode cX4_lengthOfRun 10 = .ok (.aload_n 0, 1) := by decide +kernel
theorem dX4_lengthOfRun_11 : decode cX4_lengthOfRun 11 = .ok (.getfield 18, 3) := by decide +kernel
theorem dX4_lengthOfRun_14 : decode cX4_lengthOfRun 14 = .ok (.iload_n 1, 1) := by decide +kernel
theorem dX4_lengthOfRun_15 : decode cX4_lengthOfRun 15 = .ok (.iaload, 1) := by decide +kernel
theorem dX4_lengthOfRun_16 : decode cX4_lengthOfRun 16 = .ok (.iconst (-1), 1) := by decide +kernel
theorem dX4_lengthOfRun_17 : decode cX4_lengthOfRun 17 = .ok (.if_icmp .ne 5, 3) := by decide +kernel
theorem dX4_lengthOfRun_20 : decode cX4_lengthOfRun 20 = .ok (.iload_n 1, 1) := by decide +kernel
