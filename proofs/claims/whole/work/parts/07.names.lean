theorem dX7_placeInLine_25 : decode cX7_placeInLine 25 = .ok (.goto (-23), 3) := by decide +kernel
theorem dX7_placeInLine_28 : decode cX7_placeInLine 28 = .ok (.iconst (-1), 1) := by decide +kernel
theorem dX7_placeInLine_29 : decode cX7_placeInLine 29 = .ok (.ireturn, 1) := by decide +kernel
set_option maxRecDepth 20000 in
theorem ggX7_beginGroup_X7_placeInLine : GoodIn wsX7_beginGroup wsX7_placeInLine := goodIn_r _ [9, 10, 11, 12, 13, 14, 15, 16, 17, 18, 19, 20, 21, 22, 23, 24, 25, 26, 27, 28, 29, 30, 31, 32, 33, 34, 35, 36, 37] (by decide +kernel) (by decide +kernel)
set_option maxRecDepth 20000 in
theorem gX7_beginGroup_X7_placeInLine : GoodIn wsX7_beginGroup (wsV RX7 99 RX7 yX7_placeInLine wsX7_placeInLine) := goodIn_app (goodIn_of _ (by decide +kernel)) ggX7_beginGroup_X7_placeInLine
theorem dX7_beginGroup_0 : decode cX7_beginGroup 0 = .ok (.aload_n 0, 1) := by decide +kernel
theorem dX7_beginGroup_1 : decode cX7_beginGroup 1 = .ok (.iconst 0, 1) := by decide +kernel
theorem dX7_beginGroup_2 : decode cX7_beginGroup 2 = .ok (.putfield 93, 3) := by decide +kernel
theorem dX7_beginGroup_5 : decode cX7_beginGroup 5 = .ok (.aload_n 0, 1) := by decide +kernel
theorem dX7_beginGroup_6 : decode cX7_beginGroup 6 = .ok (.iconst 0, 1) := by decide +kernel
theorem dX7_beginGroup_7 : decode cX7_beginGroup 7 = .ok (.putfield 96, 3) := by decide +kernel
theorem dX7_beginGroup_10 : decode cX7_beginGroup 10 = .ok (.iconst 0, 1) := by decide +kernel
theorem dX7_beginGroup_11 : decode cX7_beginGroup 11 = .ok (.istore_n 1, 1) := by decide +kernel
theorem dX7_beginGroup_12 : decode cX7_beginGroup 12 = .ok (.iload_n 1, 1) := by decide +kernel
theorem dX7_beginGroup_13 : decode cX7_beginGroup 13 = .ok (.aload_n 0, 1) := by decide +kernel
theorem dX7_beginGroup_14 : decode cX7_beginGroup 14 = .ok (.getfield 7, 3) := by decide +kernel
theorem dX7_beginGroup_17 : decode cX7_beginGroup 17 = .ok (.if_icmp .ge 32, 3) := by decide +kernel
theorem dX7_beginGroup_20 : decode cX7_beginGroup 20 = .ok (.aload_n 0, 1) := by decide +kernel
theorem dX7_beginGroup_21 : decode cX7_beginGroup 21 = .ok (.iload_n 1, 1) := by decide +kernel
theorem dX7_beginGroup_22 : decode cX7_beginGroup 22 = .ok (.invokevirtual 99, 3) := by decide +kernel
theorem dX7_beginGroup_25 : decode cX7_beginGroup 25 = .ok (.istore_n 2, 1) := by decide +kernel
theorem dX7_beginGroup_26 : decode cX7_beginGroup 26 = .ok (.aload_n 0, 1) := by decide +kernel
theorem dX7_beginGroup_27 : decode cX7_beginGroup 27 = .ok (.getfield 32, 3) := by decide +kernel
theorem dX7_beginGroup_30 : decode cX7_beginGroup 30 = .ok (.iload_n 1, 1) := by decide +kernel
theorem dX7_beginGroup_31 : decode cX7_beginGroup 31 = .ok (.iload_n 2, 1) := by decide +kernel
theorem dX7_beginGroup_32 : decode cX7_beginGroup 32 = .ok (.ifCond .lt 7, 3) := by decide +kernel
theorem dX7_beginGroup_35 : decode cX7_beginGroup 35 = .ok (.iload_n 2, 1) := by decide +kernel
theorem dX7_beginGroup_36 : decode cX7_beginGroup 36 = .ok (.goto 6, 3) := by decide +kernel
theorem dX7_beginGroup_39 : decode cX7_beginGroup 39 = .ok (.iconst 4, 1) := by decide +kernel
theorem dX7_beginGroup_40 : decode cX7_beginGroup 40 = .ok (.iload_n 1, 1) := by decide +kernel
theorem dX7_beginGroup_41 : decode cX7_beginGroup 41 = .ok (.iadd, 1) := by decide +kernel
theorem dX7_beginGroup_42 : decode cX7_beginGroup 42 = .ok (.iastore, 1) := by decide +kernel
theorem dX7_beginGroup_43 : decode cX7_beginGroup 43 = .ok (.iinc 1 1, 3) := by decide +kernel
theorem dX7_beginGroup_46 : decode cX7_beginGroup 46 = .ok (.goto (-34), 3) := by decide +kernel
theorem dX7_beginGroup_49 : decode cX7_beginGroup 49 = .ok (.return_, 1) := by decide +kernel
theorem dX7_joins_0 : decode cX7_joins 0 = .ok (.aload_n 0, 1) := by decide +kernel
theorem dX7_joins_1 : decode cX7_joins 1 = .ok (.dup, 1) := by decide +kernel
theorem dX7_joins_2 : decode cX7_joins 2 = .ok (.getfield 93, 3) := by decide +kernel
theorem dX7_joins_5 : decode cX7_joins 5 = .ok (.iconst 1, 1) := by decide +kernel
theorem dX7_joins_6 : decode cX7_joins 6 = .ok (.iload_n 1, 1) := by decide +kernel
theorem dX7_joins_7 : decode cX7_joins 7 = .ok (.ishl, 1) := by decide +kernel
theorem dX7_joins_8 : decode cX7_joins 8 = .ok (.ior, 1) := by decide +kernel
theorem dX7_joins_9 : decode cX7_joins 9 = .ok (.putfield 93, 3) := by decide +kernel
theorem dX7_joins_12 : decode cX7_joins 12 = .ok (.iload_n 1, 1) := by decide +kernel
theorem dX7_joins_13 : decode cX7_joins 13 = .ok (.istore_n 2, 1) := by decide +kernel
theorem dX7_joins_14 : decode cX7_joins 14 = .ok (.iconst 0, 1) := by decide +kernel
theorem dX7_joins_15 : decode cX7_joins 15 = .ok (.istore_n 3, 1) := by decide +kernel
theorem dX7_joins_16 : decode cX7_joins 16 = .ok (.iload_n 3, 1) := by decide +kernel
theorem dX7_joins_17 : decode cX7_joins 17 = .ok (.aload_n 0, 1) := by decide +kernel
theorem dX7_joins_18 : decode cX7_joins 18 = .ok (.getfield 7, 3) := by decide +kernel
theorem dX7_joins_21 : decode cX7_joins 21 = .ok (.if_icmp .ge 42, 3) := by decide +kernel
theorem dX7_joins_24 : decode cX7_joins 24 = .ok (.aload_n 0, 1) := by decide +kernel
theorem dX7_joins_25 : decode cX7_joins 25 = .ok (.getfield 93, 3) := by decide +kernel
theorem dX7_joins_28 : decode cX7_joins 28 = .ok (.iload_n 3, 1) := by decide +kernel
theorem dX7_joins_29 : decode cX7_joins 29 = .ok (.ishr, 1) := by decide +kernel
theorem dX7_joins_30 : decode cX7_joins 30 = .ok (.iconst 1, 1) := by decide +kernel
theorem dX7_joins_31 : decode cX7_joins 31 = .ok (.iand, 1) := by decide +kernel
theorem dX7_joins_32 : decode cX7_joins 32 = .ok (.iconst 1, 1) := by decide +kernel
theorem dX7_joins_33 : decode cX7_joins 33 = .ok (.if_icmp .ne 22, 3) := by decide +kernel
theorem dX7_joins_36 : decode cX7_joins 36 = .ok (.aload_n 0, 1) := by decide +kernel
theorem dX7_joins_37 : decode cX7_joins 37 = .ok (.getfield 32, 3) := by decide +kernel
theorem dX7_joins_40 : decode cX7_joins 40 = .ok (.iload_n 3, 1) := by decide +kernel
theorem dX7_joins_41 : decode cX7_joins 41 = .ok (.iaload, 1) := by decide +kernel
theorem dX7_joins_42 : decode cX7_joins 42 = .ok (.aload_n 0, 1) := by decide +kernel
theorem dX7_joins_43 : decode cX7_joins 43 = .ok (.getfield 32, 3) := by decide +kernel
theorem dX7_joins_46 : decode cX7_joins 46 = .ok (.iload_n 2, 1) := by decide +kernel
theorem dX7_joins_47 : decode cX7_joins 47 = .ok (.iaload, 1) := by decide +kernel
theorem dX7_joins_48 : decode cX7_joins 48 = .ok (.if_icmp .ge 7, 3) := by decide +kernel
theorem dX7_joins_51 : decode cX7_joins 51 = .ok (.iload_n 3, 1) := by decide +kernel
theorem dX7_joins_52 : decode cX7_joins 52 = .ok (.goto 4, 3) := by decide +kernel
theorem dX7_joins_55 : decode cX7_joins 55 = .ok (.iload_n 2, 1) := by decide +kernel
theorem dX7_joins_56 : decode cX7_joins 56 = .ok (.istore_n 2, 1) := by decide +kernel
theorem dX7_joins_57 : decode cX7_joins 57 = .ok (.iinc 3 1, 3) := by decide +kernel
theorem dX7_joins_60 : decode cX7_joins 60 = .ok (.goto (-44), 3) := by decide +kernel
theorem dX7_joins_63 : decode cX7_joins 63 = .ok (.iconst 0, 1) := by decide +kernel
theorem dX7_joins_64 : decode cX7_joins 64 = .ok (.istore_n 3, 1) := by decide +kernel
theorem dX7_joins_65 : decode cX7_joins 65 = .ok (.iload_n 3, 1) := by decide +kernel
theorem dX7_joins_66 : decode cX7_joins 66 = .ok (.aload_n 0, 1) := by decide +kernel
theorem dX7_joins_67 : decode cX7_joins 67 = .ok (.getfield 7, 3) := by decide +kernel
theorem dX7_joins_70 : decode cX7_joins 70 = .ok (.if_icmp .ge 59, 3) := by decide +kernel
theorem dX7_joins_73 : decode cX7_joins 73 = .ok (.aload_n 0, 1) := by decide +kernel
theorem dX7_joins_74 : decode cX7_joins 74 = .ok (.getfield 93, 3) := by decide +kernel
theorem dX7_joins_77 : decode cX7_joins 77 = .ok (.iload_n 3, 1) := by decide +kernel
theorem dX7_joins_78 : decode cX7_joins 78 = .ok (.ishr, 1) := by decide +kernel
theorem dX7_joins_79 : decode cX7_joins 79 = .ok (.iconst 1, 1) := by decide +kernel
theorem dX7_joins_80 : decode cX7_joins 80 = .ok (.iand, 1) := by decide +kernel
theorem dX7_joins_81 : decode cX7_joins 81 = .ok (.iconst 1, 1) := by decide +kernel
theorem dX7_joins_82 : decode cX7_joins 82 = .ok (.if_icmp .ne 41, 3) := by decide +kernel
theorem dX7_joins_85 : decode cX7_joins 85 = .ok (.iload_n 3, 1) := by decide +kernel
theorem dX7_joins_86 : decode cX7_joins 86 = .ok (.iload_n 2, 1) := by decide +kernel
theorem dX7_joins_87 : decode cX7_joins 87 = .ok (.if_icmp .eq 36, 3) := by decide +kernel
theorem dX7_joins_90 : decode cX7_joins 90 = .ok (.aload_n 0, 1) := by decide +kernel
theorem dX7_joins_91 : decode cX7_joins 91 = .ok (.getfield 96, 3) := by decide +kernel
theorem dX7_joins_94 : decode cX7_joins 94 = .ok (.iload_n 3, 1) := by decide +kernel
theorem dX7_joins_95 : decode cX7_joins 95 = .ok (.ishr, 1) := by decide +kernel
theorem dX7_joins_96 : decode cX7_joins 96 = .ok (.iconst 1, 1) := by decide +kernel
theorem dX7_joins_97 : decode cX7_joins 97 = .ok (.iand, 1) := by decide +kernel
theorem dX7_joins_98 : decode cX7_joins 98 = .ok (.ifCond .ne 25, 3) := by decide +kernel
theorem dX7_joins_101 : decode cX7_joins 101 = .ok (.aload_n 0, 1) := by decide +kernel
theorem dX7_joins_102 : decode cX7_joins 102 = .ok (.dup, 1) := by decide +kernel
theorem dX7_joins_103 : decode cX7_joins 103 = .ok (.getfield 96, 3) := by decide +kernel
theorem dX7_joins_106 : decode cX7_joins 106 = .ok (.iconst 1, 1) := by decide +kernel
theorem dX7_joins_107 : decode cX7_joins 107 = .ok (.iload_n 3, 1) := by decide +kernel
theorem dX7_joins_108 : decode cX7_joins 108 = .ok (.ishl, 1) := by decide +kernel
theorem dX7_joins_109 : decode cX7_joins 109 = .ok (.ior, 1) := by decide +kernel
theorem dX7_joins_110 : decode cX7_joins 110 = .ok (.putfield 96, 3) := by decide +kernel
theorem dX7_joins_113 : decode cX7_joins 113 = .ok (.aload_n 0, 1) := by decide +kernel
theorem dX7_joins_114 : decode cX7_joins 114 = .ok (.getfield 29, 3) := by decide +kernel
theorem dX7_joins_117 : decode cX7_joins 117 = .ok (.iload_n 3, 1) := by decide +kernel
theorem dX7_joins_118 : decode cX7_joins 118 = .ok (.dup2, 1) := by decide +kernel
theorem dX7_joins_119 : decode cX7_joins 119 = .ok (.iaload, 1) := by decide +kernel
theorem dX7_joins_120 : decode cX7_joins 120 = .ok (.iconst 1, 1) := by decide +kernel
theorem dX7_joins_121 : decode cX7_joins 121 = .ok (.iadd, 1) := by decide +kernel
theorem dX7_joins_122 : decode cX7_joins 122 = .ok (.iastore, 1) := by decide +kernel
theorem dX7_joins_123 : decode cX7_joins 123 = .ok (.iinc 3 1, 3) := by decide +kernel
theorem dX7_joins_126 : decode cX7_joins 126 = .ok (.goto (-61), 3) := by decide +kernel
theorem dX7_joins_129 : decode cX7_joins 129 = .ok (.return_, 1) := by decide +kernel
set_option maxRecDepth 20000 in
theorem ggX7_take_X7_isRider : GoodIn wsX7_take wsX7_isRider := goodIn_r _ [12, 13, 14, 15, 11, 16, 33, 34, 35, 36, 37, 38, 39, 40, 41, 42, 43, 44, 45, 46, 47, 48, 49, 50, 51, 52, 53, 54, 55, 56, 57, 58] (by decide +kernel) (by decide +kernel)
set_option maxRecDepth 20000 in
theorem gX7_take_X7_isRider : GoodIn wsX7_take (wsV RX7 103 RX7 yX7_isRider wsX7_isRider) := goodIn_app (goodIn_of _ (by decide +kernel)) ggX7_take_X7_isRider
set_option maxRecDepth 20000 in
theorem ggX7_take_X7_in : GoodIn wsX7_take wsX7_in := goodIn_r _ [16] (by decide +kernel) (by decide +kernel)
set_option maxRecDepth 20000 in
theorem gX7_take_X7_in : GoodIn wsX7_take (va_wsS RX7 82 yX7_in wsX7_in) := goodIn_app (goodIn_of _ (by decide +kernel)) ggX7_take_X7_in
set_option maxRecDepth 20000 in
theorem ggX7_take_X7_placeInLine : GoodIn wsX7_take wsX7_placeInLine := goodIn_r _ [20, 4, 5, 33, 34, 35, 36, 37, 38, 39, 40, 41, 42, 43, 44, 45, 46, 47, 48, 49, 50, 51, 52, 53, 54, 55, 56, 57, 58] (by decide +kernel) (by decide +kernel)
set_option maxRecDepth 20000 in
theorem gX7_take_X7_placeInLine : GoodIn wsX7_take (wsV RX7 99 RX7 yX7_placeInLine wsX7_placeInLine) := goodIn_app (goodIn_of _ (by decide +kernel)) ggX7_take_X7_placeInLine
set_option maxRecDepth 20000 in
theorem ggX7_take_X7_beginGroup : GoodIn wsX7_take wsX7_beginGroup := goodIn_r _ [24, 25, 26, 13, 27, 17, 18, 19, 11, 20, 4, 5, 33, 34, 35, 36, 37, 38, 39, 40, 41, 42, 43, 44, 45, 46, 47, 48, 49, 50, 51, 52, 53, 54, 55, 56, 57, 58] (by decide +kernel) (by decide +kernel)
set_option maxRecDepth 20000 in
theorem gX7_take_X7_beginGroup : GoodIn wsX7_take (wsV RX7 107 RX7 yX7_beginGroup wsX7_beginGroup) := goodIn_app (goodIn_of _ (by decide +kernel)) ggX7_take_X7_beginGroup
set_option maxRecDepth 20000 in
theorem ggX7_take_X7_joins : GoodIn wsX7_take wsX7_joins := goodIn_r _ [31, 25, 13, 27, 26, 32, 33, 34, 35, 36, 37, 38, 39, 40, 41, 42, 43, 44, 45, 46, 47, 48, 49, 50, 51, 52, 53, 54, 55, 56, 57, 58] (by decide +kernel) (by decide +kernel)
set_option maxRecDepth 20000 in
theorem gX7_take_X7_joins : GoodIn wsX7_take (wsV RX7 110 RX7 yX7_joins wsX7_joins) := goodIn_app (goodIn_of _ (by decide +kernel)) ggX7_take_X7_joins
theorem dX7_take_0 : decode cX7_take 0 = .ok (.aload_n 0, 1) := by decide +kernel
theorem dX7_take_1 : decode cX7_take 1 = .ok (.iload_n 1, 1) := by decide +kernel
theorem dX7_take_2 : decode cX7_take 2 = .ok (.invokevirtual 103, 3) := by decide +kernel
theorem dX7_take_5 : decode cX7_take 5 = .ok (.ifCond .eq 13, 3) := by decide +kernel
theorem dX7_take_8 : decode cX7_take 8 = .ok (.iload_n 2, 1) := by decide +kernel
theorem dX7_take_9 : decode cX7_take 9 = .ok (.iconst 0, 1) := by decide +kernel
theorem dX7_take_10 : decode cX7_take 10 = .ok (.bipush 99, 2) := by decide +kernel
theorem dX7_take_12 : decode cX7_take 12 = .ok (.invokestatic 82, 3) := by decide +kernel
theorem dX7_take_15 : decode cX7_take 15 = .ok (.ifCond .ne 5, 3) := by decide +kernel
theorem dX7_take_18 : decode cX7_take 18 = .ok (.iconst (-1), 1) := by decide +kernel
theorem dX7_take_19 : decode cX7_take 19 = .ok (.ireturn, 1) := by decide +kernel
theorem dX7_take_20 : decode cX7_take 20 = .ok (.aload_n 0, 1) := by decide +kernel
theorem dX7_take_21 : decode cX7_take 21 = .ok (.iload_n 1, 1) := by decide +kernel
theorem dX7_take_22 : decode cX7_take 22 = .ok (.invokevirtual 99, 3) := by decide +kernel
theorem dX7_take_25 : decode cX7_take 25 = .ok (.istore_n 3, 1) := by decide +kernel
theorem dX7_take_26 : decode cX7_take 26 = .ok (.iload_n 3, 1) := by decide +kernel
theorem dX7_take_27 : decode cX7_take 27 = .ok (.ifCond .ge 6, 3) := by decide +kernel
theorem dX7_take_30 : decode cX7_take 30 = .ok (.bipush (-3), 2) := by decide +kernel
theorem dX7_take_32 : decode cX7_take 32 = .ok (.ireturn, 1) := by decide +kernel
theorem dX7_take_33 : decode cX7_take 33 = .ok (.aload_n 0, 1) := by decide +kernel
theorem dX7_take_34 : decode cX7_take 34 = .ok (.getfield 86, 3) := by decide +kernel
theorem dX7_take_37 : decode cX7_take 37 = .ok (.bipush 30, 2) := by decide +kernel
theorem dX7_take_39 : decode cX7_take 39 = .ok (.if_icmp .ne 6, 3) := by decide +kernel
theorem dX7_take_42 : decode cX7_take 42 = .ok (.bipush (-2), 2) := by decide +kernel
theorem dX7_take_44 : decode cX7_take 44 = .ok (.ireturn, 1) := by decide +kernel
theorem dX7_take_45 : decode cX7_take 45 = .ok (.aload_n 0, 1) := by decide +kernel
theorem dX7_take_46 : decode cX7_take 46 = .ok (.getfield 89, 3) := by decide +kernel
theorem dX7_take_49 : decode cX7_take 49 = .ok (.ifCond .eq 18, 3) := by decide +kernel
theorem dX7_take_52 : decode cX7_take 52 = .ok (.aload_n 0, 1) := by decide +kernel
theorem dX7_take_53 : decode cX7_take 53 = .ok (.getfield 17, 3) := by decide +kernel
theorem dX7_take_56 : decode cX7_take 56 = .ok (.aload_n 0, 1) := by decide +kernel
theorem dX7_take_57 : decode cX7_take 57 = .ok (.getfield 86, 3) := by decide +kernel
theorem dX7_take_60 : decode cX7_take 60 = .ok (.iconst 1, 1) := by decide +kernel
theorem dX7_take_61 : decode cX7_take 61 = .ok (.isub, 1) := by decide +kernel
theorem dX7_take_62 : decode cX7_take 62 = .ok (.iaload, 1) := by decide +kernel
theorem dX7_take_63 : decode cX7_take 63 = .ok (.iload_n 2, 1) := by decide +kernel
theorem dX7_take_64 : decode cX7_take 64 = .ok (.if_icmp .eq 7, 3) := by decide +kernel
theorem dX7_take_67 : decode cX7_take 67 = .ok (.aload_n 0, 1) := by decide +kernel
theorem dX7_take_68 : decode cX7_take 68 = .ok (.invokevirtual 107, 3) := by decide +kernel
theorem dX7_take_71 : decode cX7_take 71 = .ok (.aload_n 0, 1) := by decide +kernel
theorem dX7_take_72 : decode cX7_take 72 = .ok (.iconst 1, 1) := by decide +kernel
theorem dX7_take_73 : decode cX7_take 73 = .ok (.putfield 89, 3) := by decide +kernel
theorem dX7_take_76 : decode cX7_take 76 = .ok (.aload_n 0, 1) := by decide +kernel
theorem dX7_take_77 : decode cX7_take 77 = .ok (.iload_n 1, 1) := by decide +kernel
theorem dX7_take_78 : decode cX7_take 78 = .ok (.invokevirtual 110, 3) := by decide +kernel
theorem dX7_take_81 : decode cX7_take 81 = .ok (.aload_n 0, 1) := by decide +kernel
theorem dX7_take_82 : decode cX7_take 82 = .ok (.dup, 1) := by decide +kernel
theorem dX7_take_83 : decode cX7_take 83 = .ok (.getfield 23, 3) := by decide +kernel
theorem dX7_take_86 : decode cX7_take 86 = .ok (.iconst 1, 1) := by decide +kernel
theorem dX7_take_87 : decode cX7_take 87 = .ok (.isub, 1) := by decide +kernel
theorem dX7_take_88 : decode cX7_take 88 = .ok (.putfield 23, 3) := by decide +kernel
theorem dX7_take_91 : decode cX7_take 91 = .ok (.iload_n 3, 1) := by decide +kernel
theorem dX7_take_92 : decode cX7_take 92 = .ok (.istore 4, 2) := by decide +kernel
theorem dX7_take_94 : decode cX7_take 94 = .ok (.iload 4, 2) := by decide +kernel
theorem dX7_take_96 : decode cX7_take 96 = .ok (.aload_n 0, 1) := by decide +kernel
theorem dX7_take_97 : decode cX7_take 97 = .ok (.getfield 23, 3) := by decide +kernel
theorem dX7_take_100 : decode cX7_take 100 = .ok (.if_icmp .ge 25, 3) := by decide +kernel
theorem dX7_take_103 : decode cX7_take 103 = .ok (.aload_n 0, 1) := by decide +kernel
theorem dX7_take_104 : decode cX7_take 104 = .ok (.getfield 26, 3) := by decide +kernel
theorem dX7_take_107 : decode cX7_take 107 = .ok (.iload 4, 2) := by decide +kernel
theorem dX7_take_109 : decode cX7_take 109 = .ok (.aload_n 0, 1) := by decide +kernel
theorem dX7_take_110 : decode cX7_take 110 = .ok (.getfield 26, 3) := by decide +kernel
theorem dX7_take_113 : decode cX7_take 113 = .ok (.iload 4, 2) := by decide +kernel
theorem dX7_take_115 : decode cX7_take 115 = .ok (.iconst 1, 1) := by decide +kernel
theorem dX7_take_116 : decode cX7_take 116 = .ok (.iadd, 1) := by decide +kernel
theorem dX7_take_117 : decode cX7_take 117 = .ok (.iaload, 1) := by decide +kernel
theorem dX7_take_118 : decode cX7_take 118 = .ok (.iastore, 1) := by decide +kernel
theorem dX7_take_119 : decode cX7_take 119 = .ok (.iinc 4 1, 3) := by decide +kernel
theorem dX7_take_122 : decode cX7_take 122 = .ok (.goto (-28), 3) := by decide +kernel
theorem dX7_take_125 : decode cX7_take 125 = .ok (.aload_n 0, 1) := by decide +kernel
theorem dX7_take_126 : decode cX7_take 126 = .ok (.getfield 13, 3) := by decide +kernel
theorem dX7_take_129 : decode cX7_take 129 = .ok (.aload_n 0, 1) := by decide +kernel
theorem dX7_take_130 : decode cX7_take 130 = .ok (.getfield 86, 3) := by decide +kernel
theorem dX7_take_133 : decode cX7_take 133 = .ok (.iload_n 1, 1) := by decide +kernel
theorem dX7_take_134 : decode cX7_take 134 = .ok (.iastore, 1) := by decide +kernel
theorem dX7_take_135 : decode cX7_take 135 = .ok (.aload_n 0, 1) := by decide +kernel
theorem dX7_take_136 : decode cX7_take 136 = .ok (.getfield 17, 3) := by decide +kernel
theorem dX7_take_139 : decode cX7_take 139 = .ok (.aload_n 0, 1) := by decide +kernel
theorem dX7_take_140 : decode cX7_take 140 = .ok (.getfield 86, 3) := by decide +kernel
theorem dX7_take_143 : decode cX7_take 143 = .ok (.iload_n 2, 1) := by decide +kernel
theorem dX7_take_144 : decode cX7_take 144 = .ok (.iastore, 1) := by decide +kernel
theorem dX7_take_145 : decode cX7_take 145 = .ok (.iconst 0, 1) := by decide +kernel
theorem dX7_take_146 : decode cX7_take 146 = .ok (.istore 4, 2) := by decide +kernel
theorem dX7_take_148 : decode cX7_take 148 = .ok (.iload 4, 2) := by decide +kernel
theorem dX7_take_150 : decode cX7_take 150 = .ok (.iconst 5, 1) := by decide +kernel
theorem dX7_take_151 : decode cX7_take 151 = .ok (.if_icmp .ge 24, 3) := by decide +kernel
theorem dX7_take_154 : decode cX7_take 154 = .ok (.aload_n 0, 1) := by decide +kernel
theorem dX7_take_155 : decode cX7_take 155 = .ok (.getfield 20, 3) := by decide +kernel
theorem dX7_take_158 : decode cX7_take 158 = .ok (.iconst 5, 1) := by decide +kernel
theorem dX7_take_159 : decode cX7_take 159 = .ok (.aload_n 0, 1) := by decide +kernel
theorem dX7_take_160 : decode cX7_take 160 = .ok (.getfield 86, 3) := by decide +kernel
theorem dX7_take_163 : decode cX7_take 163 = .ok (.imul, 1) := by decide +kernel
theorem dX7_take_164 : decode cX7_take 164 = .ok (.iload 4, 2) := by decide +kernel
theorem dX7_take_166 : decode cX7_take 166 = .ok (.iadd, 1) := by decide +kernel
theorem dX7_take_167 : decode cX7_take 167 = .ok (.iconst (-1), 1) := by decide +kernel
theorem dX7_take_168 : decode cX7_take 168 = .ok (.iastore, 1) := by decide +kernel
theorem dX7_take_169 : decode cX7_take 169 = .ok (.iinc 4 1, 3) := by decide +kernel
theorem dX7_take_172 : decode cX7_take 172 = .ok (.goto (-24), 3) := by decide +kernel
theorem dX7_take_175 : decode cX7_take 175 = .ok (.aload_n 0, 1) := by decide +kernel
theorem dX7_take_176 : decode cX7_take 176 = .ok (.dup, 1) := by decide +kernel
theorem dX7_take_177 : decode cX7_take 177 = .ok (.getfield 86, 3) := by decide +kernel
theorem dX7_take_180 : decode cX7_take 180 = .ok (.iconst 1, 1) := by decide +kernel
theorem dX7_take_181 : decode cX7_take 181 = .ok (.iadd, 1) := by decide +kernel
theorem dX7_take_182 : decode cX7_take 182 = .ok (.putfield 86, 3) := by decide +kernel
theorem dX7_take_185 : decode cX7_take 185 = .ok (.aload_n 0, 1) := by decide +kernel
theorem dX7_take_186 : decode cX7_take 186 = .ok (.getfield 86, 3) := by decide +kernel
theorem dX7_take_189 : decode cX7_take 189 = .ok (.iconst 1, 1) := by decide +kernel
theorem dX7_take_190 : decode cX7_take 190 = .ok (.isub, 1) := by decide +kernel
theorem dX7_take_191 : decode cX7_take 191 = .ok (.ireturn, 1) := by decide +kernel
set_option maxRecDepth 20000 in
theorem ggX7_back_X7_isRider : GoodIn wsX7_back wsX7_isRider := goodIn_r _ [7, 8, 9, 10, 6, 11, 16, 17, 18, 19, 20, 21, 22, 23, 24, 25, 26, 27, 28, 29, 30, 31, 32, 33, 34, 35, 36, 37, 38, 39, 40, 41] (by decide +kernel) (by decide +kernel)
set_option maxRecDepth 20000 in
theorem gX7_back_X7_isRider : GoodIn wsX7_back (wsV RX7 103 RX7 yX7_isRider wsX7_isRider) := goodIn_app (goodIn_of _ (by decide +kernel)) ggX7_back_X7_isRider
set_option maxRecDepth 20000 in
theorem ggX7_back_X7_placeInLine : GoodIn wsX7_back wsX7_placeInLine := goodIn_r _ [15, 2, 1, 16, 17, 18, 19, 20, 21, 22, 23, 24, 25, 26, 27, 28, 29, 30, 31, 32, 33, 34, 35, 36, 37, 38, 39, 40, 41] (by decide +kernel) (by decide +kernel)
set_option maxRecDepth 20000 in
theorem gX7_back_X7_placeInLine : GoodIn wsX7_back (wsV RX7 99 RX7 yX7_placeInLine wsX7_placeInLine) := goodIn_app (goodIn_of _ (by decide +kernel)) ggX7_back_X7_placeInLine
theorem dX7_back_0 : decode cX7_back 0 = .ok (.aload_n 0, 1) := by decide +kernel
theorem dX7_back_1 : decode cX7_back 1 = .ok (.iload_n 1, 1) := by decide +kernel
theorem dX7_back_2 : decode cX7_back 2 = .ok (.invokevirtual 103, 3) := by decide +kernel
theorem dX7_back_5 : decode cX7_back 5 = .ok (.ifCond .ne 5, 3) := by decide +kernel
theorem dX7_back_8 : decode cX7_back 8 = .ok (.iconst (-1), 1) := by decide +kernel
theorem dX7_back_9 : decode cX7_back 9 = .ok (.ireturn, 1) := by decide +kernel
theorem dX7_back_10 : decode cX7_back 10 = .ok (.aload_n 0, 1) := by decide +kernel
theorem dX7_back_11 : decode cX7_back 11 = .ok (.iload_n 1, 1) := by decide +kernel
theorem dX7_back_12 : decode cX7_back 12 = .ok (.invokevirtual 99, 3) := by decide +kernel
theorem dX7_back_15 : decode cX7_back 15 = .ok (.ifCond .lt 6, 3) := by decide +kernel
theorem dX7_back_18 : decode cX7_back 18 = .ok (.bipush (-3), 2) := by decide +kernel
theorem dX7_back_20 : decode cX7_back 20 = .ok (.ireturn, 1) := by decide +kernel
theorem dX7_back_21 : decode cX7_back 21 = .ok (.aload_n 0, 1) := by decide +kernel
theorem dX7_back_22 : decode cX7_back 22 = .ok (.getfield 26, 3) := by decide +kernel
theorem dX7_back_25 : decode cX7_back 25 = .ok (.aload_n 0, 1) := by decide +kernel
theorem dX7_back_26 : decode cX7_back 26 = .ok (.getfield 23, 3) := by decide +kernel
theorem dX7_back_29 : decode cX7_back 29 = .ok (.iload_n 1, 1) := by decide +kernel
theorem dX7_back_30 : decode cX7_back 30 = .ok (.iastore, 1) := by decide +kernel
theorem dX7_back_31 : decode cX7_back 31 = .ok (.aload_n 0, 1) := by decide +kernel
theorem dX7_back_32 : decode cX7_back 32 = .ok (.dup, 1) := by decide +kernel
theorem dX7_back_33 : decode cX7_back 33 = .ok (.getfield 23, 3) := by decide +kernel
theorem dX7_back_36 : decode cX7_back 36 = .ok (.iconst 1, 1) := by decide +kernel
theorem dX7_back_37 : decode cX7_back 37 = .ok (.iadd, 1) := by decide +kernel
theorem dX7_back_38 : decode cX7_back 38 = .ok (.putfield 23, 3) := by decide +kernel
theorem dX7_back_41 : decode cX7_back 41 = .ok (.aload_n 0, 1) := by decide +kernel
theorem dX7_back_42 : decode cX7_back 42 = .ok (.getfield 23, 3) := by decide +kernel
theorem dX7_back_45 : decode cX7_back 45 = .ok (.ireturn, 1) := by decide +kernel
theorem dX7_letGo_0 : decode cX7_letGo 0 = .ok (.aload_n 0, 1) := by decide +kernel
theorem dX7_letGo_1 : decode cX7_letGo 1 = .ok (.getfield 89, 3) := by decide +kernel
theorem dX7_letGo_4 : decode cX7_letGo 4 = .ok (.istore_n 1, 1) := by decide +kernel
theorem dX7_letGo_5 : decode cX7_letGo 5 = .ok (.aload_n 0, 1) := by decide +kernel
theorem dX7_letGo_6 : decode cX7_letGo 6 = .ok (.iconst 0, 1) := by decide +kernel
theorem dX7_letGo_7 : decode cX7_letGo 7 = .ok (.putfield 89, 3) := by decide +kernel
theorem dX7_letGo_10 : decode cX7_letGo 10 = .ok (.iload_n 1, 1) := by decide +kernel
theorem dX7_letGo_11 : decode cX7_letGo 11 = .ok (.ifCond .eq 7, 3) := by decide +kernel
theorem dX7_letGo_14 : decode cX7_letGo 14 = .ok (.iconst 1, 1) := by decide +kernel
theorem dX7_letGo_15 : decode cX7_letGo 15 = .ok (.goto 4, 3) := by decide +kernel
theorem dX7_letGo_18 : decode cX7_letGo 18 = .ok (.iconst 0, 1) := by decide +kernel
theorem dX7_letGo_19 : decode cX7_letGo 19 = .ok (.ireturn, 1) := by decide +kernel
set_option maxRecDepth 20000 in
theorem ggX7_mark_X7_isRide : GoodIn wsX7_mark wsX7_isRide := goodIn_r _ [6, 7, 8, 9, 5, 10, 11, 12, 13, 14, 15, 16, 17, 18, 19, 20, 21, 22, 23, 24, 25, 26, 27, 28, 29, 30, 31, 32, 33, 34, 35, 36] (by decide +kernel) (by decide +kernel)
set_option maxRecDepth 20000 in
theorem gX7_mark_X7_isRide : GoodIn wsX7_mark (wsV RX7 113 RX7 yX7_isRide wsX7_isRide) := goodIn_app (goodIn_of _ (by decide +kernel)) ggX7_mark_X7_isRide
set_option maxRecDepth 20000 in
theorem ggX7_mark_X7_in : GoodIn wsX7_mark wsX7_in := goodIn_r _ [10] (by decide +kernel) (by decide +kernel)
set_option maxRecDepth 20000 in
theorem gX7_mark_X7_in : GoodIn wsX7_mark (va_wsS RX7 82 yX7_in wsX7_in) := goodIn_app (goodIn_of _ (by decide +kernel)) ggX7_mark_X7_in
theorem dX7_mark_0 : decode cX7_mark 0 = .ok (.aload_n 0, 1) := by decide +kernel
theorem dX7_mark_1 : decode cX7_mark 1 = .ok (.iload_n 1, 1) := by decide +kernel
theorem dX7_mark_2 : decode cX7_mark 2 = .ok (.invokevirtual 113, 3) := by decide +kernel
theorem dX7_mark_5 : decode cX7_mark 5 = .ok (.ifCond .eq 22, 3) := by decide +kernel
theorem dX7_mark_8 : decode cX7_mark 8 = .ok (.iload_n 2, 1) := by decide +kernel
theorem dX7_mark_9 : decode cX7_mark 9 = .ok (.iconst 0, 1) := by decide +kernel
theorem dX7_mark_10 : decode cX7_mark 10 = .ok (.iconst 4, 1) := by decide +kernel
theorem dX7_mark_11 : decode cX7_mark 11 = .ok (.invokestatic 82, 3) := by decide +kernel
theorem dX7_mark_14 : decode cX7_mark 14 = .ok (.ifCond .eq 13, 3) := by decide +kernel
theorem dX7_mark_17 : decode cX7_mark 17 = .ok (.iload_n 3, 1) := by decide +kernel
theorem dX7_mark_18 : decode cX7_mark 18 = .ok (.iconst (-1), 1) := by decide +kernel
theorem dX7_mark_19 : decode cX7_mark 19 = .ok (.bipush 100, 2) := by decide +kernel
theorem dX7_mark_21 : decode cX7_mark 21 = .ok (.invokestatic 82, 3) := by decide +kernel
theorem dX7_mark_24 : decode cX7_mark 24 = .ok (.ifCond .ne 6, 3) := by decide +kernel
theorem dX7_mark_27 : decode cX7_mark 27 = .ok (.bipush (-9), 2) := by decide +kernel
theorem dX7_mark_29 : decode cX7_mark 29 = .ok (.ireturn, 1) := by decide +kernel
theorem dX7_mark_30 : decode cX7_mark 30 = .ok (.aload_n 0, 1) := by decide +kernel
theorem dX7_mark_31 : decode cX7_mark 31 = .ok (.getfield 20, 3) := by decide +kernel
theorem dX7_mark_34 : decode cX7_mark 34 = .ok (.iconst 5, 1) := by decide +kernel
theorem dX7_mark_35 : decode cX7_mark 35 = .ok (.iload_n 1, 1) := by decide +kernel
theorem dX7_mark_36 : decode cX7_mark 36 = .ok (.imul, 1) := by decide +kernel
theorem dX7_mark_37 : decode cX7_mark 37 = .ok (.iload_n 2, 1) := by decide +kernel
theorem dX7_mark_38 : decode cX7_mark 38 = .ok (.iadd, 1) := by decide +kernel
theorem dX7_mark_39 : decode cX7_mark 39 = .ok (.iaload, 1) := by decide +kernel
theorem dX7_mark_40 : decode cX7_mark 40 = .ok (.istore 4, 2) := by decide +kernel
theorem dX7_mark_42 : decode cX7_mark 42 = .ok (.aload_n 0, 1) := by decide +kernel
theorem dX7_mark_43 : decode cX7_mark 43 = .ok (.getfield 20, 3) := by decide +kernel
theorem dX7_mark_46 : decode cX7_mark 46 = .ok (.iconst 5, 1) := by decide +kernel
theorem dX7_mark_47 : decode cX7_mark 47 = .ok (.iload_n 1, 1) := by decide +kernel
theorem dX7_mark_48 : decode cX7_mark 48 = .ok (.imul, 1) := by decide +kernel
theorem dX7_mark_49 : decode cX7_mark 49 = .ok (.iload_n 2, 1) := by decide +kernel
theorem dX7_mark_50 : decode cX7_mark 50 = .ok (.iadd, 1) := by decide +kernel
theorem dX7_mark_51 : decode cX7_mark 51 = .ok (.iload_n 3, 1) := by decide +kernel
theorem dX7_mark_52 : decode cX7_mark 52 = .ok (.iastore, 1) := by decide +kernel
theorem dX7_mark_53 : decode cX7_mark 53 = .ok (.iload 4, 2) := by decide +kernel
theorem dX7_mark_55 : decode cX7_mark 55 = .ok (.ireturn, 1) := by decide +kernel
theorem dX7_marksOf_0 : decode cX7_marksOf 0 = .ok (.iconst 0, 1) := by decide +kernel
theorem dX7_marksOf_1 : decode cX7_marksOf 1 = .ok (.istore_n 2, 1) := by decide +kernel
theorem dX7_marksOf_2 : decode cX7_marksOf 2 = .ok (.iconst 0, 1) := by decide +kernel
theorem dX7_marksOf_3 : decode cX7_marksOf 3 = .ok (.istore_n 3, 1) := by decide +kernel
theorem dX7_marksOf_4 : decode cX7_marksOf 4 = .ok (.iload_n 3, 1) := by decide +kernel
theorem dX7_marksOf_5 : decode cX7_marksOf 5 = .ok (.iconst 5, 1) := by decide +kernel
theorem dX7_marksOf_6 : decode cX7_marksOf 6 = .ok (.if_icmp .ge 30, 3) := by decide +kernel
theorem dX7_marksOf_9 : decode cX7_marksOf 9 = .ok (.iload_n 2, 1) := by decide +kernel
theorem dX7_marksOf_10 : decode cX7_marksOf 10 = .ok (.aload_n 0, 1) := by decide +kernel
theorem dX7_marksOf_11 : decode cX7_marksOf 11 = .ok (.getfield 20, 3) := by decide +kernel
theorem dX7_marksOf_14 : decode cX7_marksOf 14 = .ok (.iconst 5, 1) := by decide +kernel
theorem dX7_marksOf_15 : decode cX7_marksOf 15 = .ok (.iload_n 1, 1) := by decide +kernel
theorem dX7_marksOf_16 : decode cX7_marksOf 16 = .ok (.imul, 1) := by decide +kernel
theorem dX7_marksOf_17 : decode cX7_marksOf 17 = .ok (.iload_n 3, 1) := by decide +kernel
theorem dX7_marksOf_18 : decode cX7_marksOf 18 = .ok (.iadd, 1) := by decide +kernel
theorem dX7_marksOf_19 : decode cX7_marksOf 19 = .ok (.iaload, 1) := by decide +kernel
theorem dX7_marksOf_20 : decode cX7_marksOf 20 = .ok (.ifCond .lt 7, 3) := by decide +kernel
theorem dX7_marksOf_23 : decode cX7_marksOf 23 = .ok (.iconst 1, 1) := by decide +kernel
theorem dX7_marksOf_24 : decode cX7_marksOf 24 = .ok (.goto 4, 3) := by decide +kernel
theorem dX7_marksOf_27 : decode cX7_marksOf 27 = .ok (.iconst 0, 1) := by decide +kernel
theorem dX7_marksOf_28 : decode cX7_marksOf 28 = .ok (.iadd, 1) := by decide +kernel
theorem dX7_marksOf_29 : decode cX7_marksOf 29 = .ok (.istore_n 2, 1) := by decide +kernel
theorem dX7_marksOf_30 : decode cX7_marksOf 30 = .ok (.iinc 3 1, 3) := by decide +kernel
theorem dX7_marksOf_33 : decode cX7_marksOf 33 = .ok (.goto (-29), 3) := by decide +kernel
theorem dX7_marksOf_36 : decode cX7_marksOf 36 = .ok (.iload_n 2, 1) := by decide +kernel
theorem dX7_marksOf_37 : decode cX7_marksOf 37 = .ok (.ireturn, 1) := by decide +kernel
theorem dX7_scoreOf_0 : decode cX7_scoreOf 0 = .ok (.iconst 0, 1) := by decide +kernel
theorem dX7_scoreOf_1 : decode cX7_scoreOf 1 = .ok (.istore_n 2, 1) := by decide +kernel
theorem dX7_scoreOf_2 : decode cX7_scoreOf 2 = .ok (.iconst 0, 1) := by decide +kernel
theorem dX7_scoreOf_3 : decode cX7_scoreOf 3 = .ok (.istore_n 3, 1) := by decide +kernel
theorem dX7_scoreOf_4 : decode cX7_scoreOf 4 = .ok (.bipush 101, 2) := by decide +kernel
theorem dX7_scoreOf_6 : decode cX7_scoreOf 6 = .ok (.istore 4, 2) := by decide +kernel
theorem dX7_scoreOf_8 : decode cX7_scoreOf 8 = .ok (.iconst (-1), 1) := by decide +kernel
theorem dX7_scoreOf_9 : decode cX7_scoreOf 9 = .ok (.istore 5, 2) := by decide +kernel
theorem dX7_scoreOf_11 : decode cX7_scoreOf 11 = .ok (.iconst 0, 1) := by decide +kernel
theorem dX7_scoreOf_12 : decode cX7_scoreOf 12 = .ok (.istore 6, 2) := by decide +kernel
theorem dX7_scoreOf_14 : decode cX7_scoreOf 14 = .ok (.iload 6, 2) := by decide +kernel
theorem dX7_scoreOf_16 : decode cX7_scoreOf 16 = .ok (.iconst 5, 1) := by decide +kernel
theorem dX7_scoreOf_17 : decode cX7_scoreOf 17 = .ok (.if_icmp .ge 67, 3) := by decide +kernel
theorem dX7_scoreOf_20 : decode cX7_scoreOf 20 = .ok (.aload_n 0, 1) := by decide +kernel
theorem dX7_scoreOf_21 : decode cX7_scoreOf 21 = .ok (.getfield 20, 3) := by decide +kernel
theorem dX7_scoreOf_24 : decode cX7_scoreOf 24 = .ok (.iconst 5, 1) := by decide +kernel
theorem dX7_scoreOf_25 : decode cX7_scoreOf 25 = .ok (.iload_n 1, 1) := by decide +kernel
theorem dX7_scoreOf_26 : decode cX7_scoreOf 26 = .ok (.imul, 1) := by decide +kernel
theorem dX7_scoreOf_27 : decode cX7_scoreOf 27 = .ok (.iload 6, 2) := by decide +kernel
theorem dX7_scoreOf_29 : decode cX7_scoreOf 29 = .ok (.iadd, 1) := by decide +kernel
theorem dX7_scoreOf_30 : decode cX7_scoreOf 30 = .ok (.iaload, 1) := by decide +kernel
theorem dX7_scoreOf_31 : decode cX7_scoreOf 31 = .ok (.istore 7, 2) := by decide +kernel
theorem dX7_scoreOf_33 : decode cX7_scoreOf 33 = .ok (.iload 7, 2) := by decide +kernel
theorem dX7_scoreOf_35 : decode cX7_scoreOf 35 = .ok (.ifCond .lt 43, 3) := by decide +kernel
theorem dX7_scoreOf_38 : decode cX7_scoreOf 38 = .ok (.iinc 2 1, 3) := by decide +kernel
theorem dX7_scoreOf_41 : decode cX7_scoreOf 41 = .ok (.iload_n 3, 1) := by decide +kernel
theorem dX7_scoreOf_42 : decode cX7_scoreOf 42 = .ok (.iload 7, 2) := by decide +kernel
theorem dX7_scoreOf_44 : decode cX7_scoreOf 44 = .ok (.iadd, 1) := by decide +kernel
theorem dX7_scoreOf_45 : decode cX7_scoreOf 45 = .ok (.istore_n 3, 1) := by decide +kernel
theorem dX7_scoreOf_46 : decode cX7_scoreOf 46 = .ok (.iload 7, 2) := by decide +kernel
theorem dX7_scoreOf_48 : decode cX7_scoreOf 48 = .ok (.iload 4, 2) := by decide +kernel
theorem dX7_scoreOf_50 : decode cX7_scoreOf 50 = .ok (.if_icmp .ge 8, 3) := by decide +kernel
theorem dX7_scoreOf_53 : decode cX7_scoreOf 53 = .ok (.iload 7, 2) := by decide +kernel
theorem dX7_scoreOf_55 : decode cX7_scoreOf 55 = .ok (.goto 5, 3) := by decide +kernel
theorem dX7_scoreOf_58 : decode cX7_scoreOf 58 = .ok (.iload 4, 2) := by decide +kernel
theorem dX7_scoreOf_60 : decode cX7_scoreOf 60 = .ok (.istore 4, 2) := by decide +kernel
theorem dX7_scoreOf_62 : decode cX7_scoreOf 62 = .ok (.iload 7, 2) := by decide +kernel
theorem dX7_scoreOf_64 : decode cX7_scoreOf 64 = .ok (.iload 5, 2) := by decide +kernel
theorem dX7_scoreOf_66 : decode cX7_scoreOf 66 = .ok (.if_icmp .le 8, 3) := by decide +kernel
theorem dX7_scoreOf_69 : decode cX7_scoreOf 69 = .ok (.iload 7, 2) := by decide +kernel
theorem dX7_scoreOf_71 : decode cX7_scoreOf 71 = .ok (.goto 5, 3) := by decide +kernel
theorem dX7_scoreOf_74 : decode cX7_scoreOf 74 = .ok (.iload 5, 2) := by decide +kernel
theorem dX7_scoreOf_76 : decode cX7_scoreOf 76 = .ok (.istore 5, 2) := by decide +kernel
theorem dX7_scoreOf_78 : decode cX7_scoreOf 78 = .ok (.iinc 6 1, 3) := by decide +kernel
theorem dX7_scoreOf_81 : decode cX7_scoreOf 81 = .ok (.goto (-67), 3) := by decide +kernel
theorem dX7_scoreOf_84 : decode cX7_scoreOf 84 = .ok (.iload_n 2, 1) := by decide +kernel
theorem dX7_scoreOf_85 : decode cX7_scoreOf 85 = .ok (.iconst 3, 1) := by decide +kernel
theorem dX7_scoreOf_86 : decode cX7_scoreOf 86 = .ok (.if_icmp .le 17, 3) := by decide +kernel
theorem dX7_scoreOf_89 : decode cX7_scoreOf 89 = .ok (.iconst 3, 1) := by decide +kernel
theorem dX7_scoreOf_90 : decode cX7_scoreOf 90 = .ok (.iload_n 3, 1) := by decide +kernel
theorem dX7_scoreOf_91 : decode cX7_scoreOf 91 = .ok (.iload 4, 2) := by decide +kernel
theorem dX7_scoreOf_93 : decode cX7_scoreOf 93 = .ok (.isub, 1) := by decide +kernel
theorem dX7_scoreOf_94 : decode cX7_scoreOf 94 = .ok (.iload 5, 2) := by decide +kernel
theorem dX7_scoreOf_96 : decode cX7_scoreOf 96 = .ok (.isub, 1) := by decide +kernel
theorem dX7_scoreOf_97 : decode cX7_scoreOf 97 = .ok (.imul, 1) := by decide +kernel
theorem dX7_scoreOf_98 : decode cX7_scoreOf 98 = .ok (.iload_n 2, 1) := by decide +kernel
theorem dX7_scoreOf_99 : decode cX7_scoreOf 99 = .ok (.iconst 2, 1) := by decide +kernel
theorem dX7_scoreOf_100 : decode cX7_scoreOf 100 = .ok (.isub, 1) := by decide +kernel
theorem dX7_scoreOf_101 : decode cX7_scoreOf 101 = .ok (.idiv, 1) := by decide +kernel
theorem dX7_scoreOf_102 : decode cX7_scoreOf 102 = .ok (.ireturn, 1) := by decide +kernel
theorem dX7_scoreOf_103 : decode cX7_scoreOf 103 = .ok (.iload_n 2, 1) := by decide +kernel
theorem dX7_scoreOf_104 : decode cX7_scoreOf 104 = .ok (.ifCond .ne 7, 3) := by decide +kernel
theorem dX7_scoreOf_107 : decode cX7_scoreOf 107 = .ok (.iconst 0, 1) := by decide +kernel
theorem dX7_scoreOf_108 : decode cX7_scoreOf 108 = .ok (.goto 8, 3) := by decide +kernel
theorem dX7_scoreOf_111 : decode cX7_scoreOf 111 = .ok (.iconst 3, 1) := by decide +kernel
theorem dX7_scoreOf_112 : decode cX7_scoreOf 112 = .ok (.iload_n 3, 1) := by decide +kernel
theorem dX7_scoreOf_113 : decode cX7_scoreOf 113 = .ok (.imul, 1) := by decide +kernel
theorem dX7_scoreOf_114 : decode cX7_scoreOf 114 = .ok (.iload_n 2, 1) := by decide +kernel
theorem dX7_scoreOf_115 : decode cX7_scoreOf 115 = .ok (.idiv, 1) := by decide +kernel
theorem dX7_scoreOf_116 : decode cX7_scoreOf 116 = .ok (.ireturn, 1) := by decide +kernel
set_option maxRecDepth 20000 in
theorem ggX7_of_X7_isRide : GoodIn wsX7_of wsX7_isRide := goodIn_r _ [7, 8, 9, 10, 6, 11, 21, 22, 23, 24, 25, 26, 27, 28, 29, 30, 31, 32, 33, 34, 35, 36, 37, 38, 39, 40, 41, 42, 43, 44, 45, 46] (by decide +kernel) (by decide +kernel)
set_option maxRecDepth 20000 in
theorem gX7_of_X7_isRide : GoodIn wsX7_of (wsV RX7 113 RX7 yX7_isRide wsX7_isRide) := goodIn_app (goodIn_of _ (by decide +kernel)) ggX7_of_X7_isRide
set_option maxRecDepth 20000 in
theorem ggX7_of_X7_marksOf : GoodIn wsX7_of wsX7_marksOf := goodIn_r _ [15, 16, 21, 22, 23, 24, 25, 26, 27, 28, 29, 30, 31, 32, 33, 34, 35, 36, 37, 38, 39, 40, 41, 42, 43, 44, 45, 46] (by decide +kernel) (by decide +kernel)
set_option maxRecDepth 20000 in
theorem gX7_of_X7_marksOf : GoodIn wsX7_of (wsV RX7 116 RX7 yX7_marksOf wsX7_marksOf) := goodIn_app (goodIn_of _ (by decide +kernel)) ggX7_of_X7_marksOf
set_option maxRecDepth 20000 in
theorem ggX7_of_X7_scoreOf : GoodIn wsX7_of wsX7_scoreOf := goodIn_r _ [20, 16, 21, 22, 23, 24, 25, 26, 27, 28, 29, 30, 31, 32, 33, 34, 35, 36, 37, 38, 39, 40, 41, 42, 43, 44, 45, 46] (by decide +kernel) (by decide +kernel)
set_option maxRecDepth 20000 in
theorem gX7_of_X7_scoreOf : GoodIn wsX7_of (wsV RX7 119 RX7 yX7_scoreOf wsX7_scoreOf) := goodIn_app (goodIn_of _ (by decide +kernel)) ggX7_of_X7_scoreOf
theorem dX7_of_0 : decode cX7_of 0 = .ok (.aload_n 0, 1) := by decide +kernel
theorem dX7_of_1 : decode cX7_of 1 = .ok (.iload_n 1, 1) := by decide +kernel
theorem dX7_of_2 : decode cX7_of 2 = .ok (.invokevirtual 113, 3) := by decide +kernel
theorem dX7_of_5 : decode cX7_of 5 = .ok (.ifCond .ne 5, 3) := by decide +kernel
theorem dX7_of_8 : decode cX7_of 8 = .ok (.iconst (-1), 1) := by decide +kernel
theorem dX7_of_9 : decode cX7_of 9 = .ok (.ireturn, 1) := by decide +kernel
theorem dX7_of_10 : decode cX7_of 10 = .ok (.iload_n 2, 1) := by decide +kernel
theorem dX7_of_11 : decode cX7_of 11 = .ok (.tableswitch 55 0 3 #[29, 36, 43, 49], 29) := by decide +kernel
theorem dX7_of_40 : decode cX7_of 40 = .ok (.aload_n 0, 1) := by decide +kernel
theorem dX7_of_41 : decode cX7_of 41 = .ok (.getfield 13, 3) := by decide +kernel
theorem dX7_of_44 : decode cX7_of 44 = .ok (.iload_n 1, 1) := by decide +kernel
theorem dX7_of_45 : decode cX7_of 45 = .ok (.iaload, 1) := by decide +kernel
theorem dX7_of_46 : decode cX7_of 46 = .ok (.ireturn, 1) := by decide +kernel
theorem dX7_of_47 : decode cX7_of 47 = .ok (.aload_n 0, 1) := by decide +kernel
theorem dX7_of_48 : decode cX7_of 48 = .ok (.getfield 17, 3) := by decide +kernel
theorem dX7_of_51 : decode cX7_of 51 = .ok (.iload_n 1, 1) := by decide +kernel
theorem dX7_of_52 : decode cX7_of 52 = .ok (.iaload, 1) := by decide +kernel
theorem dX7_of_53 : decode cX7_of 53 = .ok (.ireturn, 1) := by decide +kernel
theorem dX7_of_54 : decode cX7_of 54 = .ok (.aload_n 0, 1) := by decide +kernel
theorem dX7_of_55 : decode cX7_of 55 = .ok (.iload_n 1, 1) := by decide +kernel
theorem dX7_of_56 : decode cX7_of 56 = .ok (.invokevirtual 116, 3) := by decide +kernel
theorem dX7_of_59 : decode cX7_of 59 = .ok (.ireturn, 1) := by decide +kernel
theorem dX7_of_60 : decode cX7_of 60 = .ok (.aload_n 0, 1) := by decide +kernel
theorem dX7_of_61 : decode cX7_of 61 = .ok (.iload_n 1, 1) := by decide +kernel
theorem dX7_of_62 : decode cX7_of 62 = .ok (.invokevirtual 119, 3) := by decide +kernel
theorem dX7_of_65 : decode cX7_of 65 = .ok (.ireturn, 1) := by decide +kernel
theorem dX7_of_66 : decode cX7_of 66 = .ok (.iconst (-1), 1) := by decide +kernel
theorem dX7_of_67 : decode cX7_of 67 = .ok (.ireturn, 1) := by decide +kernel
set_option maxRecDepth 20000 in
theorem ggX7_line_X7_in : GoodIn wsX7_line wsX7_in := goodIn_r _ [6] (by decide +kernel) (by decide +kernel)
set_option maxRecDepth 20000 in
theorem gX7_line_X7_in : GoodIn wsX7_line (va_wsS RX7 82 yX7_in wsX7_in) := goodIn_app (goodIn_of _ (by decide +kernel)) ggX7_line_X7_in
theorem dX7_line_0 : decode cX7_line 0 = .ok (.iload_n 1, 1) := by decide +kernel
theorem dX7_line_1 : decode cX7_line 1 = .ok (.iconst 0, 1) := by decide +kernel
theorem dX7_line_2 : decode cX7_line 2 = .ok (.aload_n 0, 1) := by decide +kernel
theorem dX7_line_3 : decode cX7_line 3 = .ok (.getfield 23, 3) := by decide +kernel
theorem dX7_line_6 : decode cX7_line 6 = .ok (.iconst 1, 1) := by decide +kernel
theorem dX7_line_7 : decode cX7_line 7 = .ok (.isub, 1) := by decide +kernel
theorem dX7_line_8 : decode cX7_line 8 = .ok (.invokestatic 82, 3) := by decide +kernel
theorem dX7_line_11 : decode cX7_line 11 = .ok (.ifCond .eq 12, 3) := by decide +kernel
theorem dX7_line_14 : decode cX7_line 14 = .ok (.aload_n 0, 1) := by decide +kernel
theorem dX7_line_15 : decode cX7_line 15 = .ok (.getfield 26, 3) := by decide +kernel
theorem dX7_line_18 : decode cX7_line 18 = .ok (.iload_n 1, 1) := by decide +kernel
theorem dX7_line_19 : decode cX7_line 19 = .ok (.iaload, 1) := by decide +kernel
theorem dX7_line_20 : decode cX7_line 20 = .ok (.goto 5, 3) := by decide +kernel
theorem dX7_line_23 : decode cX7_line 23 = .ok (.bipush (-4), 2) := by decide +kernel
theorem dX7_line_25 : decode cX7_line 25 = .ok (.ireturn, 1) := by decide +kernel
theorem dX7_clearBest_0 : decode cX7_clearBest 0 = .ok (.iconst 0, 1) := by decide +kernel
theorem dX7_clearBest_1 : decode cX7_clearBest 1 = .ok (.istore_n 1, 1) := by decide +kernel
theorem dX7_clearBest_2 : decode cX7_clearBest 2 = .ok (.iload_n 1, 1) := by decide +kernel
theorem dX7_clearBest_3 : decode cX7_clearBest 3 = .ok (.aload_n 0, 1) := by decide +kernel
theorem dX7_clearBest_4 : decode cX7_clearBest 4 = .ok (.getfield 7, 3) := by decide +kernel
theorem dX7_clearBest_7 : decode cX7_clearBest 7 = .ok (.if_icmp .ge 23, 3) := by decide +kernel
theorem dX7_clearBest_10 : decode cX7_clearBest 10 = .ok (.aload_n 0, 1) := by decide +kernel
theorem dX7_clearBest_11 : decode cX7_clearBest 11 = .ok (.getfield 50, 3) := by decide +kernel
theorem dX7_clearBest_14 : decode cX7_clearBest 14 = .ok (.iload_n 1, 1) := by decide +kernel
theorem dX7_clearBest_15 : decode cX7_clearBest 15 = .ok (.iconst 0, 1) := by decide +kernel
theorem dX7_clearBest_16 : decode cX7_clearBest 16 = .ok (.iastore, 1) := by decide +kernel
theorem dX7_clearBest_17 : decode cX7_clearBest 17 = .ok (.aload_n 0, 1) := by decide +kernel
theorem dX7_clearBest_18 : decode cX7_clearBest 18 = .ok (.getfield 53, 3) := by decide +kernel
theorem dX7_clearBest_21 : decode cX7_clearBest 21 = .ok (.iload_n 1, 1) := by decide +kernel
theorem dX7_clearBest_22 : decode cX7_clearBest 22 = .ok (.iconst 0, 1) := by decide +kernel
theorem dX7_clearBest_23 : decode cX7_clearBest 23 = .ok (.iastore, 1) := by decide +kernel
theorem dX7_clearBest_24 : decode cX7_clearBest 24 = .ok (.iinc 1 1, 3) := by decide +kernel
theorem dX7_clearBest_27 : decode cX7_clearBest 27 = .ok (.goto (-25), 3) := by decide +kernel
theorem dX7_clearBest_30 : decode cX7_clearBest 30 = .ok (.return_, 1) := by decide +kernel
theorem dX7_counts_0 : decode cX7_counts 0 = .ok (.iload_n 2, 1) := by decide +kernel
theorem dX7_counts_1 : decode cX7_counts 1 = .ok (.aload_n 0, 1) := by decide +kernel
theorem dX7_counts_2 : decode cX7_counts 2 = .ok (.getfield 50, 3) := by decide +kernel
theorem dX7_counts_5 : decode cX7_counts 5 = .ok (.iload_n 1, 1) := by decide +kernel
theorem dX7_counts_6 : decode cX7_counts 6 = .ok (.iaload, 1) := by decide +kernel
theorem dX7_counts_7 : decode cX7_counts 7 = .ok (.if_icmp .le 25, 3) := by decide +kernel
theorem dX7_counts_10 : decode cX7_counts 10 = .ok (.aload_n 0, 1) := by decide +kernel
theorem dX7_counts_11 : decode cX7_counts 11 = .ok (.getfield 53, 3) := by decide +kernel
theorem dX7_counts_14 : decode cX7_counts 14 = .ok (.iload_n 1, 1) := by decide +kernel
theorem dX7_counts_15 : decode cX7_counts 15 = .ok (.aload_n 0, 1) := by decide +kernel
theorem dX7_counts_16 : decode cX7_counts 16 = .ok (.getfield 50, 3) := by decide +kernel
theorem dX7_counts_19 : decode cX7_counts 19 = .ok (.iload_n 1, 1) := by decide +kernel
theorem dX7_counts_20 : decode cX7_counts 20 = .ok (.iaload, 1) := by decide +kernel
theorem dX7_counts_21 : decode cX7_counts 21 = .ok (.iastore, 1) := by decide +kernel
theorem dX7_counts_22 : decode cX7_counts 22 = .ok (.aload_n 0, 1) := by decide +kernel
theorem dX7_counts_23 : decode cX7_counts 23 = .ok (.getfield 50, 3) := by decide +kernel
theorem dX7_counts_26 : decode cX7_counts 26 = .ok (.iload_n 1, 1) := by decide +kernel
theorem dX7_counts_27 : decode cX7_counts 27 = .ok (.iload_n 2, 1) := by decide +kernel
theorem dX7_counts_28 : decode cX7_counts 28 = .ok (.iastore, 1) := by decide +kernel
theorem dX7_counts_29 : decode cX7_counts 29 = .ok (.goto 20, 3) := by decide +kernel
theorem dX7_counts_32 : decode cX7_counts 32 = .ok (.iload_n 2, 1) := by decide +kernel
theorem dX7_counts_33 : decode cX7_counts 33 = .ok (.aload_n 0, 1) := by decide +kernel
theorem dX7_counts_34 : decode cX7_counts 34 = .ok (.getfield 53, 3) := by decide +kernel
theorem dX7_counts_37 : decode cX7_counts 37 = .ok (.iload_n 1, 1) := by decide +kernel
theorem dX7_counts_38 : decode cX7_counts 38 = .ok (.iaload, 1) := by decide +kernel
theorem dX7_counts_39 : decode cX7_counts 39 = .ok (.if_icmp .le 10, 3) := by decide +kernel
theorem dX7_counts_42 : decode cX7_counts 42 = .ok (.aload_n 0, 1) := by decide +kernel
theorem dX7_counts_43 : decode cX7_counts 43 = .ok (.getfield 53, 3) := by decide +kernel
theorem dX7_counts_46 : decode cX7_counts 46 = .ok (.iload_n 1, 1) := by decide +kernel
theorem dX7_counts_47 : decode cX7_counts 47 = .ok (.iload_n 2, 1) := by decide +kernel
theorem dX7_counts_48 : decode cX7_counts 48 = .ok (.iastore, 1) := by decide +kernel
theorem dX7_counts_49 : decode cX7_counts 49 = .ok (.return_, 1) := by decide +kernel
theorem dX7_findTotals_0 : decode cX7_findTotals 0 = .ok (.iconst 0, 1) := by decide +kernel
theorem dX7_findTotals_1 : decode cX7_findTotals 1 = .ok (.istore_n 1, 1) := by decide +kernel
theorem dX7_findTotals_2 : decode cX7_findTotals 2 = .ok (.iload_n 1, 1) := by decide +kernel
theorem dX7_findTotals_3 : decode cX7_findTotals 3 = .ok (.aload_n 0, 1) := by decide +kernel
theorem dX7_findTotals_4 : decode cX7_findTotals 4 = .ok (.getfield 7, 3) := by decide +kernel
theorem dX7_findTotals_7 : decode cX7_findTotals 7 = .ok (.if_icmp .ge 76, 3) := by decide +kernel
theorem dX7_findTotals_10 : decode cX7_findTotals 10 = .ok (.aload_n 0, 1) := by decide +kernel
theorem dX7_findTotals_11 : decode cX7_findTotals 11 = .ok (.getfield 56, 3) := by decide +kernel
theorem dX7_findTotals_14 : decode cX7_findTotals 14 = .ok (.iload_n 1, 1) := by decide +kernel
theorem dX7_findTotals_15 : decode cX7_findTotals 15 = .ok (.aload_n 0, 1) := by decide +kernel
theorem dX7_findTotals_16 : decode cX7_findTotals 16 = .ok (.getfield 29, 3) := by decide +kernel
theorem dX7_findTotals_19 : decode cX7_findTotals 19 = .ok (.iload_n 1, 1) := by decide +kernel
theorem dX7_findTotals_20 : decode cX7_findTotals 20 = .ok (.iaload, 1) := by decide +kernel
theorem dX7_findTotals_21 : decode cX7_findTotals 21 = .ok (.ifCond .ne 19, 3) := by decide +kernel
theorem dX7_findTotals_24 : decode cX7_findTotals 24 = .ok (.aload_n 0, 1) := by decide +kernel
theorem dX7_findTotals_25 : decode cX7_findTotals 25 = .ok (.getfield 50, 3) := by decide +kernel
theorem dX7_findTotals_28 : decode cX7_findTotals 28 = .ok (.iload_n 1, 1) := by decide +kernel
theorem dX7_findTotals_29 : decode cX7_findTotals 29 = .ok (.iaload, 1) := by decide +kernel
theorem dX7_findTotals_30 : decode cX7_findTotals 30 = .ok (.aload_n 0, 1) := by decide +kernel
theorem dX7_findTotals_31 : decode cX7_findTotals 31 = .ok (.getfield 53, 3) := by decide +kernel
theorem dX7_findTotals_34 : decode cX7_findTotals 34 = .ok (.iload_n 1, 1) := by decide +kernel
theorem dX7_findTotals_35 : decode cX7_findTotals 35 = .ok (.iaload, 1) := by decide +kernel
theorem dX7_findTotals_36 : decode cX7_findTotals 36 = .ok (.iadd, 1) := by decide +kernel
theorem dX7_findTotals_37 : decode cX7_findTotals 37 = .ok (.goto 39, 3) := by decide +kernel
theorem dX7_findTotals_40 : decode cX7_findTotals 40 = .ok (.aload_n 0, 1) := by decide +kernel
theorem dX7_findTotals_41 : decode cX7_findTotals 41 = .ok (.getfield 29, 3) := by decide +kernel
theorem dX7_findTotals_44 : decode cX7_findTotals 44 = .ok (.iload_n 1, 1) := by decide +kernel
theorem dX7_findTotals_45 : decode cX7_findTotals 45 = .ok (.iaload, 1) := by decide +kernel
theorem dX7_findTotals_46 : decode cX7_findTotals 46 = .ok (.iconst 1, 1) := by decide +kernel
theorem dX7_findTotals_47 : decode cX7_findTotals 47 = .ok (.if_icmp .ne 21, 3) := by decide +kernel
theorem dX7_findTotals_50 : decode cX7_findTotals 50 = .ok (.aload_n 0, 1) := by decide +kernel
theorem dX7_findTotals_51 : decode cX7_findTotals 51 = .ok (.getfield 50, 3) := by decide +kernel
theorem dX7_findTotals_54 : decode cX7_findTotals 54 = .ok (.iload_n 1, 1) := by decide +kernel
theorem dX7_findTotals_55 : decode cX7_findTotals 55 = .ok (.iaload, 1) := by decide +kernel
theorem dX7_findTotals_56 : decode cX7_findTotals 56 = .ok (.aload_n 0, 1) := by decide +kernel
theorem dX7_findTotals_57 : decode cX7_findTotals 57 = .ok (.getfield 53, 3) := by decide +kernel
theorem dX7_findTotals_60 : decode cX7_findTotals 60 = .ok (.iload_n 1, 1) := by decide +kernel
theorem dX7_findTotals_61 : decode cX7_findTotals 61 = .ok (.iaload, 1) := by decide +kernel
theorem dX7_findTotals_62 : decode cX7_findTotals 62 = .ok (.iconst 2, 1) := by decide +kernel
theorem dX7_findTotals_63 : decode cX7_findTotals 63 = .ok (.idiv, 1) := by decide +kernel
theorem dX7_findTotals_64 : decode cX7_findTotals 64 = .ok (.iadd, 1) := by decide +kernel
theorem dX7_findTotals_65 : decode cX7_findTotals 65 = .ok (.goto 11, 3) := by decide +kernel
theorem dX7_findTotals_68 : decode cX7_findTotals 68 = .ok (.aload_n 0, 1) := by decide +kernel
theorem dX7_findTotals_69 : decode cX7_findTotals 69 = .ok (.getfield 50, 3) := by decide +kernel
theorem dX7_findTotals_72 : decode cX7_findTotals 72 = .ok (.iload_n 1, 1) := by decide +kernel
theorem dX7_findTotals_73 : decode cX7_findTotals 73 = .ok (.iaload, 1) := by decide +kernel
theorem dX7_findTotals_74 : decode cX7_findTotals 74 = .ok (.iconst 2, 1) := by decide +kernel
theorem dX7_findTotals_75 : decode cX7_findTotals 75 = .ok (.idiv, 1) := by decide +kernel
theorem dX7_findTotals_76 : decode cX7_findTotals 76 = .ok (.iastore, 1) := by decide +kernel
theorem dX7_findTotals_77 : decode cX7_findTotals 77 = .ok (.iinc 1 1, 3) := by decide +kernel
theorem dX7_findTotals_80 : decode cX7_findTotals 80 = .ok (.goto (-78), 3) := by decide +kernel
theorem dX7_findTotals_83 : decode cX7_findTotals 83 = .ok (.return_, 1) := by decide +kernel
set_option maxRecDepth 20000 in
theorem ggX7_findBest_X7_clearBest : GoodIn wsX7_findBest wsX7_clearBest := goodIn_r _ [7, 8, 9, 10, 26, 27, 28, 29, 30, 31, 32, 33, 34, 35, 36, 37, 38, 39, 40, 41, 42, 43, 44, 45, 46, 47, 48, 49, 50, 51] (by decide +kernel) (by decide +kernel)
set_option maxRecDepth 20000 in
theorem gX7_findBest_X7_clearBest : GoodIn wsX7_findBest (wsV RX7 122 RX7 yX7_clearBest wsX7_clearBest) := goodIn_app (goodIn_of _ (by decide +kernel)) ggX7_findBest_X7_clearBest
set_option maxRecDepth 20000 in
theorem ggX7_findBest_X7_scoreOf : GoodIn wsX7_findBest wsX7_scoreOf := goodIn_r _ [14, 15, 26, 27, 28, 29, 30, 31, 32, 33, 34, 35, 36, 37, 38, 39, 40, 41, 42, 43, 44, 45, 46, 47, 48, 49, 50, 51] (by decide +kernel) (by decide +kernel)
set_option maxRecDepth 20000 in
theorem gX7_findBest_X7_scoreOf : GoodIn wsX7_findBest (wsV RX7 119 RX7 yX7_scoreOf wsX7_scoreOf) := goodIn_app (goodIn_of _ (by decide +kernel)) ggX7_findBest_X7_scoreOf
set_option maxRecDepth 20000 in
theorem ggX7_findBest_X7_counts : GoodIn wsX7_findBest wsX7_counts := goodIn_r _ [19, 9, 10, 26, 27, 28, 29, 30, 31, 32, 33, 34, 35, 36, 37, 38, 39, 40, 41, 42, 43, 44, 45, 46, 47, 48, 49, 50, 51] (by decide +kernel) (by decide +kernel)
set_option maxRecDepth 20000 in
theorem gX7_findBest_X7_counts : GoodIn wsX7_findBest (wsV RX7 125 RX7 yX7_counts wsX7_counts) := goodIn_app (goodIn_of _ (by decide +kernel)) ggX7_findBest_X7_counts
set_option maxRecDepth 20000 in
theorem ggX7_findBest_X7_findTotals : GoodIn wsX7_findBest wsX7_findTotals := goodIn_r _ [23, 8, 24, 25, 9, 10, 26, 27, 28, 29, 30, 31, 32, 33, 34, 35, 36, 37, 38, 39, 40, 41, 42, 43, 44, 45, 46, 47, 48, 49, 50, 51] (by decide +kernel) (by decide +kernel)
set_option maxRecDepth 20000 in
theorem gX7_findBest_X7_findTotals : GoodIn wsX7_findBest (wsV RX7 129 RX7 yX7_findTotals wsX7_findTotals) := goodIn_app (goodIn_of _ (by decide +kernel)) ggX7_findBest_X7_findTotals
theorem dX7_findBest_0 : decode cX7_findBest 0 = .ok (.aload_n 0, 1) := by decide +kernel
theorem dX7_findBest_1 : decode cX7_findBest 1 = .ok (.invokevirtual 122, 3) := by decide +kernel
theorem dX7_findBest_4 : decode cX7_findBest 4 = .ok (.iconst 0, 1) := by decide +kernel
theorem dX7_findBest_5 : decode cX7_findBest 5 = .ok (.istore_n 1, 1) := by decide +kernel
theorem dX7_findBest_6 : decode cX7_findBest 6 = .ok (.iload_n 1, 1) := by decide +kernel
theorem dX7_findBest_7 : decode cX7_findBest 7 = .ok (.aload_n 0, 1) := by decide +kernel
theorem dX7_findBest_8 : decode cX7_findBest 8 = .ok (.getfield 86, 3) := by decide +kernel
theorem dX7_findBest_11 : decode cX7_findBest 11 = .ok (.if_icmp .ge 24, 3) := by decide +kernel
theorem dX7_findBest_14 : decode cX7_findBest 14 = .ok (.aload_n 0, 1) := by decide +kernel
theorem dX7_findBest_15 : decode cX7_findBest 15 = .ok (.aload_n 0, 1) := by decide +kernel
theorem dX7_findBest_16 : decode cX7_findBest 16 = .ok (.getfield 13, 3) := by decide +kernel
theorem dX7_findBest_19 : decode cX7_findBest 19 = .ok (.iload_n 1, 1) := by decide +kernel
theorem dX7_findBest_20 : decode cX7_findBest 20 = .ok (.iaload, 1) := by decide +kernel
theorem dX7_findBest_21 : decode cX7_findBest 21 = .ok (.aload_n 0, 1) := by decide +kernel
theorem dX7_findBest_22 : decode cX7_findBest 22 = .ok (.iload_n 1, 1) := by decide +kernel
theorem dX7_findBest_23 : decode cX7_findBest 23 = .ok (.invokevirtual 119, 3) := by decide +kernel
theorem dX7_findBest_26 : decode cX7_findBest 26 = .ok (.invokevirtual 125, 3) := by decide +kernel
theorem dX7_findBest_29 : decode cX7_findBest 29 = .ok (.iinc 1 1, 3) := by decide +kernel
theorem dX7_findBest_32 : decode cX7_findBest 32 = .ok (.goto (-26), 3) := by decide +kernel
theorem dX7_findBest_35 : decode cX7_findBest 35 = .ok (.aload_n 0, 1) := by decide +kernel
theorem dX7_findBest_36 : decode cX7_findBest 36 = .ok (.invokevirtual 129, 3) := by decide +kernel
theorem dX7_findBest_39 : decode cX7_findBest 39 = .ok (.return_, 1) := by decide +kernel
theorem dX7_placeOf_0 : decode cX7_placeOf 0 = .ok (.iconst 0, 1) := by decide +kernel
