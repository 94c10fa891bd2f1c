theorem dX7_placeOf_1 : decode cX7_placeOf 1 = .ok (.istore_n 2, 1) := by decide +kernel
theorem dX7_placeOf_2 : decode cX7_placeOf 2 = .ok (.iconst 0, 1) := by decide +kernel
theorem dX7_placeOf_3 : decode cX7_placeOf 3 = .ok (.istore_n 3, 1) := by decide +kernel
theorem dX7_placeOf_4 : decode cX7_placeOf 4 = .ok (.iload_n 3, 1) := by decide +kernel
theorem dX7_placeOf_5 : decode cX7_placeOf 5 = .ok (.aload_n 0, 1) := by decide +kernel
theorem dX7_placeOf_6 : decode cX7_placeOf 6 = .ok (.getfield 7, 3) := by decide +kernel
theorem dX7_placeOf_9 : decode cX7_placeOf 9 = .ok (.if_icmp .ge 94, 3) := by decide +kernel
theorem dX7_placeOf_12 : decode cX7_placeOf 12 = .ok (.aload_n 0, 1) := by decide +kernel
theorem dX7_placeOf_13 : decode cX7_placeOf 13 = .ok (.getfield 56, 3) := by decide +kernel
theorem dX7_placeOf_16 : decode cX7_placeOf 16 = .ok (.iload_n 3, 1) := by decide +kernel
theorem dX7_placeOf_17 : decode cX7_placeOf 17 = .ok (.iaload, 1) := by decide +kernel
theorem dX7_placeOf_18 : decode cX7_placeOf 18 = .ok (.aload_n 0, 1) := by decide +kernel
theorem dX7_placeOf_19 : decode cX7_placeOf 19 = .ok (.getfield 56, 3) := by decide +kernel
theorem dX7_placeOf_22 : decode cX7_placeOf 22 = .ok (.iload_n 1, 1) := by decide +kernel
theorem dX7_placeOf_23 : decode cX7_placeOf 23 = .ok (.iaload, 1) := by decide +kernel
theorem dX7_placeOf_24 : decode cX7_placeOf 24 = .ok (.if_icmp .ne 42, 3) := by decide +kernel
theorem dX7_placeOf_27 : decode cX7_placeOf 27 = .ok (.aload_n 0, 1) := by decide +kernel
theorem dX7_placeOf_28 : decode cX7_placeOf 28 = .ok (.getfield 50, 3) := by decide +kernel
theorem dX7_placeOf_31 : decode cX7_placeOf 31 = .ok (.iload_n 3, 1) := by decide +kernel
theorem dX7_placeOf_32 : decode cX7_placeOf 32 = .ok (.iaload, 1) := by decide +kernel
theorem dX7_placeOf_33 : decode cX7_placeOf 33 = .ok (.aload_n 0, 1) := by decide +kernel
theorem dX7_placeOf_34 : decode cX7_placeOf 34 = .ok (.getfield 50, 3) := by decide +kernel
theorem dX7_placeOf_37 : decode cX7_placeOf 37 = .ok (.iload_n 1, 1) := by decide +kernel
theorem dX7_placeOf_38 : decode cX7_placeOf 38 = .ok (.iaload, 1) := by decide +kernel
theorem dX7_placeOf_39 : decode cX7_placeOf 39 = .ok (.if_icmp .gt 23, 3) := by decide +kernel
theorem dX7_placeOf_42 : decode cX7_placeOf 42 = .ok (.aload_n 0, 1) := by decide +kernel
theorem dX7_placeOf_43 : decode cX7_placeOf 43 = .ok (.getfield 50, 3) := by decide +kernel
theorem dX7_placeOf_46 : decode cX7_placeOf 46 = .ok (.iload_n 3, 1) := by decide +kernel
theorem dX7_placeOf_47 : decode cX7_placeOf 47 = .ok (.iaload, 1) := by decide +kernel
theorem dX7_placeOf_48 : decode cX7_placeOf 48 = .ok (.aload_n 0, 1) := by decide +kernel
theorem dX7_placeOf_49 : decode cX7_placeOf 49 = .ok (.getfield 50, 3) := by decide +kernel
theorem dX7_placeOf_52 : decode cX7_placeOf 52 = .ok (.iload_n 1, 1) := by decide +kernel
theorem dX7_placeOf_53 : decode cX7_placeOf 53 = .ok (.iaload, 1) := by decide +kernel
theorem dX7_placeOf_54 : decode cX7_placeOf 54 = .ok (.if_icmp .ne 12, 3) := by decide +kernel
theorem dX7_placeOf_57 : decode cX7_placeOf 57 = .ok (.iload_n 3, 1) := by decide +kernel
theorem dX7_placeOf_58 : decode cX7_placeOf 58 = .ok (.iload_n 1, 1) := by decide +kernel
theorem dX7_placeOf_59 : decode cX7_placeOf 59 = .ok (.if_icmp .ge 7, 3) := by decide +kernel
theorem dX7_placeOf_62 : decode cX7_placeOf 62 = .ok (.iconst 1, 1) := by decide +kernel
theorem dX7_placeOf_63 : decode cX7_placeOf 63 = .ok (.goto 4, 3) := by decide +kernel
theorem dX7_placeOf_66 : decode cX7_placeOf 66 = .ok (.iconst 0, 1) := by decide +kernel
theorem dX7_placeOf_67 : decode cX7_placeOf 67 = .ok (.istore 4, 2) := by decide +kernel
theorem dX7_placeOf_69 : decode cX7_placeOf 69 = .ok (.iload_n 2, 1) := by decide +kernel
theorem dX7_placeOf_70 : decode cX7_placeOf 70 = .ok (.aload_n 0, 1) := by decide +kernel
theorem dX7_placeOf_71 : decode cX7_placeOf 71 = .ok (.getfield 56, 3) := by decide +kernel
theorem dX7_placeOf_74 : decode cX7_placeOf 74 = .ok (.iload_n 3, 1) := by decide +kernel
theorem dX7_placeOf_75 : decode cX7_placeOf 75 = .ok (.iaload, 1) := by decide +kernel
theorem dX7_placeOf_76 : decode cX7_placeOf 76 = .ok (.aload_n 0, 1) := by decide +kernel
theorem dX7_placeOf_77 : decode cX7_placeOf 77 = .ok (.getfield 56, 3) := by decide +kernel
theorem dX7_placeOf_80 : decode cX7_placeOf 80 = .ok (.iload_n 1, 1) := by decide +kernel
theorem dX7_placeOf_81 : decode cX7_placeOf 81 = .ok (.iaload, 1) := by decide +kernel
theorem dX7_placeOf_82 : decode cX7_placeOf 82 = .ok (.if_icmp .gt 8, 3) := by decide +kernel
theorem dX7_placeOf_85 : decode cX7_placeOf 85 = .ok (.iload 4, 2) := by decide +kernel
theorem dX7_placeOf_87 : decode cX7_placeOf 87 = .ok (.ifCond .eq 7, 3) := by decide +kernel
theorem dX7_placeOf_90 : decode cX7_placeOf 90 = .ok (.iconst 1, 1) := by decide +kernel
theorem dX7_placeOf_91 : decode cX7_placeOf 91 = .ok (.goto 4, 3) := by decide +kernel
theorem dX7_placeOf_94 : decode cX7_placeOf 94 = .ok (.iconst 0, 1) := by decide +kernel
theorem dX7_placeOf_95 : decode cX7_placeOf 95 = .ok (.iadd, 1) := by decide +kernel
theorem dX7_placeOf_96 : decode cX7_placeOf 96 = .ok (.istore_n 2, 1) := by decide +kernel
theorem dX7_placeOf_97 : decode cX7_placeOf 97 = .ok (.iinc 3 1, 3) := by decide +kernel
theorem dX7_placeOf_100 : decode cX7_placeOf 100 = .ok (.goto (-96), 3) := by decide +kernel
theorem dX7_placeOf_103 : decode cX7_placeOf 103 = .ok (.iload_n 2, 1) := by decide +kernel
theorem dX7_placeOf_104 : decode cX7_placeOf 104 = .ok (.ireturn, 1) := by decide +kernel
theorem dX7_ridesOf_0 : decode cX7_ridesOf 0 = .ok (.iconst 0, 1) := by decide +kernel
theorem dX7_ridesOf_1 : decode cX7_ridesOf 1 = .ok (.istore_n 2, 1) := by decide +kernel
theorem dX7_ridesOf_2 : decode cX7_ridesOf 2 = .ok (.iconst 0, 1) := by decide +kernel
theorem dX7_ridesOf_3 : decode cX7_ridesOf 3 = .ok (.istore_n 3, 1) := by decide +kernel
theorem dX7_ridesOf_4 : decode cX7_ridesOf 4 = .ok (.iload_n 3, 1) := by decide +kernel
theorem dX7_ridesOf_5 : decode cX7_ridesOf 5 = .ok (.aload_n 0, 1) := by decide +kernel
theorem dX7_ridesOf_6 : decode cX7_ridesOf 6 = .ok (.getfield 86, 3) := by decide +kernel
theorem dX7_ridesOf_9 : decode cX7_ridesOf 9 = .ok (.if_icmp .ge 27, 3) := by decide +kernel
theorem dX7_ridesOf_12 : decode cX7_ridesOf 12 = .ok (.iload_n 2, 1) := by decide +kernel
theorem dX7_ridesOf_13 : decode cX7_ridesOf 13 = .ok (.aload_n 0, 1) := by decide +kernel
theorem dX7_ridesOf_14 : decode cX7_ridesOf 14 = .ok (.getfield 13, 3) := by decide +kernel
theorem dX7_ridesOf_17 : decode cX7_ridesOf 17 = .ok (.iload_n 3, 1) := by decide +kernel
theorem dX7_ridesOf_18 : decode cX7_ridesOf 18 = .ok (.iaload, 1) := by decide +kernel
theorem dX7_ridesOf_19 : decode cX7_ridesOf 19 = .ok (.iload_n 1, 1) := by decide +kernel
theorem dX7_ridesOf_20 : decode cX7_ridesOf 20 = .ok (.if_icmp .ne 7, 3) := by decide +kernel
theorem dX7_ridesOf_23 : decode cX7_ridesOf 23 = .ok (.iconst 1, 1) := by decide +kernel
theorem dX7_ridesOf_24 : decode cX7_ridesOf 24 = .ok (.goto 4, 3) := by decide +kernel
theorem dX7_ridesOf_27 : decode cX7_ridesOf 27 = .ok (.iconst 0, 1) := by decide +kernel
theorem dX7_ridesOf_28 : decode cX7_ridesOf 28 = .ok (.iadd, 1) := by decide +kernel
theorem dX7_ridesOf_29 : decode cX7_ridesOf 29 = .ok (.istore_n 2, 1) := by decide +kernel
theorem dX7_ridesOf_30 : decode cX7_ridesOf 30 = .ok (.iinc 3 1, 3) := by decide +kernel
theorem dX7_ridesOf_33 : decode cX7_ridesOf 33 = .ok (.goto (-29), 3) := by decide +kernel
theorem dX7_ridesOf_36 : decode cX7_ridesOf 36 = .ok (.iload_n 2, 1) := by decide +kernel
theorem dX7_ridesOf_37 : decode cX7_ridesOf 37 = .ok (.ireturn, 1) := by decide +kernel
set_option maxRecDepth 20000 in
theorem ggX7_told_X7_isRider : GoodIn wsX7_told wsX7_isRider := goodIn_r _ [9, 10, 11, 12, 8, 13, 45, 46, 47, 48, 49, 50, 51, 52, 53, 54, 55, 56, 57, 58, 59, 60, 61, 62, 63, 64, 65, 66, 67, 68, 69, 70] (by decide +kernel) (by decide +kernel)
set_option maxRecDepth 20000 in
theorem gX7_told_X7_isRider : GoodIn wsX7_told (wsV RX7 103 RX7 yX7_isRider wsX7_isRider) := goodIn_app (goodIn_of _ (by decide +kernel)) ggX7_told_X7_isRider
set_option maxRecDepth 20000 in
theorem ggX7_told_X7_findBest : GoodIn wsX7_told wsX7_findBest := goodIn_r _ [17, 18, 19, 20, 21, 22, 8, 23, 10, 1, 2, 24, 25, 26, 27, 28, 29, 30, 31, 32, 33, 34, 35, 36, 4, 3, 45, 46, 47, 48, 49, 50, 51, 52, 53, 54, 55, 56, 57, 58, 59, 60, 61, 62, 63, 64, 65, 66, 67, 68, 69, 70] (by decide +kernel) (by decide +kernel)
set_option maxRecDepth 20000 in
theorem gX7_told_X7_findBest : GoodIn wsX7_told (wsV RX7 132 RX7 yX7_findBest wsX7_findBest) := goodIn_app (goodIn_of _ (by decide +kernel)) ggX7_told_X7_findBest
set_option maxRecDepth 20000 in
theorem ggX7_told_X7_ridesOf : GoodIn wsX7_told wsX7_ridesOf := goodIn_r _ [40, 18, 19, 45, 46, 47, 48, 49, 50, 51, 52, 53, 54, 55, 56, 57, 58, 59, 60, 61, 62, 63, 64, 65, 66, 67, 68, 69, 70] (by decide +kernel) (by decide +kernel)
set_option maxRecDepth 20000 in
theorem gX7_told_X7_ridesOf : GoodIn wsX7_told (wsV RX7 135 RX7 yX7_ridesOf wsX7_ridesOf) := goodIn_app (goodIn_of _ (by decide +kernel)) ggX7_told_X7_ridesOf
set_option maxRecDepth 20000 in
theorem ggX7_told_X7_placeOf : GoodIn wsX7_told wsX7_placeOf := goodIn_r _ [44, 10, 4, 1, 45, 46, 47, 48, 49, 50, 51, 52, 53, 54, 55, 56, 57, 58, 59, 60, 61, 62, 63, 64, 65, 66, 67, 68, 69, 70] (by decide +kernel) (by decide +kernel)
set_option maxRecDepth 20000 in
theorem gX7_told_X7_placeOf : GoodIn wsX7_told (wsV RX7 138 RX7 yX7_placeOf wsX7_placeOf) := goodIn_app (goodIn_of _ (by decide +kernel)) ggX7_told_X7_placeOf
theorem dX7_told_0 : decode cX7_told 0 = .ok (.aload_n 0, 1) := by decide +kernel
theorem dX7_told_1 : decode cX7_told 1 = .ok (.iload_n 1, 1) := by decide +kernel
theorem dX7_told_2 : decode cX7_told 2 = .ok (.invokevirtual 103, 3) := by decide +kernel
theorem dX7_told_5 : decode cX7_told 5 = .ok (.ifCond .ne 5, 3) := by decide +kernel
theorem dX7_told_8 : decode cX7_told 8 = .ok (.iconst (-1), 1) := by decide +kernel
theorem dX7_told_9 : decode cX7_told 9 = .ok (.ireturn, 1) := by decide +kernel
theorem dX7_told_10 : decode cX7_told 10 = .ok (.aload_n 0, 1) := by decide +kernel
theorem dX7_told_11 : decode cX7_told 11 = .ok (.invokevirtual 132, 3) := by decide +kernel
theorem dX7_told_14 : decode cX7_told 14 = .ok (.iload_n 2, 1) := by decide +kernel
theorem dX7_told_15 : decode cX7_told 15 = .ok (.tableswitch 77 0 5 #[37, 43, 50, 57, 64, 71], 37) := by decide +kernel
theorem dX7_told_52 : decode cX7_told 52 = .ok (.aload_n 0, 1) := by decide +kernel
theorem dX7_told_53 : decode cX7_told 53 = .ok (.iload_n 1, 1) := by decide +kernel
theorem dX7_told_54 : decode cX7_told 54 = .ok (.invokevirtual 135, 3) := by decide +kernel
theorem dX7_told_57 : decode cX7_told 57 = .ok (.ireturn, 1) := by decide +kernel
theorem dX7_told_58 : decode cX7_told 58 = .ok (.aload_n 0, 1) := by decide +kernel
theorem dX7_told_59 : decode cX7_told 59 = .ok (.getfield 50, 3) := by decide +kernel
theorem dX7_told_62 : decode cX7_told 62 = .ok (.iload_n 1, 1) := by decide +kernel
theorem dX7_told_63 : decode cX7_told 63 = .ok (.iaload, 1) := by decide +kernel
theorem dX7_told_64 : decode cX7_told 64 = .ok (.ireturn, 1) := by decide +kernel
theorem dX7_told_65 : decode cX7_told 65 = .ok (.aload_n 0, 1) := by decide +kernel
theorem dX7_told_66 : decode cX7_told 66 = .ok (.getfield 53, 3) := by decide +kernel
theorem dX7_told_69 : decode cX7_told 69 = .ok (.iload_n 1, 1) := by decide +kernel
theorem dX7_told_70 : decode cX7_told 70 = .ok (.iaload, 1) := by decide +kernel
theorem dX7_told_71 : decode cX7_told 71 = .ok (.ireturn, 1) := by decide +kernel
theorem dX7_told_72 : decode cX7_told 72 = .ok (.aload_n 0, 1) := by decide +kernel
theorem dX7_told_73 : decode cX7_told 73 = .ok (.getfield 29, 3) := by decide +kernel
theorem dX7_told_76 : decode cX7_told 76 = .ok (.iload_n 1, 1) := by decide +kernel
theorem dX7_told_77 : decode cX7_told 77 = .ok (.iaload, 1) := by decide +kernel
theorem dX7_told_78 : decode cX7_told 78 = .ok (.ireturn, 1) := by decide +kernel
theorem dX7_told_79 : decode cX7_told 79 = .ok (.aload_n 0, 1) := by decide +kernel
theorem dX7_told_80 : decode cX7_told 80 = .ok (.getfield 56, 3) := by decide +kernel
theorem dX7_told_83 : decode cX7_told 83 = .ok (.iload_n 1, 1) := by decide +kernel
theorem dX7_told_84 : decode cX7_told 84 = .ok (.iaload, 1) := by decide +kernel
theorem dX7_told_85 : decode cX7_told 85 = .ok (.ireturn, 1) := by decide +kernel
theorem dX7_told_86 : decode cX7_told 86 = .ok (.aload_n 0, 1) := by decide +kernel
theorem dX7_told_87 : decode cX7_told 87 = .ok (.iload_n 1, 1) := by decide +kernel
theorem dX7_told_88 : decode cX7_told 88 = .ok (.invokevirtual 138, 3) := by decide +kernel
theorem dX7_told_91 : decode cX7_told 91 = .ok (.ireturn, 1) := by decide +kernel
theorem dX7_told_92 : decode cX7_told 92 = .ok (.iconst (-1), 1) := by decide +kernel
theorem dX7_told_93 : decode cX7_told 93 = .ok (.ireturn, 1) := by decide +kernel
set_option maxRecDepth 20000 in
theorem ggX7_needOf_X7_findBest : GoodIn wsX7_needOf wsX7_findBest := goodIn_r _ [5, 6, 7, 8, 9, 10, 4, 11, 12, 13, 14, 15, 16, 17, 18, 19, 20, 21, 22, 23, 24, 25, 26, 27, 28, 29, 34, 35, 36, 37, 38, 39, 40, 41, 42, 43, 44, 45, 46, 47, 48, 49, 50, 51, 52, 53, 54, 55, 56, 57, 58, 59] (by decide +kernel) (by decide +kernel)
set_option maxRecDepth 20000 in
theorem gX7_needOf_X7_findBest : GoodIn wsX7_needOf (wsV RX7 132 RX7 yX7_findBest wsX7_findBest) := goodIn_app (goodIn_of _ (by decide +kernel)) ggX7_needOf_X7_findBest
set_option maxRecDepth 20000 in
theorem ggX7_needOf_X7_counts : GoodIn wsX7_needOf wsX7_counts := goodIn_r _ [23, 13, 14, 34, 35, 36, 37, 38, 39, 40, 41, 42, 43, 44, 45, 46, 47, 48, 49, 50, 51, 52, 53, 54, 55, 56, 57, 58, 59] (by decide +kernel) (by decide +kernel)
set_option maxRecDepth 20000 in
theorem gX7_needOf_X7_counts : GoodIn wsX7_needOf (wsV RX7 125 RX7 yX7_counts wsX7_counts) := goodIn_app (goodIn_of _ (by decide +kernel)) ggX7_needOf_X7_counts
set_option maxRecDepth 20000 in
theorem ggX7_needOf_X7_findTotals : GoodIn wsX7_needOf wsX7_findTotals := goodIn_r _ [27, 12, 28, 29, 13, 14, 34, 35, 36, 37, 38, 39, 40, 41, 42, 43, 44, 45, 46, 47, 48, 49, 50, 51, 52, 53, 54, 55, 56, 57, 58, 59] (by decide +kernel) (by decide +kernel)
set_option maxRecDepth 20000 in
theorem gX7_needOf_X7_findTotals : GoodIn wsX7_needOf (wsV RX7 129 RX7 yX7_findTotals wsX7_findTotals) := goodIn_app (goodIn_of _ (by decide +kernel)) ggX7_needOf_X7_findTotals
set_option maxRecDepth 20000 in
theorem ggX7_needOf_X7_placeOf : GoodIn wsX7_needOf wsX7_placeOf := goodIn_r _ [33, 12, 28, 13, 34, 35, 36, 37, 38, 39, 40, 41, 42, 43, 44, 45, 46, 47, 48, 49, 50, 51, 52, 53, 54, 55, 56, 57, 58, 59] (by decide +kernel) (by decide +kernel)
set_option maxRecDepth 20000 in
theorem gX7_needOf_X7_placeOf : GoodIn wsX7_needOf (wsV RX7 138 RX7 yX7_placeOf wsX7_placeOf) := goodIn_app (goodIn_of _ (by decide +kernel)) ggX7_needOf_X7_placeOf
theorem dX7_needOf_0 : decode cX7_needOf 0 = .ok (.iconst 0, 1) := by decide +kernel
theorem dX7_needOf_1 : decode cX7_needOf 1 = .ok (.istore_n 3, 1) := by decide +kernel
theorem dX7_needOf_2 : decode cX7_needOf 2 = .ok (.iload_n 3, 1) := by decide +kernel
theorem dX7_needOf_3 : decode cX7_needOf 3 = .ok (.sipush 300, 3) := by decide +kernel
theorem dX7_needOf_6 : decode cX7_needOf 6 = .ok (.if_icmp .gt 34, 3) := by decide +kernel
theorem dX7_needOf_9 : decode cX7_needOf 9 = .ok (.aload_n 0, 1) := by decide +kernel
theorem dX7_needOf_10 : decode cX7_needOf 10 = .ok (.invokevirtual 132, 3) := by decide +kernel
theorem dX7_needOf_13 : decode cX7_needOf 13 = .ok (.aload_n 0, 1) := by decide +kernel
theorem dX7_needOf_14 : decode cX7_needOf 14 = .ok (.iload_n 1, 1) := by decide +kernel
theorem dX7_needOf_15 : decode cX7_needOf 15 = .ok (.iload_n 3, 1) := by decide +kernel
theorem dX7_needOf_16 : decode cX7_needOf 16 = .ok (.invokevirtual 125, 3) := by decide +kernel
theorem dX7_needOf_19 : decode cX7_needOf 19 = .ok (.aload_n 0, 1) := by decide +kernel
theorem dX7_needOf_20 : decode cX7_needOf 20 = .ok (.invokevirtual 129, 3) := by decide +kernel
theorem dX7_needOf_23 : decode cX7_needOf 23 = .ok (.aload_n 0, 1) := by decide +kernel
theorem dX7_needOf_24 : decode cX7_needOf 24 = .ok (.iload_n 1, 1) := by decide +kernel
theorem dX7_needOf_25 : decode cX7_needOf 25 = .ok (.invokevirtual 138, 3) := by decide +kernel
theorem dX7_needOf_28 : decode cX7_needOf 28 = .ok (.iload_n 2, 1) := by decide +kernel
theorem dX7_needOf_29 : decode cX7_needOf 29 = .ok (.if_icmp .gt 5, 3) := by decide +kernel
theorem dX7_needOf_32 : decode cX7_needOf 32 = .ok (.iload_n 3, 1) := by decide +kernel
theorem dX7_needOf_33 : decode cX7_needOf 33 = .ok (.ireturn, 1) := by decide +kernel
theorem dX7_needOf_34 : decode cX7_needOf 34 = .ok (.iinc 3 1, 3) := by decide +kernel
theorem dX7_needOf_37 : decode cX7_needOf 37 = .ok (.goto (-35), 3) := by decide +kernel
theorem dX7_needOf_40 : decode cX7_needOf 40 = .ok (.bipush (-4), 2) := by decide +kernel
theorem dX7_needOf_42 : decode cX7_needOf 42 = .ok (.ireturn, 1) := by decide +kernel
set_option maxRecDepth 20000 in
theorem ggX7_need_X7_isRider : GoodIn wsX7_need wsX7_isRider := goodIn_r _ [5, 6, 7, 8, 4, 9, 45, 46, 47, 48, 49, 50, 51, 52, 53, 54, 55, 56, 57, 58, 59, 60, 61, 62, 63, 64, 65, 66, 67, 68, 69, 70] (by decide +kernel) (by decide +kernel)
set_option maxRecDepth 20000 in
theorem gX7_need_X7_isRider : GoodIn wsX7_need (wsV RX7 103 RX7 yX7_isRider wsX7_isRider) := goodIn_app (goodIn_of _ (by decide +kernel)) ggX7_need_X7_isRider
set_option maxRecDepth 20000 in
theorem ggX7_need_X7_in : GoodIn wsX7_need wsX7_in := goodIn_r _ [9] (by decide +kernel) (by decide +kernel)
set_option maxRecDepth 20000 in
theorem gX7_need_X7_in : GoodIn wsX7_need (va_wsS RX7 82 yX7_in wsX7_in) := goodIn_app (goodIn_of _ (by decide +kernel)) ggX7_need_X7_in
set_option maxRecDepth 20000 in
theorem ggX7_need_X7_needOf : GoodIn wsX7_need wsX7_needOf := goodIn_r _ [13, 14, 15, 16, 4, 17, 18, 19, 20, 21, 22, 23, 6, 24, 25, 26, 27, 28, 29, 30, 31, 32, 33, 34, 35, 36, 37, 38, 39, 40, 41, 42, 43, 44, 45, 46, 47, 48, 49, 50, 51, 52, 53, 54, 55, 56, 57, 58, 59, 60, 61, 62, 63, 64, 65, 66, 67, 68, 69, 70] (by decide +kernel) (by decide +kernel)
set_option maxRecDepth 20000 in
theorem gX7_need_X7_needOf : GoodIn wsX7_need (wsV RX7 141 RX7 yX7_needOf wsX7_needOf) := goodIn_app (goodIn_of _ (by decide +kernel)) ggX7_need_X7_needOf
theorem dX7_need_0 : decode cX7_need 0 = .ok (.aload_n 0, 1) := by decide +kernel
theorem dX7_need_1 : decode cX7_need 1 = .ok (.iload_n 1, 1) := by decide +kernel
theorem dX7_need_2 : decode cX7_need 2 = .ok (.invokevirtual 103, 3) := by decide +kernel
theorem dX7_need_5 : decode cX7_need 5 = .ok (.ifCond .eq 21, 3) := by decide +kernel
theorem dX7_need_8 : decode cX7_need 8 = .ok (.iload_n 2, 1) := by decide +kernel
theorem dX7_need_9 : decode cX7_need 9 = .ok (.iconst 0, 1) := by decide +kernel
theorem dX7_need_10 : decode cX7_need 10 = .ok (.iconst 3, 1) := by decide +kernel
theorem dX7_need_11 : decode cX7_need 11 = .ok (.invokestatic 82, 3) := by decide +kernel
theorem dX7_need_14 : decode cX7_need 14 = .ok (.ifCond .eq 12, 3) := by decide +kernel
theorem dX7_need_17 : decode cX7_need 17 = .ok (.aload_n 0, 1) := by decide +kernel
theorem dX7_need_18 : decode cX7_need 18 = .ok (.iload_n 1, 1) := by decide +kernel
theorem dX7_need_19 : decode cX7_need 19 = .ok (.iload_n 2, 1) := by decide +kernel
theorem dX7_need_20 : decode cX7_need 20 = .ok (.invokevirtual 141, 3) := by decide +kernel
theorem dX7_need_23 : decode cX7_need 23 = .ok (.goto 4, 3) := by decide +kernel
theorem dX7_need_26 : decode cX7_need 26 = .ok (.iconst (-1), 1) := by decide +kernel
theorem dX7_need_27 : decode cX7_need 27 = .ok (.ireturn, 1) := by decide +kernel
set_option maxRecDepth 20000 in
theorem ggX7_past_X7_in : GoodIn wsX7_past wsX7_in := goodIn_r _ [6] (by decide +kernel) (by decide +kernel)
set_option maxRecDepth 20000 in
theorem gX7_past_X7_in : GoodIn wsX7_past (va_wsS RX7 82 yX7_in wsX7_in) := goodIn_app (goodIn_of _ (by decide +kernel)) ggX7_past_X7_in
theorem dX7_past_0 : decode cX7_past 0 = .ok (.iload_n 1, 1) := by decide +kernel
theorem dX7_past_1 : decode cX7_past 1 = .ok (.iconst 0, 1) := by decide +kernel
theorem dX7_past_2 : decode cX7_past 2 = .ok (.sipush 300, 3) := by decide +kernel
theorem dX7_past_5 : decode cX7_past 5 = .ok (.invokestatic 82, 3) := by decide +kernel
theorem dX7_past_8 : decode cX7_past 8 = .ok (.ifCond .ne 5, 3) := by decide +kernel
theorem dX7_past_11 : decode cX7_past 11 = .ok (.iconst (-1), 1) := by decide +kernel
theorem dX7_past_12 : decode cX7_past 12 = .ok (.ireturn, 1) := by decide +kernel
theorem dX7_past_13 : decode cX7_past 13 = .ok (.aload_n 0, 1) := by decide +kernel
theorem dX7_past_14 : decode cX7_past 14 = .ok (.getfield 145, 3) := by decide +kernel
theorem dX7_past_17 : decode cX7_past 17 = .ok (.bipush 40, 2) := by decide +kernel
theorem dX7_past_19 : decode cX7_past 19 = .ok (.if_icmp .ne 6, 3) := by decide +kernel
theorem dX7_past_22 : decode cX7_past 22 = .ok (.bipush (-2), 2) := by decide +kernel
theorem dX7_past_24 : decode cX7_past 24 = .ok (.ireturn, 1) := by decide +kernel
theorem dX7_past_25 : decode cX7_past 25 = .ok (.aload_n 0, 1) := by decide +kernel
theorem dX7_past_26 : decode cX7_past 26 = .ok (.getfield 35, 3) := by decide +kernel
theorem dX7_past_29 : decode cX7_past 29 = .ok (.aload_n 0, 1) := by decide +kernel
theorem dX7_past_30 : decode cX7_past 30 = .ok (.getfield 145, 3) := by decide +kernel
theorem dX7_past_33 : decode cX7_past 33 = .ok (.iload_n 1, 1) := by decide +kernel
theorem dX7_past_34 : decode cX7_past 34 = .ok (.iastore, 1) := by decide +kernel
theorem dX7_past_35 : decode cX7_past 35 = .ok (.aload_n 0, 1) := by decide +kernel
theorem dX7_past_36 : decode cX7_past 36 = .ok (.dup, 1) := by decide +kernel
theorem dX7_past_37 : decode cX7_past 37 = .ok (.getfield 145, 3) := by decide +kernel
theorem dX7_past_40 : decode cX7_past 40 = .ok (.iconst 1, 1) := by decide +kernel
theorem dX7_past_41 : decode cX7_past 41 = .ok (.iadd, 1) := by decide +kernel
theorem dX7_past_42 : decode cX7_past 42 = .ok (.putfield 145, 3) := by decide +kernel
theorem dX7_past_45 : decode cX7_past 45 = .ok (.aload_n 0, 1) := by decide +kernel
theorem dX7_past_46 : decode cX7_past 46 = .ok (.getfield 145, 3) := by decide +kernel
theorem dX7_past_49 : decode cX7_past 49 = .ok (.ireturn, 1) := by decide +kernel
set_option maxRecDepth 20000 in
theorem ggX7_keep_X7_marksOf : GoodIn wsX7_keep wsX7_marksOf := goodIn_r _ [8, 9, 14, 15, 16, 17, 18, 19, 20, 21, 22, 23, 24, 25, 26, 27, 28, 29, 30, 31, 32, 33, 34, 35, 36, 37, 38, 39] (by decide +kernel) (by decide +kernel)
set_option maxRecDepth 20000 in
theorem gX7_keep_X7_marksOf : GoodIn wsX7_keep (wsV RX7 116 RX7 yX7_marksOf wsX7_marksOf) := goodIn_app (goodIn_of _ (by decide +kernel)) ggX7_keep_X7_marksOf
set_option maxRecDepth 20000 in
theorem ggX7_keep_X7_scoreOf : GoodIn wsX7_keep wsX7_scoreOf := goodIn_r _ [13, 9, 14, 15, 16, 17, 18, 19, 20, 21, 22, 23, 24, 25, 26, 27, 28, 29, 30, 31, 32, 33, 34, 35, 36, 37, 38, 39] (by decide +kernel) (by decide +kernel)
set_option maxRecDepth 20000 in
theorem gX7_keep_X7_scoreOf : GoodIn wsX7_keep (wsV RX7 119 RX7 yX7_scoreOf wsX7_scoreOf) := goodIn_app (goodIn_of _ (by decide +kernel)) ggX7_keep_X7_scoreOf
theorem dX7_keep_0 : decode cX7_keep 0 = .ok (.iconst 0, 1) := by decide +kernel
theorem dX7_keep_1 : decode cX7_keep 1 = .ok (.istore_n 1, 1) := by decide +kernel
theorem dX7_keep_2 : decode cX7_keep 2 = .ok (.iconst 0, 1) := by decide +kernel
theorem dX7_keep_3 : decode cX7_keep 3 = .ok (.istore_n 2, 1) := by decide +kernel
theorem dX7_keep_4 : decode cX7_keep 4 = .ok (.iload_n 2, 1) := by decide +kernel
theorem dX7_keep_5 : decode cX7_keep 5 = .ok (.aload_n 0, 1) := by decide +kernel
theorem dX7_keep_6 : decode cX7_keep 6 = .ok (.getfield 86, 3) := by decide +kernel
theorem dX7_keep_9 : decode cX7_keep 9 = .ok (.if_icmp .ge 25, 3) := by decide +kernel
theorem dX7_keep_12 : decode cX7_keep 12 = .ok (.iload_n 1, 1) := by decide +kernel
theorem dX7_keep_13 : decode cX7_keep 13 = .ok (.aload_n 0, 1) := by decide +kernel
theorem dX7_keep_14 : decode cX7_keep 14 = .ok (.iload_n 2, 1) := by decide +kernel
theorem dX7_keep_15 : decode cX7_keep 15 = .ok (.invokevirtual 116, 3) := by decide +kernel
theorem dX7_keep_18 : decode cX7_keep 18 = .ok (.ifCond .le 7, 3) := by decide +kernel
theorem dX7_keep_21 : decode cX7_keep 21 = .ok (.iconst 1, 1) := by decide +kernel
theorem dX7_keep_22 : decode cX7_keep 22 = .ok (.goto 4, 3) := by decide +kernel
theorem dX7_keep_25 : decode cX7_keep 25 = .ok (.iconst 0, 1) := by decide +kernel
theorem dX7_keep_26 : decode cX7_keep 26 = .ok (.iadd, 1) := by decide +kernel
theorem dX7_keep_27 : decode cX7_keep 27 = .ok (.istore_n 1, 1) := by decide +kernel
theorem dX7_keep_28 : decode cX7_keep 28 = .ok (.iinc 2 1, 3) := by decide +kernel
theorem dX7_keep_31 : decode cX7_keep 31 = .ok (.goto (-27), 3) := by decide +kernel
theorem dX7_keep_34 : decode cX7_keep 34 = .ok (.aload_n 0, 1) := by decide +kernel
theorem dX7_keep_35 : decode cX7_keep 35 = .ok (.getfield 145, 3) := by decide +kernel
theorem dX7_keep_38 : decode cX7_keep 38 = .ok (.iload_n 1, 1) := by decide +kernel
theorem dX7_keep_39 : decode cX7_keep 39 = .ok (.iadd, 1) := by decide +kernel
theorem dX7_keep_40 : decode cX7_keep 40 = .ok (.bipush 40, 2) := by decide +kernel
theorem dX7_keep_42 : decode cX7_keep 42 = .ok (.if_icmp .le 6, 3) := by decide +kernel
theorem dX7_keep_45 : decode cX7_keep 45 = .ok (.bipush (-2), 2) := by decide +kernel
theorem dX7_keep_47 : decode cX7_keep 47 = .ok (.ireturn, 1) := by decide +kernel
theorem dX7_keep_48 : decode cX7_keep 48 = .ok (.iconst 0, 1) := by decide +kernel
theorem dX7_keep_49 : decode cX7_keep 49 = .ok (.istore_n 2, 1) := by decide +kernel
theorem dX7_keep_50 : decode cX7_keep 50 = .ok (.iload_n 2, 1) := by decide +kernel
theorem dX7_keep_51 : decode cX7_keep 51 = .ok (.aload_n 0, 1) := by decide +kernel
theorem dX7_keep_52 : decode cX7_keep 52 = .ok (.getfield 86, 3) := by decide +kernel
theorem dX7_keep_55 : decode cX7_keep 55 = .ok (.if_icmp .ge 41, 3) := by decide +kernel
theorem dX7_keep_58 : decode cX7_keep 58 = .ok (.aload_n 0, 1) := by decide +kernel
theorem dX7_keep_59 : decode cX7_keep 59 = .ok (.iload_n 2, 1) := by decide +kernel
theorem dX7_keep_60 : decode cX7_keep 60 = .ok (.invokevirtual 116, 3) := by decide +kernel
theorem dX7_keep_63 : decode cX7_keep 63 = .ok (.ifCond .le 27, 3) := by decide +kernel
theorem dX7_keep_66 : decode cX7_keep 66 = .ok (.aload_n 0, 1) := by decide +kernel
theorem dX7_keep_67 : decode cX7_keep 67 = .ok (.getfield 35, 3) := by decide +kernel
theorem dX7_keep_70 : decode cX7_keep 70 = .ok (.aload_n 0, 1) := by decide +kernel
theorem dX7_keep_71 : decode cX7_keep 71 = .ok (.getfield 145, 3) := by decide +kernel
theorem dX7_keep_74 : decode cX7_keep 74 = .ok (.aload_n 0, 1) := by decide +kernel
theorem dX7_keep_75 : decode cX7_keep 75 = .ok (.iload_n 2, 1) := by decide +kernel
theorem dX7_keep_76 : decode cX7_keep 76 = .ok (.invokevirtual 119, 3) := by decide +kernel
theorem dX7_keep_79 : decode cX7_keep 79 = .ok (.iastore, 1) := by decide +kernel
theorem dX7_keep_80 : decode cX7_keep 80 = .ok (.aload_n 0, 1) := by decide +kernel
theorem dX7_keep_81 : decode cX7_keep 81 = .ok (.dup, 1) := by decide +kernel
theorem dX7_keep_82 : decode cX7_keep 82 = .ok (.getfield 145, 3) := by decide +kernel
theorem dX7_keep_85 : decode cX7_keep 85 = .ok (.iconst 1, 1) := by decide +kernel
theorem dX7_keep_86 : decode cX7_keep 86 = .ok (.iadd, 1) := by decide +kernel
theorem dX7_keep_87 : decode cX7_keep 87 = .ok (.putfield 145, 3) := by decide +kernel
theorem dX7_keep_90 : decode cX7_keep 90 = .ok (.iinc 2 1, 3) := by decide +kernel
theorem dX7_keep_93 : decode cX7_keep 93 = .ok (.goto (-43), 3) := by decide +kernel
theorem dX7_keep_96 : decode cX7_keep 96 = .ok (.iload_n 1, 1) := by decide +kernel
theorem dX7_keep_97 : decode cX7_keep 97 = .ok (.ireturn, 1) := by decide +kernel
theorem dX7_forget_0 : decode cX7_forget 0 = .ok (.aload_n 0, 1) := by decide +kernel
theorem dX7_forget_1 : decode cX7_forget 1 = .ok (.getfield 145, 3) := by decide +kernel
theorem dX7_forget_4 : decode cX7_forget 4 = .ok (.istore_n 1, 1) := by decide +kernel
theorem dX7_forget_5 : decode cX7_forget 5 = .ok (.aload_n 0, 1) := by decide +kernel
theorem dX7_forget_6 : decode cX7_forget 6 = .ok (.iconst 0, 1) := by decide +kernel
theorem dX7_forget_7 : decode cX7_forget 7 = .ok (.putfield 145, 3) := by decide +kernel
theorem dX7_forget_10 : decode cX7_forget 10 = .ok (.iload_n 1, 1) := by decide +kernel
theorem dX7_forget_11 : decode cX7_forget 11 = .ok (.ireturn, 1) := by decide +kernel
theorem dX7_common_0 : decode cX7_common 0 = .ok (.lload_n 0, 1) := by decide +kernel
theorem dX7_common_1 : decode cX7_common 1 = .ok (.lstore 4, 2) := by decide +kernel
theorem dX7_common_3 : decode cX7_common 3 = .ok (.lload_n 2, 1) := by decide +kernel
theorem dX7_common_4 : decode cX7_common 4 = .ok (.lstore 6, 2) := by decide +kernel
theorem dX7_common_6 : decode cX7_common 6 = .ok (.lload 6, 2) := by decide +kernel
theorem dX7_common_8 : decode cX7_common 8 = .ok (.lconst 0, 1) := by decide +kernel
theorem dX7_common_9 : decode cX7_common 9 = .ok (.lcmp, 1) := by decide +kernel
theorem dX7_common_10 : decode cX7_common 10 = .ok (.ifCond .eq 21, 3) := by decide +kernel
theorem dX7_common_13 : decode cX7_common 13 = .ok (.lload 4, 2) := by decide +kernel
theorem dX7_common_15 : decode cX7_common 15 = .ok (.lload 6, 2) := by decide +kernel
theorem dX7_common_17 : decode cX7_common 17 = .ok (.lrem, 1) := by decide +kernel
theorem dX7_common_18 : decode cX7_common 18 = .ok (.lstore 8, 2) := by decide +kernel
theorem dX7_common_20 : decode cX7_common 20 = .ok (.lload 6, 2) := by decide +kernel
theorem dX7_common_22 : decode cX7_common 22 = .ok (.lstore 4, 2) := by decide +kernel
theorem dX7_common_24 : decode cX7_common 24 = .ok (.lload 8, 2) := by decide +kernel
theorem dX7_common_26 : decode cX7_common 26 = .ok (.lstore 6, 2) := by decide +kernel
theorem dX7_common_28 : decode cX7_common 28 = .ok (.goto (-22), 3) := by decide +kernel
theorem dX7_common_31 : decode cX7_common 31 = .ok (.lload 4, 2) := by decide +kernel
theorem dX7_common_33 : decode cX7_common 33 = .ok (.lreturn, 1) := by decide +kernel
set_option maxRecDepth 20000 in
theorem ggX7_chance_X7_isRider : GoodIn wsX7_chance wsX7_isRider := goodIn_r _ [7, 8, 9, 10, 6, 11, 50, 51, 52, 53, 54, 55, 56, 57, 58, 59, 60, 61, 62, 63, 64, 65, 66, 67, 68, 69, 70, 71, 72, 73, 74, 75] (by decide +kernel) (by decide +kernel)
set_option maxRecDepth 20000 in
theorem gX7_chance_X7_isRider : GoodIn wsX7_chance (wsV RX7 103 RX7 yX7_isRider wsX7_isRider) := goodIn_app (goodIn_of _ (by decide +kernel)) ggX7_chance_X7_isRider
set_option maxRecDepth 20000 in
theorem ggX7_chance_X7_in : GoodIn wsX7_chance wsX7_in := goodIn_r _ [11] (by decide +kernel) (by decide +kernel)
set_option maxRecDepth 20000 in
theorem gX7_chance_X7_in : GoodIn wsX7_chance (va_wsS RX7 82 yX7_in wsX7_in) := goodIn_app (goodIn_of _ (by decide +kernel)) ggX7_chance_X7_in
set_option maxRecDepth 20000 in
theorem ggX7_chance_X7_needOf : GoodIn wsX7_chance wsX7_needOf := goodIn_r _ [15, 16, 17, 18, 6, 19, 20, 21, 22, 23, 24, 25, 8, 26, 27, 28, 29, 30, 31, 32, 33, 34, 35, 36, 37, 38, 39, 40, 41, 42, 43, 44, 45, 46, 50, 51, 52, 53, 54, 55, 56, 57, 58, 59, 60, 61, 62, 63, 64, 65, 66, 67, 68, 69, 70, 71, 72, 73, 74, 75] (by decide +kernel) (by decide +kernel)
set_option maxRecDepth 20000 in
theorem gX7_chance_X7_needOf : GoodIn wsX7_chance (wsV RX7 141 RX7 yX7_needOf wsX7_needOf) := goodIn_app (goodIn_of _ (by decide +kernel)) ggX7_chance_X7_needOf
set_option maxRecDepth 20000 in
theorem ggX7_chance_X7_common : GoodIn wsX7_chance wsX7_common := goodIn_r _ [49] (by decide +kernel) (by decide +kernel)
set_option maxRecDepth 20000 in
theorem gX7_chance_X7_common : GoodIn wsX7_chance (va_wsS RX7 148 yX7_common wsX7_common) := goodIn_app (goodIn_of _ (by decide +kernel)) ggX7_chance_X7_common
theorem dX7_chance_0 : decode cX7_chance 0 = .ok (.aload_n 0, 1) := by decide +kernel
theorem dX7_chance_1 : decode cX7_chance 1 = .ok (.iload_n 1, 1) := by decide +kernel
theorem dX7_chance_2 : decode cX7_chance 2 = .ok (.invokevirtual 103, 3) := by decide +kernel
theorem dX7_chance_5 : decode cX7_chance 5 = .ok (.ifCond .eq 21, 3) := by decide +kernel
theorem dX7_chance_8 : decode cX7_chance 8 = .ok (.iload_n 2, 1) := by decide +kernel
theorem dX7_chance_9 : decode cX7_chance 9 = .ok (.iconst 0, 1) := by decide +kernel
theorem dX7_chance_10 : decode cX7_chance 10 = .ok (.iconst 3, 1) := by decide +kernel
theorem dX7_chance_11 : decode cX7_chance 11 = .ok (.invokestatic 82, 3) := by decide +kernel
theorem dX7_chance_14 : decode cX7_chance 14 = .ok (.ifCond .eq 12, 3) := by decide +kernel
theorem dX7_chance_17 : decode cX7_chance 17 = .ok (.iload_n 3, 1) := by decide +kernel
theorem dX7_chance_18 : decode cX7_chance 18 = .ok (.iconst 0, 1) := by decide +kernel
theorem dX7_chance_19 : decode cX7_chance 19 = .ok (.iconst 1, 1) := by decide +kernel
theorem dX7_chance_20 : decode cX7_chance 20 = .ok (.invokestatic 82, 3) := by decide +kernel
theorem dX7_chance_23 : decode cX7_chance 23 = .ok (.ifCond .ne 5, 3) := by decide +kernel
theorem dX7_chance_26 : decode cX7_chance 26 = .ok (.iconst (-1), 1) := by decide +kernel
theorem dX7_chance_27 : decode cX7_chance 27 = .ok (.ireturn, 1) := by decide +kernel
theorem dX7_chance_28 : decode cX7_chance 28 = .ok (.aload_n 0, 1) := by decide +kernel
theorem dX7_chance_29 : decode cX7_chance 29 = .ok (.iload_n 1, 1) := by decide +kernel
theorem dX7_chance_30 : decode cX7_chance 30 = .ok (.iload_n 2, 1) := by decide +kernel
theorem dX7_chance_31 : decode cX7_chance 31 = .ok (.invokevirtual 141, 3) := by decide +kernel
theorem dX7_chance_34 : decode cX7_chance 34 = .ok (.istore 4, 2) := by decide +kernel
theorem dX7_chance_36 : decode cX7_chance 36 = .ok (.iload 4, 2) := by decide +kernel
theorem dX7_chance_38 : decode cX7_chance 38 = .ok (.ifCond .ge 6, 3) := by decide +kernel
theorem dX7_chance_41 : decode cX7_chance 41 = .ok (.bipush (-4), 2) := by decide +kernel
theorem dX7_chance_43 : decode cX7_chance 43 = .ok (.ireturn, 1) := by decide +kernel
theorem dX7_chance_44 : decode cX7_chance 44 = .ok (.iconst 0, 1) := by decide +kernel
theorem dX7_chance_45 : decode cX7_chance 45 = .ok (.istore 5, 2) := by decide +kernel
theorem dX7_chance_47 : decode cX7_chance 47 = .ok (.iconst 0, 1) := by decide +kernel
theorem dX7_chance_48 : decode cX7_chance 48 = .ok (.istore 6, 2) := by decide +kernel
theorem dX7_chance_50 : decode cX7_chance 50 = .ok (.iload 6, 2) := by decide +kernel
theorem dX7_chance_52 : decode cX7_chance 52 = .ok (.aload_n 0, 1) := by decide +kernel
theorem dX7_chance_53 : decode cX7_chance 53 = .ok (.getfield 145, 3) := by decide +kernel
theorem dX7_chance_56 : decode cX7_chance 56 = .ok (.if_icmp .ge 31, 3) := by decide +kernel
theorem dX7_chance_59 : decode cX7_chance 59 = .ok (.iload 5, 2) := by decide +kernel
theorem dX7_chance_61 : decode cX7_chance 61 = .ok (.aload_n 0, 1) := by decide +kernel
theorem dX7_chance_62 : decode cX7_chance 62 = .ok (.getfield 35, 3) := by decide +kernel
theorem dX7_chance_65 : decode cX7_chance 65 = .ok (.iload 6, 2) := by decide +kernel
theorem dX7_chance_67 : decode cX7_chance 67 = .ok (.iaload, 1) := by decide +kernel
theorem dX7_chance_68 : decode cX7_chance 68 = .ok (.iload 4, 2) := by decide +kernel
theorem dX7_chance_70 : decode cX7_chance 70 = .ok (.if_icmp .lt 7, 3) := by decide +kernel
theorem dX7_chance_73 : decode cX7_chance 73 = .ok (.iconst 1, 1) := by decide +kernel
theorem dX7_chance_74 : decode cX7_chance 74 = .ok (.goto 4, 3) := by decide +kernel
theorem dX7_chance_77 : decode cX7_chance 77 = .ok (.iconst 0, 1) := by decide +kernel
theorem dX7_chance_78 : decode cX7_chance 78 = .ok (.iadd, 1) := by decide +kernel
theorem dX7_chance_79 : decode cX7_chance 79 = .ok (.istore 5, 2) := by decide +kernel
theorem dX7_chance_81 : decode cX7_chance 81 = .ok (.iinc 6 1, 3) := by decide +kernel
theorem dX7_chance_84 : decode cX7_chance 84 = .ok (.goto (-34), 3) := by decide +kernel
theorem dX7_chance_87 : decode cX7_chance 87 = .ok (.iload 5, 2) := by decide +kernel
theorem dX7_chance_89 : decode cX7_chance 89 = .ok (.ifCond .ne 5, 3) := by decide +kernel
theorem dX7_chance_92 : decode cX7_chance 92 = .ok (.iload_n 3, 1) := by decide +kernel
theorem dX7_chance_93 : decode cX7_chance 93 = .ok (.ireturn, 1) := by decide +kernel
theorem dX7_chance_94 : decode cX7_chance 94 = .ok (.iload 5, 2) := by decide +kernel
theorem dX7_chance_96 : decode cX7_chance 96 = .ok (.i2l, 1) := by decide +kernel
theorem dX7_chance_97 : decode cX7_chance 97 = .ok (.aload_n 0, 1) := by decide +kernel
theorem dX7_chance_98 : decode cX7_chance 98 = .ok (.getfield 145, 3) := by decide +kernel
theorem dX7_chance_101 : decode cX7_chance 101 = .ok (.i2l, 1) := by decide +kernel
theorem dX7_chance_102 : decode cX7_chance 102 = .ok (.invokestatic 148, 3) := by decide +kernel
theorem dX7_chance_105 : decode cX7_chance 105 = .ok (.l2i, 1) := by decide +kernel
theorem dX7_chance_106 : decode cX7_chance 106 = .ok (.istore 6, 2) := by decide +kernel
theorem dX7_chance_108 : decode cX7_chance 108 = .ok (.iload_n 3, 1) := by decide +kernel
theorem dX7_chance_109 : decode cX7_chance 109 = .ok (.ifCond .ne 8, 3) := by decide +kernel
theorem dX7_chance_112 : decode cX7_chance 112 = .ok (.iload 5, 2) := by decide +kernel
theorem dX7_chance_114 : decode cX7_chance 114 = .ok (.goto 7, 3) := by decide +kernel
theorem dX7_chance_117 : decode cX7_chance 117 = .ok (.aload_n 0, 1) := by decide +kernel
theorem dX7_chance_118 : decode cX7_chance 118 = .ok (.getfield 145, 3) := by decide +kernel
theorem dX7_chance_121 : decode cX7_chance 121 = .ok (.iload 6, 2) := by decide +kernel
theorem dX7_chance_123 : decode cX7_chance 123 = .ok (.idiv, 1) := by decide +kernel
theorem dX7_chance_124 : decode cX7_chance 124 = .ok (.ireturn, 1) := by decide +kernel
set_option maxRecDepth 20000 in
theorem ggX7_goThrough_X7_ridesOf : GoodIn wsX7_goThrough wsX7_ridesOf := goodIn_r _ [10, 1, 11, 41, 42, 43, 44, 45, 46, 47, 48, 49, 50, 51, 52, 53, 54, 55, 56, 57, 58, 59, 60, 61, 62, 63, 64, 65, 66] (by decide +kernel) (by decide +kernel)
set_option maxRecDepth 20000 in
theorem gX7_goThrough_X7_ridesOf : GoodIn wsX7_goThrough (wsV RX7 135 RX7 yX7_ridesOf wsX7_ridesOf) := goodIn_app (goodIn_of _ (by decide +kernel)) ggX7_goThrough_X7_ridesOf
set_option maxRecDepth 20000 in
theorem ggX7_goThrough_X7_wins : GoodIn wsX7_goThrough wsX7_wins := goodIn_r _ [15, 1, 5, 16, 17, 18, 9, 19, 2, 20, 21, 22, 23, 24, 25, 26, 27, 28, 29, 30, 31, 32, 33, 34, 35, 36, 37, 38, 39, 40, 41, 42, 43, 44, 45, 46, 47, 48, 49, 50, 51, 52, 53, 54, 55, 56, 57, 58, 59, 60, 61, 62, 63, 64, 65, 66] (by decide +kernel) (by decide +kernel)
set_option maxRecDepth 20000 in
theorem gX7_goThrough_X7_wins : GoodIn wsX7_goThrough (wsV RX7 152 RX7 yX7_wins wsX7_wins) := goodIn_app (goodIn_of _ (by decide +kernel)) ggX7_goThrough_X7_wins
theorem dX7_goThrough_0 : decode cX7_goThrough 0 = .ok (.iconst 1, 1) := by decide +kernel
theorem dX7_goThrough_1 : decode cX7_goThrough 1 = .ok (.istore_n 2, 1) := by decide +kernel
theorem dX7_goThrough_2 : decode cX7_goThrough 2 = .ok (.iconst 0, 1) := by decide +kernel
theorem dX7_goThrough_3 : decode cX7_goThrough 3 = .ok (.istore_n 3, 1) := by decide +kernel
theorem dX7_goThrough_4 : decode cX7_goThrough 4 = .ok (.iload_n 3, 1) := by decide +kernel
theorem dX7_goThrough_5 : decode cX7_goThrough 5 = .ok (.aload_n 0, 1) := by decide +kernel
theorem dX7_goThrough_6 : decode cX7_goThrough 6 = .ok (.getfield 86, 3) := by decide +kernel
theorem dX7_goThrough_9 : decode cX7_goThrough 9 = .ok (.if_icmp .ge 16, 3) := by decide +kernel
theorem dX7_goThrough_12 : decode cX7_goThrough 12 = .ok (.iload_n 2, 1) := by decide +kernel
theorem dX7_goThrough_13 : decode cX7_goThrough 13 = .ok (.aload_n 0, 1) := by decide +kernel
theorem dX7_goThrough_14 : decode cX7_goThrough 14 = .ok (.getfield 7, 3) := by decide +kernel
theorem dX7_goThrough_17 : decode cX7_goThrough 17 = .ok (.imul, 1) := by decide +kernel
theorem dX7_goThrough_18 : decode cX7_goThrough 18 = .ok (.istore_n 2, 1) := by decide +kernel
theorem dX7_goThrough_19 : decode cX7_goThrough 19 = .ok (.iinc 3 1, 3) := by decide +kernel
theorem dX7_goThrough_22 : decode cX7_goThrough 22 = .ok (.goto (-18), 3) := by decide +kernel
theorem dX7_goThrough_25 : decode cX7_goThrough 25 = .ok (.iconst 0, 1) := by decide +kernel
theorem dX7_goThrough_26 : decode cX7_goThrough 26 = .ok (.istore_n 3, 1) := by decide +kernel
theorem dX7_goThrough_27 : decode cX7_goThrough 27 = .ok (.iload_n 3, 1) := by decide +kernel
theorem dX7_goThrough_28 : decode cX7_goThrough 28 = .ok (.aload_n 0, 1) := by decide +kernel
theorem dX7_goThrough_29 : decode cX7_goThrough 29 = .ok (.getfield 7, 3) := by decide +kernel
theorem dX7_goThrough_32 : decode cX7_goThrough 32 = .ok (.if_icmp .ge 20, 3) := by decide +kernel
theorem dX7_goThrough_35 : decode cX7_goThrough 35 = .ok (.aload_n 0, 1) := by decide +kernel
theorem dX7_goThrough_36 : decode cX7_goThrough 36 = .ok (.getfield 65, 3) := by decide +kernel
theorem dX7_goThrough_39 : decode cX7_goThrough 39 = .ok (.iload_n 3, 1) := by decide +kernel
theorem dX7_goThrough_40 : decode cX7_goThrough 40 = .ok (.aload_n 0, 1) := by decide +kernel
theorem dX7_goThrough_41 : decode cX7_goThrough 41 = .ok (.iload_n 3, 1) := by decide +kernel
theorem dX7_goThrough_42 : decode cX7_goThrough 42 = .ok (.invokevirtual 135, 3) := by decide +kernel
theorem dX7_goThrough_45 : decode cX7_goThrough 45 = .ok (.iastore, 1) := by decide +kernel
theorem dX7_goThrough_46 : decode cX7_goThrough 46 = .ok (.iinc 3 1, 3) := by decide +kernel
theorem dX7_goThrough_49 : decode cX7_goThrough 49 = .ok (.goto (-22), 3) := by decide +kernel
theorem dX7_goThrough_52 : decode cX7_goThrough 52 = .ok (.iconst 0, 1) := by decide +kernel
theorem dX7_goThrough_53 : decode cX7_goThrough 53 = .ok (.istore_n 3, 1) := by decide +kernel
theorem dX7_goThrough_54 : decode cX7_goThrough 54 = .ok (.iconst 0, 1) := by decide +kernel
theorem dX7_goThrough_55 : decode cX7_goThrough 55 = .ok (.istore 4, 2) := by decide +kernel
theorem dX7_goThrough_57 : decode cX7_goThrough 57 = .ok (.iload 4, 2) := by decide +kernel
theorem dX7_goThrough_59 : decode cX7_goThrough 59 = .ok (.iload_n 2, 1) := by decide +kernel
theorem dX7_goThrough_60 : decode cX7_goThrough 60 = .ok (.if_icmp .ge 157, 3) := by decide +kernel
theorem dX7_goThrough_63 : decode cX7_goThrough 63 = .ok (.iload 4, 2) := by decide +kernel
theorem dX7_goThrough_65 : decode cX7_goThrough 65 = .ok (.istore 5, 2) := by decide +kernel
theorem dX7_goThrough_67 : decode cX7_goThrough 67 = .ok (.iconst 0, 1) := by decide +kernel
theorem dX7_goThrough_68 : decode cX7_goThrough 68 = .ok (.istore 6, 2) := by decide +kernel
theorem dX7_goThrough_70 : decode cX7_goThrough 70 = .ok (.iload 6, 2) := by decide +kernel
theorem dX7_goThrough_72 : decode cX7_goThrough 72 = .ok (.aload_n 0, 1) := by decide +kernel
theorem dX7_goThrough_73 : decode cX7_goThrough 73 = .ok (.getfield 7, 3) := by decide +kernel
theorem dX7_goThrough_76 : decode cX7_goThrough 76 = .ok (.if_icmp .ge 23, 3) := by decide +kernel
theorem dX7_goThrough_79 : decode cX7_goThrough 79 = .ok (.aload_n 0, 1) := by decide +kernel
theorem dX7_goThrough_80 : decode cX7_goThrough 80 = .ok (.getfield 62, 3) := by decide +kernel
theorem dX7_goThrough_83 : decode cX7_goThrough 83 = .ok (.iload 6, 2) := by decide +kernel
theorem dX7_goThrough_85 : decode cX7_goThrough 85 = .ok (.aload_n 0, 1) := by decide +kernel
theorem dX7_goThrough_86 : decode cX7_goThrough 86 = .ok (.getfield 65, 3) := by decide +kernel
theorem dX7_goThrough_89 : decode cX7_goThrough 89 = .ok (.iload 6, 2) := by decide +kernel
theorem dX7_goThrough_91 : decode cX7_goThrough 91 = .ok (.iaload, 1) := by decide +kernel
theorem dX7_goThrough_92 : decode cX7_goThrough 92 = .ok (.iastore, 1) := by decide +kernel
theorem dX7_goThrough_93 : decode cX7_goThrough 93 = .ok (.iinc 6 1, 3) := by decide +kernel
theorem dX7_goThrough_96 : decode cX7_goThrough 96 = .ok (.goto (-26), 3) := by decide +kernel
theorem dX7_goThrough_99 : decode cX7_goThrough 99 = .ok (.iconst 1, 1) := by decide +kernel
theorem dX7_goThrough_100 : decode cX7_goThrough 100 = .ok (.istore 6, 2) := by decide +kernel
theorem dX7_goThrough_102 : decode cX7_goThrough 102 = .ok (.iconst 0, 1) := by decide +kernel
theorem dX7_goThrough_103 : decode cX7_goThrough 103 = .ok (.istore 7, 2) := by decide +kernel
theorem dX7_goThrough_105 : decode cX7_goThrough 105 = .ok (.iload 7, 2) := by decide +kernel
theorem dX7_goThrough_107 : decode cX7_goThrough 107 = .ok (.aload_n 0, 1) := by decide +kernel
theorem dX7_goThrough_108 : decode cX7_goThrough 108 = .ok (.getfield 86, 3) := by decide +kernel
theorem dX7_goThrough_111 : decode cX7_goThrough 111 = .ok (.if_icmp .ge 75, 3) := by decide +kernel
theorem dX7_goThrough_114 : decode cX7_goThrough 114 = .ok (.aload_n 0, 1) := by decide +kernel
theorem dX7_goThrough_115 : decode cX7_goThrough 115 = .ok (.getfield 59, 3) := by decide +kernel
theorem dX7_goThrough_118 : decode cX7_goThrough 118 = .ok (.iload 7, 2) := by decide +kernel
theorem dX7_goThrough_120 : decode cX7_goThrough 120 = .ok (.iload 5, 2) := by decide +kernel
theorem dX7_goThrough_122 : decode cX7_goThrough 122 = .ok (.aload_n 0, 1) := by decide +kernel
theorem dX7_goThrough_123 : decode cX7_goThrough 123 = .ok (.getfield 7, 3) := by decide +kernel
theorem dX7_goThrough_126 : decode cX7_goThrough 126 = .ok (.irem, 1) := by decide +kernel
theorem dX7_goThrough_127 : decode cX7_goThrough 127 = .ok (.iastore, 1) := by decide +kernel
theorem dX7_goThrough_128 : decode cX7_goThrough 128 = .ok (.iload 5, 2) := by decide +kernel
theorem dX7_goThrough_130 : decode cX7_goThrough 130 = .ok (.aload_n 0, 1) := by decide +kernel
theorem dX7_goThrough_131 : decode cX7_goThrough 131 = .ok (.getfield 7, 3) := by decide +kernel
theorem dX7_goThrough_134 : decode cX7_goThrough 134 = .ok (.idiv, 1) := by decide +kernel
theorem dX7_goThrough_135 : decode cX7_goThrough 135 = .ok (.istore 5, 2) := by decide +kernel
theorem dX7_goThrough_137 : decode cX7_goThrough 137 = .ok (.aload_n 0, 1) := by decide +kernel
theorem dX7_goThrough_138 : decode cX7_goThrough 138 = .ok (.getfield 62, 3) := by decide +kernel
theorem dX7_goThrough_141 : decode cX7_goThrough 141 = .ok (.aload_n 0, 1) := by decide +kernel
theorem dX7_goThrough_142 : decode cX7_goThrough 142 = .ok (.getfield 59, 3) := by decide +kernel
theorem dX7_goThrough_145 : decode cX7_goThrough 145 = .ok (.iload 7, 2) := by decide +kernel
theorem dX7_goThrough_147 : decode cX7_goThrough 147 = .ok (.iaload, 1) := by decide +kernel
theorem dX7_goThrough_148 : decode cX7_goThrough 148 = .ok (.dup2, 1) := by decide +kernel
theorem dX7_goThrough_149 : decode cX7_goThrough 149 = .ok (.iaload, 1) := by decide +kernel
theorem dX7_goThrough_150 : decode cX7_goThrough 150 = .ok (.iconst 1, 1) := by decide +kernel
theorem dX7_goThrough_151 : decode cX7_goThrough 151 = .ok (.isub, 1) := by decide +kernel
theorem dX7_goThrough_152 : decode cX7_goThrough 152 = .ok (.iastore, 1) := by decide +kernel
theorem dX7_goThrough_153 : decode cX7_goThrough 153 = .ok (.iload 6, 2) := by decide +kernel
theorem dX7_goThrough_155 : decode cX7_goThrough 155 = .ok (.ifCond .eq 22, 3) := by decide +kernel
theorem dX7_goThrough_158 : decode cX7_goThrough 158 = .ok (.aload_n 0, 1) := by decide +kernel
theorem dX7_goThrough_159 : decode cX7_goThrough 159 = .ok (.getfield 62, 3) := by decide +kernel
theorem dX7_goThrough_162 : decode cX7_goThrough 162 = .ok (.aload_n 0, 1) := by decide +kernel
theorem dX7_goThrough_163 : decode cX7_goThrough 163 = .ok (.getfield 59, 3) := by decide +kernel
theorem dX7_goThrough_166 : decode cX7_goThrough 166 = .ok (.iload 7, 2) := by decide +kernel
theorem dX7_goThrough_168 : decode cX7_goThrough 168 = .ok (.iaload, 1) := by decide +kernel
theorem dX7_goThrough_169 : decode cX7_goThrough 169 = .ok (.iaload, 1) := by decide +kernel
theorem dX7_goThrough_170 : decode cX7_goThrough 170 = .ok (.ifCond .lt 7, 3) := by decide +kernel
theorem dX7_goThrough_173 : decode cX7_goThrough 173 = .ok (.iconst 1, 1) := by decide +kernel
theorem dX7_goThrough_174 : decode cX7_goThrough 174 = .ok (.goto 4, 3) := by decide +kernel
theorem dX7_goThrough_177 : decode cX7_goThrough 177 = .ok (.iconst 0, 1) := by decide +kernel
theorem dX7_goThrough_178 : decode cX7_goThrough 178 = .ok (.istore 6, 2) := by decide +kernel
theorem dX7_goThrough_180 : decode cX7_goThrough 180 = .ok (.iinc 7 1, 3) := by decide +kernel
theorem dX7_goThrough_183 : decode cX7_goThrough 183 = .ok (.goto (-78), 3) := by decide +kernel
theorem dX7_goThrough_186 : decode cX7_goThrough 186 = .ok (.iload 6, 2) := by decide +kernel
theorem dX7_goThrough_188 : decode cX7_goThrough 188 = .ok (.ifCond .eq 23, 3) := by decide +kernel
theorem dX7_goThrough_191 : decode cX7_goThrough 191 = .ok (.iload_n 3, 1) := by decide +kernel
theorem dX7_goThrough_192 : decode cX7_goThrough 192 = .ok (.iload_n 1, 1) := by decide +kernel
theorem dX7_goThrough_193 : decode cX7_goThrough 193 = .ok (.ifCond .lt 11, 3) := by decide +kernel
theorem dX7_goThrough_196 : decode cX7_goThrough 196 = .ok (.aload_n 0, 1) := by decide +kernel
theorem dX7_goThrough_197 : decode cX7_goThrough 197 = .ok (.iload_n 1, 1) := by decide +kernel
theorem dX7_goThrough_198 : decode cX7_goThrough 198 = .ok (.invokevirtual 152, 3) := by decide +kernel
theorem dX7_goThrough_201 : decode cX7_goThrough 201 = .ok (.ifCond .eq 7, 3) := by decide +kernel
theorem dX7_goThrough_204 : decode cX7_goThrough 204 = .ok (.iconst 1, 1) := by decide +kernel
theorem dX7_goThrough_205 : decode cX7_goThrough 205 = .ok (.goto 4, 3) := by decide +kernel
theorem dX7_goThrough_208 : decode cX7_goThrough 208 = .ok (.iconst 0, 1) := by decide +kernel
theorem dX7_goThrough_209 : decode cX7_goThrough 209 = .ok (.iadd, 1) := by decide +kernel
theorem dX7_goThrough_210 : decode cX7_goThrough 210 = .ok (.istore_n 3, 1) := by decide +kernel
theorem dX7_goThrough_211 : decode cX7_goThrough 211 = .ok (.iinc 4 1, 3) := by decide +kernel
theorem dX7_goThrough_214 : decode cX7_goThrough 214 = .ok (.goto (-157), 3) := by decide +kernel
theorem dX7_goThrough_217 : decode cX7_goThrough 217 = .ok (.iload_n 3, 1) := by decide +kernel
theorem dX7_goThrough_218 : decode cX7_goThrough 218 = .ok (.ireturn, 1) := by decide +kernel
set_option maxRecDepth 20000 in
theorem ggX7_wins_X7_clearBest : GoodIn wsX7_wins wsX7_clearBest := goodIn_r _ [7, 8, 9, 10, 30, 31, 32, 33, 34, 35, 36, 37, 38, 39, 40, 41, 42, 43, 44, 45, 46, 47, 48, 49, 50, 51, 52, 53, 54, 55] (by decide +kernel) (by decide +kernel)
set_option maxRecDepth 20000 in
theorem gX7_wins_X7_clearBest : GoodIn wsX7_wins (wsV RX7 122 RX7 yX7_clearBest wsX7_clearBest) := goodIn_app (goodIn_of _ (by decide +kernel)) ggX7_wins_X7_clearBest
set_option maxRecDepth 20000 in
theorem ggX7_wins_X7_scoreOf : GoodIn wsX7_wins wsX7_scoreOf := goodIn_r _ [14, 15, 30, 31, 32, 33, 34, 35, 36, 37, 38, 39, 40, 41, 42, 43, 44, 45, 46, 47, 48, 49, 50, 51, 52, 53, 54, 55] (by decide +kernel) (by decide +kernel)
set_option maxRecDepth 20000 in
theorem gX7_wins_X7_scoreOf : GoodIn wsX7_wins (wsV RX7 119 RX7 yX7_scoreOf wsX7_scoreOf) := goodIn_app (goodIn_of _ (by decide +kernel)) ggX7_wins_X7_scoreOf
set_option maxRecDepth 20000 in
theorem ggX7_wins_X7_counts : GoodIn wsX7_wins wsX7_counts := goodIn_r _ [19, 9, 10, 30, 31, 32, 33, 34, 35, 36, 37, 38, 39, 40, 41, 42, 43, 44, 45, 46, 47, 48, 49, 50, 51, 52, 53, 54, 55] (by decide +kernel) (by decide +kernel)
set_option maxRecDepth 20000 in
theorem gX7_wins_X7_counts : GoodIn wsX7_wins (wsV RX7 125 RX7 yX7_counts wsX7_counts) := goodIn_app (goodIn_of _ (by decide +kernel)) ggX7_wins_X7_counts
set_option maxRecDepth 20000 in
theorem ggX7_wins_X7_findTotals : GoodIn wsX7_wins wsX7_findTotals := goodIn_r _ [23, 8, 24, 25, 9, 10, 30, 31, 32, 33, 34, 35, 36, 37, 38, 39, 40, 41, 42, 43, 44, 45, 46, 47, 48, 49, 50, 51, 52, 53, 54, 55] (by decide +kernel) (by decide +kernel)
set_option maxRecDepth 20000 in
theorem gX7_wins_X7_findTotals : GoodIn wsX7_wins (wsV RX7 129 RX7 yX7_findTotals wsX7_findTotals) := goodIn_app (goodIn_of _ (by decide +kernel)) ggX7_wins_X7_findTotals
set_option maxRecDepth 20000 in
theorem ggX7_wins_X7_placeOf : GoodIn wsX7_wins wsX7_placeOf := goodIn_r _ [29, 8, 24, 9, 30, 31, 32, 33, 34, 35, 36, 37, 38, 39, 40, 41, 42, 43, 44, 45, 46, 47, 48, 49, 50, 51, 52, 53, 54, 55] (by decide +kernel) (by decide +kernel)
set_option maxRecDepth 20000 in
theorem gX7_wins_X7_placeOf : GoodIn wsX7_wins (wsV RX7 138 RX7 yX7_placeOf wsX7_placeOf) := goodIn_app (goodIn_of _ (by decide +kernel)) ggX7_wins_X7_placeOf
theorem dX7_wins_0 : decode cX7_wins 0 = .ok (.aload_n 0, 1) := by decide +kernel
theorem dX7_wins_1 : decode cX7_wins 1 = .ok (.invokevirtual 122, 3) := by decide +kernel
theorem dX7_wins_4 : decode cX7_wins 4 = .ok (.iconst 0, 1) := by decide +kernel
theorem dX7_wins_5 : decode cX7_wins 5 = .ok (.istore_n 2, 1) := by decide +kernel
theorem dX7_wins_6 : decode cX7_wins 6 = .ok (.iload_n 2, 1) := by decide +kernel
theorem dX7_wins_7 : decode cX7_wins 7 = .ok (.aload_n 0, 1) := by decide +kernel
theorem dX7_wins_8 : decode cX7_wins 8 = .ok (.getfield 86, 3) := by decide +kernel
theorem dX7_wins_11 : decode cX7_wins 11 = .ok (.if_icmp .ge 24, 3) := by decide +kernel
theorem dX7_wins_14 : decode cX7_wins 14 = .ok (.aload_n 0, 1) := by decide +kernel
theorem dX7_wins_15 : decode cX7_wins 15 = .ok (.aload_n 0, 1) := by decide +kernel
theorem dX7_wins_16 : decode cX7_wins 16 = .ok (.getfield 59, 3) := by decide +kernel
theorem dX7_wins_19 : decode cX7_wins 19 = .ok (.iload_n 2, 1) := by decide +kernel
theorem dX7_wins_20 : decode cX7_wins 20 = .ok (.iaload, 1) := by decide +kernel
theorem dX7_wins_21 : decode cX7_wins 21 = .ok (.aload_n 0, 1) := by decide +kernel
theorem dX7_wins_22 : decode cX7_wins 22 = .ok (.iload_n 2, 1) := by decide +kernel
theorem dX7_wins_23 : decode cX7_wins 23 = .ok (.invokevirtual 119, 3) := by decide +kernel
theorem dX7_wins_26 : decode cX7_wins 26 = .ok (.invokevirtual 125, 3) := by decide +kernel
theorem dX7_wins_29 : decode cX7_wins 29 = .ok (.iinc 2 1, 3) := by decide +kernel
theorem dX7_wins_32 : decode cX7_wins 32 = .ok (.goto (-26), 3) := by decide +kernel
theorem dX7_wins_35 : decode cX7_wins 35 = .ok (.aload_n 0, 1) := by decide +kernel
theorem dX7_wins_36 : decode cX7_wins 36 = .ok (.invokevirtual 129, 3) := by decide +kernel
theorem dX7_wins_39 : decode cX7_wins 39 = .ok (.aload_n 0, 1) := by decide +kernel
theorem dX7_wins_40 : decode cX7_wins 40 = .ok (.iload_n 1, 1) := by decide +kernel
theorem dX7_wins_41 : decode cX7_wins 41 = .ok (.invokevirtual 138, 3) := by decide +kernel
theorem dX7_wins_44 : decode cX7_wins 44 = .ok (.ifCond .ne 7, 3) := by decide +kernel
theorem dX7_wins_47 : decode cX7_wins 47 = .ok (.iconst 1, 1) := by decide +kernel
theorem dX7_wins_48 : decode cX7_wins 48 = .ok (.goto 4, 3) := by decide +kernel
theorem dX7_wins_51 : decode cX7_wins 51 = .ok (.iconst 0, 1) := by decide +kernel
theorem dX7_wins_52 : decode cX7_wins 52 = .ok (.ireturn, 1) := by decide +kernel
set_option maxRecDepth 20000 in
theorem ggX7_ways_X7_goThrough : GoodIn wsX7_ways wsX7_goThrough := goodIn_r _ [6, 1, 7, 8, 9, 10, 11, 12, 13, 5, 14, 15, 16, 17, 18, 19, 20, 21, 22, 23, 24, 25, 26, 27, 28, 29, 30, 31, 32, 33, 34, 35, 36, 37, 38, 39, 40, 41, 42, 43, 44, 45, 46, 47, 48, 49, 50, 51, 52, 53, 54, 55, 56, 57, 58, 59, 60, 61, 62, 63, 64, 65, 66, 67, 68, 69, 70] (by decide +kernel) (by decide +kernel)
set_option maxRecDepth 20000 in
theorem gX7_ways_X7_goThrough : GoodIn wsX7_ways (wsV RX7 155 RX7 yX7_goThrough wsX7_goThrough) := goodIn_app (goodIn_of _ (by decide +kernel)) ggX7_ways_X7_goThrough
theorem dX7_ways_0 : decode cX7_ways 0 = .ok (.aload_n 0, 1) := by decide +kernel
theorem dX7_ways_1 : decode cX7_ways 1 = .ok (.getfield 86, 3) := by decide +kernel
theorem dX7_ways_4 : decode cX7_ways 4 = .ok (.bipush 8, 2) := by decide +kernel
theorem dX7_ways_6 : decode cX7_ways 6 = .ok (.if_icmp .le 8, 3) := by decide +kernel
theorem dX7_ways_9 : decode cX7_ways 9 = .ok (.bipush (-5), 2) := by decide +kernel
theorem dX7_ways_11 : decode cX7_ways 11 = .ok (.goto 8, 3) := by decide +kernel
theorem dX7_ways_14 : decode cX7_ways 14 = .ok (.aload_n 0, 1) := by decide +kernel
theorem dX7_ways_15 : decode cX7_ways 15 = .ok (.iconst (-1), 1) := by decide +kernel
theorem dX7_ways_16 : decode cX7_ways 16 = .ok (.invokevirtual 155, 3) := by decide +kernel
theorem dX7_ways_19 : decode cX7_ways 19 = .ok (.ireturn, 1) := by decide +kernel
set_option maxRecDepth 20000 in
theorem ggX7_luck_X7_isRider : GoodIn wsX7_luck wsX7_isRider := goodIn_r _ [6, 7, 8, 9, 5, 10, 52, 53, 54, 55, 56, 57, 58, 59, 60, 61, 62, 63, 64, 65, 66, 67, 68, 69, 70, 71, 72, 73, 74, 75, 76, 77] (by decide +kernel) (by decide +kernel)
set_option maxRecDepth 20000 in
theorem gX7_luck_X7_isRider : GoodIn wsX7_luck (wsV RX7 103 RX7 yX7_isRider wsX7_isRider) := goodIn_app (goodIn_of _ (by decide +kernel)) ggX7_luck_X7_isRider
set_option maxRecDepth 20000 in
theorem ggX7_luck_X7_goThrough : GoodIn wsX7_luck wsX7_goThrough := goodIn_r _ [14, 1, 7, 15, 16, 17, 18, 19, 20, 5, 21, 22, 23, 24, 25, 26, 27, 28, 29, 30, 31, 32, 33, 34, 35, 36, 37, 38, 39, 40, 41, 42, 43, 44, 45, 46, 47, 48, 49, 50, 51, 52, 53, 54, 55, 56, 57, 58, 59, 60, 61, 62, 63, 64, 65, 66, 67, 68, 69, 70, 71, 72, 73, 74, 75, 76, 77] (by decide +kernel) (by decide +kernel)
set_option maxRecDepth 20000 in
theorem gX7_luck_X7_goThrough : GoodIn wsX7_luck (wsV RX7 155 RX7 yX7_goThrough wsX7_goThrough) := goodIn_app (goodIn_of _ (by decide +kernel)) ggX7_luck_X7_goThrough
theorem dX7_luck_0 : decode cX7_luck 0 = .ok (.aload_n 0, 1) := by decide +kernel
theorem dX7_luck_1 : decode cX7_luck 1 = .ok (.iload_n 1, 1) := by decide +kernel
theorem dX7_luck_2 : decode cX7_luck 2 = .ok (.invokevirtual 103, 3) := by decide +kernel
theorem dX7_luck_5 : decode cX7_luck 5 = .ok (.ifCond .ne 5, 3) := by decide +kernel
theorem dX7_luck_8 : decode cX7_luck 8 = .ok (.iconst (-1), 1) := by decide +kernel
theorem dX7_luck_9 : decode cX7_luck 9 = .ok (.ireturn, 1) := by decide +kernel
theorem dX7_luck_10 : decode cX7_luck 10 = .ok (.aload_n 0, 1) := by decide +kernel
theorem dX7_luck_11 : decode cX7_luck 11 = .ok (.getfield 86, 3) := by decide +kernel
theorem dX7_luck_14 : decode cX7_luck 14 = .ok (.bipush 8, 2) := by decide +kernel
theorem dX7_luck_16 : decode cX7_luck 16 = .ok (.if_icmp .le 8, 3) := by decide +kernel
theorem dX7_luck_19 : decode cX7_luck 19 = .ok (.bipush (-5), 2) := by decide +kernel
theorem dX7_luck_21 : decode cX7_luck 21 = .ok (.goto 8, 3) := by decide +kernel
theorem dX7_luck_24 : decode cX7_luck 24 = .ok (.aload_n 0, 1) := by decide +kernel
theorem dX7_luck_25 : decode cX7_luck 25 = .ok (.iload_n 1, 1) := by decide +kernel
theorem dX7_luck_26 : decode cX7_luck 26 = .ok (.invokevirtual 155, 3) := by decide +kernel
theorem dX7_luck_29 : decode cX7_luck 29 = .ok (.ireturn, 1) := by decide +kernel
theorem dX7_beginDays_0 : decode cX7_beginDays 0 = .ok (.aload_n 0, 1) := by decide +kernel
theorem dX7_beginDays_1 : decode cX7_beginDays 1 = .ok (.iload_n 1, 1) := by decide +kernel
theorem dX7_beginDays_2 : decode cX7_beginDays 2 = .ok (.putfield 38, 3) := by decide +kernel
theorem dX7_beginDays_5 : decode cX7_beginDays 5 = .ok (.iconst 0, 1) := by decide +kernel
theorem dX7_beginDays_6 : decode cX7_beginDays 6 = .ok (.istore_n 2, 1) := by decide +kernel
theorem dX7_beginDays_7 : decode cX7_beginDays 7 = .ok (.iload_n 2, 1) := by decide +kernel
theorem dX7_beginDays_8 : decode cX7_beginDays 8 = .ok (.iload_n 1, 1) := by decide +kernel
theorem dX7_beginDays_9 : decode cX7_beginDays 9 = .ok (.if_icmp .ge 31, 3) := by decide +kernel
theorem dX7_beginDays_12 : decode cX7_beginDays 12 = .ok (.aload_n 0, 1) := by decide +kernel
theorem dX7_beginDays_13 : decode cX7_beginDays 13 = .ok (.getfield 41, 3) := by decide +kernel
theorem dX7_beginDays_16 : decode cX7_beginDays 16 = .ok (.iload_n 2, 1) := by decide +kernel
theorem dX7_beginDays_17 : decode cX7_beginDays 17 = .ok (.iconst 0, 1) := by decide +kernel
theorem dX7_beginDays_18 : decode cX7_beginDays 18 = .ok (.iastore, 1) := by decide +kernel
theorem dX7_beginDays_19 : decode cX7_beginDays 19 = .ok (.aload_n 0, 1) := by decide +kernel
theorem dX7_beginDays_20 : decode cX7_beginDays 20 = .ok (.getfield 44, 3) := by decide +kernel
theorem dX7_beginDays_23 : decode cX7_beginDays 23 = .ok (.iload_n 2, 1) := by decide +kernel
theorem dX7_beginDays_24 : decode cX7_beginDays 24 = .ok (.bipush 9, 2) := by decide +kernel
theorem dX7_beginDays_26 : decode cX7_beginDays 26 = .ok (.iastore, 1) := by decide +kernel
theorem dX7_beginDays_27 : decode cX7_beginDays 27 = .ok (.aload_n 0, 1) := by decide +kernel
theorem dX7_beginDays_28 : decode cX7_beginDays 28 = .ok (.getfield 47, 3) := by decide +kernel
theorem dX7_beginDays_31 : decode cX7_beginDays 31 = .ok (.iload_n 2, 1) := by decide +kernel
theorem dX7_beginDays_32 : decode cX7_beginDays 32 = .ok (.iconst (-1), 1) := by decide +kernel
theorem dX7_beginDays_33 : decode cX7_beginDays 33 = .ok (.iastore, 1) := by decide +kernel
