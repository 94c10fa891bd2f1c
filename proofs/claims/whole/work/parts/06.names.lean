set_option maxRecDepth 20000 in
theorem gX6_chance_X6_isAboveOrBelow : GoodIn wsX6_chance (va_wsS RX6 133 yX6_isAboveOrBelow wsX6_isAboveOrBelow) := goodIn_app (goodIn_of _ (by decide +kernel)) ggX6_chance_X6_isAboveOrBelow
set_option maxRecDepth 20000 in
theorem ggX6_chance_X6_need : GoodIn wsX6_chance wsX6_need := goodIn_r _ [10, 11, 12, 13, 14, 15, 16, 17, 18, 19, 20, 21, 22, 23, 24, 25, 26, 27, 28, 29, 30, 31, 32, 33, 34, 35, 36, 37, 38, 39, 40, 41, 42, 43, 44, 45, 46, 47, 48, 49, 50, 51, 52, 53, 54, 55, 56, 57, 58, 59, 60, 61, 75, 76, 77, 80, 81, 82, 83, 84, 85, 86, 87, 88, 89, 90, 91, 92, 93, 94] (by decide +kernel) (by decide +kernel)
set_option maxRecDepth 20000 in
theorem gX6_chance_X6_need : GoodIn wsX6_chance (wsV RX6 136 RX6 yX6_need wsX6_need) := goodIn_app (goodIn_of _ (by decide +kernel)) ggX6_chance_X6_need
set_option maxRecDepth 20000 in
theorem ggX6_chance_X3_notBelow : GoodIn wsX6_chance wsX3_notBelow := goodIn_r _ [66, 67, 68, 78, 79] (by decide +kernel) (by decide +kernel)
set_option maxRecDepth 20000 in
theorem gX6_chance_X3_notBelow : GoodIn wsX6_chance (wsV RX6 139 RX3 yX3_notBelow wsX3_notBelow) := goodIn_app (goodIn_of _ (by decide +kernel)) ggX6_chance_X3_notBelow
set_option maxRecDepth 20000 in
theorem ggX6_chance_X6_cleared : GoodIn wsX6_chance wsX6_cleared := goodIn_r _ [71, 72, 73, 5, 74] (by decide +kernel) (by decide +kernel)
set_option maxRecDepth 20000 in
theorem gX6_chance_X6_cleared : GoodIn wsX6_chance (va_wsS RX6 142 yX6_cleared wsX6_cleared) := goodIn_app (goodIn_of _ (by decide +kernel)) ggX6_chance_X6_cleared
theorem dX6_chance_0 : decode cX6_chance 0 = .ok (.iload_n 3, 1) := by decide +kernel
theorem dX6_chance_1 : decode cX6_chance 1 = .ok (.invokestatic 133, 3) := by decide +kernel
theorem dX6_chance_4 : decode cX6_chance 4 = .ok (.ifCond .ne 5, 3) := by decide +kernel
theorem dX6_chance_7 : decode cX6_chance 7 = .ok (.iconst (-1), 1) := by decide +kernel
theorem dX6_chance_8 : decode cX6_chance 8 = .ok (.ireturn, 1) := by decide +kernel
theorem dX6_chance_9 : decode cX6_chance 9 = .ok (.aload_n 0, 1) := by decide +kernel
theorem dX6_chance_10 : decode cX6_chance 10 = .ok (.iload_n 1, 1) := by decide +kernel
theorem dX6_chance_11 : decode cX6_chance 11 = .ok (.iload_n 2, 1) := by decide +kernel
theorem dX6_chance_12 : decode cX6_chance 12 = .ok (.invokevirtual 136, 3) := by decide +kernel
theorem dX6_chance_15 : decode cX6_chance 15 = .ok (.istore 4, 2) := by decide +kernel
theorem dX6_chance_17 : decode cX6_chance 17 = .ok (.iload 4, 2) := by decide +kernel
theorem dX6_chance_19 : decode cX6_chance 19 = .ok (.ifCond .ge 6, 3) := by decide +kernel
theorem dX6_chance_22 : decode cX6_chance 22 = .ok (.iload 4, 2) := by decide +kernel
theorem dX6_chance_24 : decode cX6_chance 24 = .ok (.ireturn, 1) := by decide +kernel
theorem dX6_chance_25 : decode cX6_chance 25 = .ok (.aload_n 0, 1) := by decide +kernel
theorem dX6_chance_26 : decode cX6_chance 26 = .ok (.getfield 19, 3) := by decide +kernel
theorem dX6_chance_29 : decode cX6_chance 29 = .ok (.iload 4, 2) := by decide +kernel
theorem dX6_chance_31 : decode cX6_chance 31 = .ok (.invokevirtual 139, 3) := by decide +kernel
theorem dX6_chance_34 : decode cX6_chance 34 = .ok (.i2l, 1) := by decide +kernel
theorem dX6_chance_35 : decode cX6_chance 35 = .ok (.aload_n 0, 1) := by decide +kernel
theorem dX6_chance_36 : decode cX6_chance 36 = .ok (.getfield 19, 3) := by decide +kernel
theorem dX6_chance_39 : decode cX6_chance 39 = .ok (.getfield 125, 3) := by decide +kernel
theorem dX6_chance_42 : decode cX6_chance 42 = .ok (.i2l, 1) := by decide +kernel
theorem dX6_chance_43 : decode cX6_chance 43 = .ok (.iload_n 3, 1) := by decide +kernel
theorem dX6_chance_44 : decode cX6_chance 44 = .ok (.invokestatic 142, 3) := by decide +kernel
theorem dX6_chance_47 : decode cX6_chance 47 = .ok (.l2i, 1) := by decide +kernel
theorem dX6_chance_48 : decode cX6_chance 48 = .ok (.ireturn, 1) := by decide +kernel
set_option maxRecDepth 20000 in
theorem ggX6_ways_X1_countWays : GoodIn wsX6_ways wsX1_countWays := goodIn_r _ [7, 8, 9, 10, 11, 6, 12, 13, 14, 18, 19, 20, 21, 22, 23, 24, 25, 26, 27, 28] (by decide +kernel) (by decide +kernel)
set_option maxRecDepth 20000 in
theorem gX6_ways_X1_countWays : GoodIn wsX6_ways (wsV RX6 146 RX1 yX1_countWays wsX1_countWays) := goodIn_app (goodIn_of _ (by decide +kernel)) ggX6_ways_X1_countWays
theorem dX6_ways_0 : decode cX6_ways 0 = .ok (.aload_n 0, 1) := by decide +kernel
theorem dX6_ways_1 : decode cX6_ways 1 = .ok (.getfield 10, 3) := by decide +kernel
theorem dX6_ways_4 : decode cX6_ways 4 = .ok (.getfield 47, 3) := by decide +kernel
theorem dX6_ways_7 : decode cX6_ways 7 = .ok (.bipush 8, 2) := by decide +kernel
theorem dX6_ways_9 : decode cX6_ways 9 = .ok (.if_icmp .le 6, 3) := by decide +kernel
theorem dX6_ways_12 : decode cX6_ways 12 = .ok (.bipush (-5), 2) := by decide +kernel
theorem dX6_ways_14 : decode cX6_ways 14 = .ok (.ireturn, 1) := by decide +kernel
theorem dX6_ways_15 : decode cX6_ways 15 = .ok (.aload_n 0, 1) := by decide +kernel
theorem dX6_ways_16 : decode cX6_ways 16 = .ok (.getfield 10, 3) := by decide +kernel
theorem dX6_ways_19 : decode cX6_ways 19 = .ok (.invokevirtual 146, 3) := by decide +kernel
theorem dX6_ways_22 : decode cX6_ways 22 = .ok (.ireturn, 1) := by decide +kernel
set_option maxRecDepth 20000 in
theorem ggX6_luck_X1_hasRider : GoodIn wsX6_luck wsX1_hasRider := goodIn_r _ [7, 8, 61, 62, 63, 64, 65, 66, 67, 68, 69, 70, 71] (by decide +kernel) (by decide +kernel)
set_option maxRecDepth 20000 in
theorem gX6_luck_X1_hasRider : GoodIn wsX6_luck (wsV RX6 34 RX1 yX1_hasRider wsX1_hasRider) := goodIn_app (goodIn_of _ (by decide +kernel)) ggX6_luck_X1_hasRider
set_option maxRecDepth 20000 in
theorem ggX6_luck_X1_countLuck : GoodIn wsX6_luck wsX1_countLuck := goodIn_r _ [12, 13, 8, 14, 15, 16, 17, 18, 19, 20, 21, 22, 23, 24, 25, 26, 27, 28, 6, 29, 30, 31, 32, 33, 34, 35, 36, 37, 38, 39, 40, 41, 42, 43, 44, 45, 46, 47, 48, 49, 50, 51, 52, 53, 54, 55, 56, 57, 61, 62, 63, 64, 65, 66, 67, 68, 69, 70, 71, 72, 73, 74, 75] (by decide +kernel) (by decide +kernel)
set_option maxRecDepth 20000 in
theorem gX6_luck_X1_countLuck : GoodIn wsX6_luck (wsV RX6 149 RX1 yX1_countLuck wsX1_countLuck) := goodIn_app (goodIn_of _ (by decide +kernel)) ggX6_luck_X1_countLuck
theorem dX6_luck_0 : decode cX6_luck 0 = .ok (.aload_n 0, 1) := by decide +kernel
theorem dX6_luck_1 : decode cX6_luck 1 = .ok (.getfield 10, 3) := by decide +kernel
theorem dX6_luck_4 : decode cX6_luck 4 = .ok (.iload_n 1, 1) := by decide +kernel
theorem dX6_luck_5 : decode cX6_luck 5 = .ok (.invokevirtual 34, 3) := by decide +kernel
theorem dX6_luck_8 : decode cX6_luck 8 = .ok (.ifCond .ne 5, 3) := by decide +kernel
theorem dX6_luck_11 : decode cX6_luck 11 = .ok (.iconst (-1), 1) := by decide +kernel
theorem dX6_luck_12 : decode cX6_luck 12 = .ok (.ireturn, 1) := by decide +kernel
theorem dX6_luck_13 : decode cX6_luck 13 = .ok (.aload_n 0, 1) := by decide +kernel
theorem dX6_luck_14 : decode cX6_luck 14 = .ok (.getfield 10, 3) := by decide +kernel
theorem dX6_luck_17 : decode cX6_luck 17 = .ok (.getfield 47, 3) := by decide +kernel
theorem dX6_luck_20 : decode cX6_luck 20 = .ok (.bipush 8, 2) := by decide +kernel
theorem dX6_luck_22 : decode cX6_luck 22 = .ok (.if_icmp .le 6, 3) := by decide +kernel
theorem dX6_luck_25 : decode cX6_luck 25 = .ok (.bipush (-5), 2) := by decide +kernel
theorem dX6_luck_27 : decode cX6_luck 27 = .ok (.ireturn, 1) := by decide +kernel
theorem dX6_luck_28 : decode cX6_luck 28 = .ok (.aload_n 0, 1) := by decide +kernel
theorem dX6_luck_29 : decode cX6_luck 29 = .ok (.getfield 10, 3) := by decide +kernel
theorem dX6_luck_32 : decode cX6_luck 32 = .ok (.iload_n 1, 1) := by decide +kernel
theorem dX6_luck_33 : decode cX6_luck 33 = .ok (.invokevirtual 149, 3) := by decide +kernel
theorem dX6_luck_36 : decode cX6_luck 36 = .ok (.ireturn, 1) := by decide +kernel
set_option maxRecDepth 20000 in
theorem ggX6_days_X4_begin : GoodIn wsX6_days wsX4_begin := goodIn_r _ [6, 7, 8, 9, 10, 11, 12, 13, 14, 15, 5, 16, 17, 18, 19, 20, 21, 22, 23, 24, 25, 26, 27, 28, 29, 30, 31, 32, 36, 37, 38, 39, 40, 41] (by decide +kernel) (by decide +kernel)
set_option maxRecDepth 20000 in
theorem gX6_days_X4_begin : GoodIn wsX6_days (wsV RX6 152 RX4 yX4_begin wsX4_begin) := goodIn_app (goodIn_of _ (by decide +kernel)) ggX6_days_X4_begin
theorem dX6_days_0 : decode cX6_days 0 = .ok (.iload_n 1, 1) := by decide +kernel
theorem dX6_days_1 : decode cX6_days 1 = .ok (.iconst 1, 1) := by decide +kernel
theorem dX6_days_2 : decode cX6_days 2 = .ok (.if_icmp .lt 9, 3) := by decide +kernel
theorem dX6_days_5 : decode cX6_days 5 = .ok (.iload_n 1, 1) := by decide +kernel
theorem dX6_days_6 : decode cX6_days 6 = .ok (.bipush 9, 2) := by decide +kernel
theorem dX6_days_8 : decode cX6_days 8 = .ok (.if_icmp .le 5, 3) := by decide +kernel
theorem dX6_days_11 : decode cX6_days 11 = .ok (.iconst (-1), 1) := by decide +kernel
theorem dX6_days_12 : decode cX6_days 12 = .ok (.ireturn, 1) := by decide +kernel
theorem dX6_days_13 : decode cX6_days 13 = .ok (.aload_n 0, 1) := by decide +kernel
theorem dX6_days_14 : decode cX6_days 14 = .ok (.getfield 26, 3) := by decide +kernel
theorem dX6_days_17 : decode cX6_days 17 = .ok (.iload_n 1, 1) := by decide +kernel
theorem dX6_days_18 : decode cX6_days 18 = .ok (.invokevirtual 152, 3) := by decide +kernel
theorem dX6_days_21 : decode cX6_days 21 = .ok (.iload_n 1, 1) := by decide +kernel
theorem dX6_days_22 : decode cX6_days 22 = .ok (.ireturn, 1) := by decide +kernel
set_option maxRecDepth 20000 in
theorem ggX6_span_X4_hasDay : GoodIn wsX6_span wsX4_hasDay := goodIn_r _ [6, 7, 44, 45, 46, 47, 48, 49] (by decide +kernel) (by decide +kernel)
set_option maxRecDepth 20000 in
theorem gX6_span_X4_hasDay : GoodIn wsX6_span (wsV RX6 153 RX4 yX4_hasDay wsX4_hasDay) := goodIn_app (goodIn_of _ (by decide +kernel)) ggX6_span_X4_hasDay
set_option maxRecDepth 20000 in
theorem ggX6_span_X6_isQuality : GoodIn wsX6_span wsX6_isQuality := goodIn_r _ [11] (by decide +kernel) (by decide +kernel)
set_option maxRecDepth 20000 in
theorem gX6_span_X6_isQuality : GoodIn wsX6_span (va_wsS RX6 156 yX6_isQuality wsX6_isQuality) := goodIn_app (goodIn_of _ (by decide +kernel)) ggX6_span_X6_isQuality
set_option maxRecDepth 20000 in
theorem ggX6_span_X4_setSpan : GoodIn wsX6_span wsX4_setSpan := goodIn_r _ [15, 16, 17, 18, 19, 20, 21, 5, 22, 23, 7, 24, 25, 26, 27, 28, 29, 30, 31, 32, 33, 34, 35, 36, 37, 38, 39, 40, 44, 45, 46, 47, 48, 49] (by decide +kernel) (by decide +kernel)
set_option maxRecDepth 20000 in
theorem gX6_span_X4_setSpan : GoodIn wsX6_span (wsV RX6 159 RX4 yX4_setSpan wsX4_setSpan) := goodIn_app (goodIn_of _ (by decide +kernel)) ggX6_span_X4_setSpan
theorem dX6_span_0 : decode cX6_span 0 = .ok (.aload_n 0, 1) := by decide +kernel
theorem dX6_span_1 : decode cX6_span 1 = .ok (.getfield 26, 3) := by decide +kernel
theorem dX6_span_4 : decode cX6_span 4 = .ok (.iload_n 1, 1) := by decide +kernel
theorem dX6_span_5 : decode cX6_span 5 = .ok (.invokevirtual 153, 3) := by decide +kernel
theorem dX6_span_8 : decode cX6_span 8 = .ok (.ifCond .eq 22, 3) := by decide +kernel
theorem dX6_span_11 : decode cX6_span 11 = .ok (.iload_n 2, 1) := by decide +kernel
theorem dX6_span_12 : decode cX6_span 12 = .ok (.invokestatic 156, 3) := by decide +kernel
theorem dX6_span_15 : decode cX6_span 15 = .ok (.ifCond .eq 15, 3) := by decide +kernel
theorem dX6_span_18 : decode cX6_span 18 = .ok (.iload_n 3, 1) := by decide +kernel
theorem dX6_span_19 : decode cX6_span 19 = .ok (.invokestatic 156, 3) := by decide +kernel
theorem dX6_span_22 : decode cX6_span 22 = .ok (.ifCond .eq 8, 3) := by decide +kernel
theorem dX6_span_25 : decode cX6_span 25 = .ok (.iload_n 2, 1) := by decide +kernel
theorem dX6_span_26 : decode cX6_span 26 = .ok (.iload_n 3, 1) := by decide +kernel
theorem dX6_span_27 : decode cX6_span 27 = .ok (.if_icmp .le 5, 3) := by decide +kernel
theorem dX6_span_30 : decode cX6_span 30 = .ok (.iconst (-1), 1) := by decide +kernel
theorem dX6_span_31 : decode cX6_span 31 = .ok (.ireturn, 1) := by decide +kernel
theorem dX6_span_32 : decode cX6_span 32 = .ok (.aload_n 0, 1) := by decide +kernel
theorem dX6_span_33 : decode cX6_span 33 = .ok (.getfield 26, 3) := by decide +kernel
theorem dX6_span_36 : decode cX6_span 36 = .ok (.iload_n 1, 1) := by decide +kernel
theorem dX6_span_37 : decode cX6_span 37 = .ok (.iload_n 2, 1) := by decide +kernel
theorem dX6_span_38 : decode cX6_span 38 = .ok (.iload_n 3, 1) := by decide +kernel
theorem dX6_span_39 : decode cX6_span 39 = .ok (.invokevirtual 159, 3) := by decide +kernel
theorem dX6_span_42 : decode cX6_span 42 = .ok (.iconst 1, 1) := by decide +kernel
theorem dX6_span_43 : decode cX6_span 43 = .ok (.ireturn, 1) := by decide +kernel
set_option maxRecDepth 20000 in
theorem ggX6_was_X4_hasDay : GoodIn wsX6_was wsX4_hasDay := goodIn_r _ [7, 8, 18, 19, 20, 21, 22, 23] (by decide +kernel) (by decide +kernel)
set_option maxRecDepth 20000 in
theorem gX6_was_X4_hasDay : GoodIn wsX6_was (wsV RX6 153 RX4 yX4_hasDay wsX4_hasDay) := goodIn_app (goodIn_of _ (by decide +kernel)) ggX6_was_X4_hasDay
set_option maxRecDepth 20000 in
theorem ggX6_was_X4_isInSpan : GoodIn wsX6_was wsX4_isInSpan := goodIn_r _ [12, 13, 14, 18, 19, 20, 21, 22, 23] (by decide +kernel) (by decide +kernel)
set_option maxRecDepth 20000 in
theorem gX6_was_X4_isInSpan : GoodIn wsX6_was (wsV RX6 163 RX4 yX4_isInSpan wsX4_isInSpan) := goodIn_app (goodIn_of _ (by decide +kernel)) ggX6_was_X4_isInSpan
theorem dX6_was_0 : decode cX6_was 0 = .ok (.aload_n 0, 1) := by decide +kernel
theorem dX6_was_1 : decode cX6_was 1 = .ok (.getfield 26, 3) := by decide +kernel
theorem dX6_was_4 : decode cX6_was 4 = .ok (.iload_n 1, 1) := by decide +kernel
theorem dX6_was_5 : decode cX6_was 5 = .ok (.invokevirtual 153, 3) := by decide +kernel
theorem dX6_was_8 : decode cX6_was 8 = .ok (.ifCond .eq 20, 3) := by decide +kernel
theorem dX6_was_11 : decode cX6_was 11 = .ok (.iload_n 2, 1) := by decide +kernel
theorem dX6_was_12 : decode cX6_was 12 = .ok (.iconst (-1), 1) := by decide +kernel
theorem dX6_was_13 : decode cX6_was 13 = .ok (.if_icmp .eq 18, 3) := by decide +kernel
theorem dX6_was_16 : decode cX6_was 16 = .ok (.aload_n 0, 1) := by decide +kernel
theorem dX6_was_17 : decode cX6_was 17 = .ok (.getfield 26, 3) := by decide +kernel
theorem dX6_was_20 : decode cX6_was 20 = .ok (.iload_n 1, 1) := by decide +kernel
theorem dX6_was_21 : decode cX6_was 21 = .ok (.iload_n 2, 1) := by decide +kernel
theorem dX6_was_22 : decode cX6_was 22 = .ok (.invokevirtual 163, 3) := by decide +kernel
theorem dX6_was_25 : decode cX6_was 25 = .ok (.ifCond .ne 6, 3) := by decide +kernel
theorem dX6_was_28 : decode cX6_was 28 = .ok (.bipush (-9), 2) := by decide +kernel
theorem dX6_was_30 : decode cX6_was 30 = .ok (.ireturn, 1) := by decide +kernel
theorem dX6_was_31 : decode cX6_was 31 = .ok (.aload_n 0, 1) := by decide +kernel
theorem dX6_was_32 : decode cX6_was 32 = .ok (.getfield 26, 3) := by decide +kernel
theorem dX6_was_35 : decode cX6_was 35 = .ok (.getfield 167, 3) := by decide +kernel
theorem dX6_was_38 : decode cX6_was 38 = .ok (.iload_n 1, 1) := by decide +kernel
theorem dX6_was_39 : decode cX6_was 39 = .ok (.iaload, 1) := by decide +kernel
theorem dX6_was_40 : decode cX6_was 40 = .ok (.istore_n 3, 1) := by decide +kernel
theorem dX6_was_41 : decode cX6_was 41 = .ok (.aload_n 0, 1) := by decide +kernel
theorem dX6_was_42 : decode cX6_was 42 = .ok (.getfield 26, 3) := by decide +kernel
theorem dX6_was_45 : decode cX6_was 45 = .ok (.getfield 167, 3) := by decide +kernel
theorem dX6_was_48 : decode cX6_was 48 = .ok (.iload_n 1, 1) := by decide +kernel
theorem dX6_was_49 : decode cX6_was 49 = .ok (.iload_n 2, 1) := by decide +kernel
theorem dX6_was_50 : decode cX6_was 50 = .ok (.iastore, 1) := by decide +kernel
theorem dX6_was_51 : decode cX6_was 51 = .ok (.iload_n 3, 1) := by decide +kernel
theorem dX6_was_52 : decode cX6_was 52 = .ok (.ireturn, 1) := by decide +kernel
set_option maxRecDepth 20000 in
theorem ggX6_worth_X6_isAboveOrBelow : GoodIn wsX6_worth wsX6_isAboveOrBelow := goodIn_r _ [10] (by decide +kernel) (by decide +kernel)
set_option maxRecDepth 20000 in
theorem gX6_worth_X6_isAboveOrBelow : GoodIn wsX6_worth (va_wsS RX6 133 yX6_isAboveOrBelow wsX6_isAboveOrBelow) := goodIn_app (goodIn_of _ (by decide +kernel)) ggX6_worth_X6_isAboveOrBelow
set_option maxRecDepth 20000 in
theorem ggX6_worth_X4_hasWorth : GoodIn wsX6_worth wsX4_hasWorth := goodIn_r _ [15, 16, 26, 27, 28, 29, 30, 31] (by decide +kernel) (by decide +kernel)
set_option maxRecDepth 20000 in
theorem gX6_worth_X4_hasWorth : GoodIn wsX6_worth (wsV RX6 175 RX4 yX4_hasWorth wsX4_hasWorth) := goodIn_app (goodIn_of _ (by decide +kernel)) ggX6_worth_X4_hasWorth
set_option maxRecDepth 20000 in
theorem ggX6_worth_X6_cleared : GoodIn wsX6_worth wsX6_cleared := goodIn_r _ [19, 20, 21, 9, 22] (by decide +kernel) (by decide +kernel)
set_option maxRecDepth 20000 in
theorem gX6_worth_X6_cleared : GoodIn wsX6_worth (va_wsS RX6 142 yX6_cleared wsX6_cleared) := goodIn_app (goodIn_of _ (by decide +kernel)) ggX6_worth_X6_cleared
theorem dX6_worth_0 : decode cX6_worth 0 = .ok (.iload_n 1, 1) := by decide +kernel
theorem dX6_worth_1 : decode cX6_worth 1 = .ok (.ifCond .lt 31, 3) := by decide +kernel
theorem dX6_worth_4 : decode cX6_worth 4 = .ok (.iload_n 1, 1) := by decide +kernel
theorem dX6_worth_5 : decode cX6_worth 5 = .ok (.aload_n 0, 1) := by decide +kernel
theorem dX6_worth_6 : decode cX6_worth 6 = .ok (.getfield 26, 3) := by decide +kernel
theorem dX6_worth_9 : decode cX6_worth 9 = .ok (.getfield 170, 3) := by decide +kernel
theorem dX6_worth_12 : decode cX6_worth 12 = .ok (.if_icmp .gt 20, 3) := by decide +kernel
theorem dX6_worth_15 : decode cX6_worth 15 = .ok (.iload_n 2, 1) := by decide +kernel
theorem dX6_worth_16 : decode cX6_worth 16 = .ok (.ifCond .lt 16, 3) := by decide +kernel
theorem dX6_worth_19 : decode cX6_worth 19 = .ok (.iload_n 2, 1) := by decide +kernel
theorem dX6_worth_20 : decode cX6_worth 20 = .ok (.bipush 9, 2) := by decide +kernel
theorem dX6_worth_22 : decode cX6_worth 22 = .ok (.if_icmp .gt 10, 3) := by decide +kernel
theorem dX6_worth_25 : decode cX6_worth 25 = .ok (.iload_n 3, 1) := by decide +kernel
theorem dX6_worth_26 : decode cX6_worth 26 = .ok (.invokestatic 133, 3) := by decide +kernel
theorem dX6_worth_29 : decode cX6_worth 29 = .ok (.ifCond .ne 7, 3) := by decide +kernel
theorem dX6_worth_32 : decode cX6_worth 32 = .ok (.ldc2_w 173, 3) := by decide +kernel
theorem dX6_worth_35 : decode cX6_worth 35 = .ok (.lreturn, 1) := by decide +kernel
theorem dX6_worth_36 : decode cX6_worth 36 = .ok (.aload_n 0, 1) := by decide +kernel
theorem dX6_worth_37 : decode cX6_worth 37 = .ok (.getfield 26, 3) := by decide +kernel
theorem dX6_worth_40 : decode cX6_worth 40 = .ok (.iload_n 1, 1) := by decide +kernel
theorem dX6_worth_41 : decode cX6_worth 41 = .ok (.iload_n 2, 1) := by decide +kernel
theorem dX6_worth_42 : decode cX6_worth 42 = .ok (.invokevirtual 175, 3) := by decide +kernel
theorem dX6_worth_45 : decode cX6_worth 45 = .ok (.ifCond .ne 7, 3) := by decide +kernel
theorem dX6_worth_48 : decode cX6_worth 48 = .ok (.ldc2_w 178, 3) := by decide +kernel
theorem dX6_worth_51 : decode cX6_worth 51 = .ok (.lreturn, 1) := by decide +kernel
theorem dX6_worth_52 : decode cX6_worth 52 = .ok (.aload_n 0, 1) := by decide +kernel
theorem dX6_worth_53 : decode cX6_worth 53 = .ok (.getfield 26, 3) := by decide +kernel
theorem dX6_worth_56 : decode cX6_worth 56 = .ok (.getfield 180, 3) := by decide +kernel
theorem dX6_worth_59 : decode cX6_worth 59 = .ok (.iload_n 1, 1) := by decide +kernel
theorem dX6_worth_60 : decode cX6_worth 60 = .ok (.aaload, 1) := by decide +kernel
theorem dX6_worth_61 : decode cX6_worth 61 = .ok (.iload_n 2, 1) := by decide +kernel
theorem dX6_worth_62 : decode cX6_worth 62 = .ok (.laload, 1) := by decide +kernel
theorem dX6_worth_63 : decode cX6_worth 63 = .ok (.aload_n 0, 1) := by decide +kernel
theorem dX6_worth_64 : decode cX6_worth 64 = .ok (.getfield 26, 3) := by decide +kernel
theorem dX6_worth_67 : decode cX6_worth 67 = .ok (.getfield 184, 3) := by decide +kernel
theorem dX6_worth_70 : decode cX6_worth 70 = .ok (.iload_n 1, 1) := by decide +kernel
theorem dX6_worth_71 : decode cX6_worth 71 = .ok (.laload, 1) := by decide +kernel
theorem dX6_worth_72 : decode cX6_worth 72 = .ok (.iload_n 3, 1) := by decide +kernel
theorem dX6_worth_73 : decode cX6_worth 73 = .ok (.invokestatic 142, 3) := by decide +kernel
theorem dX6_worth_76 : decode cX6_worth 76 = .ok (.lreturn, 1) := by decide +kernel
set_option maxRecDepth 20000 in
theorem ggX6_call_X4_hasDay : GoodIn wsX6_call wsX4_hasDay := goodIn_r _ [6, 7, 30, 31, 32, 33, 34, 35] (by decide +kernel) (by decide +kernel)
set_option maxRecDepth 20000 in
theorem gX6_call_X4_hasDay : GoodIn wsX6_call (wsV RX6 153 RX4 yX4_hasDay wsX4_hasDay) := goodIn_app (goodIn_of _ (by decide +kernel)) ggX6_call_X4_hasDay
set_option maxRecDepth 20000 in
theorem ggX6_call_X6_isQuality : GoodIn wsX6_call wsX6_isQuality := goodIn_r _ [11] (by decide +kernel) (by decide +kernel)
set_option maxRecDepth 20000 in
theorem gX6_call_X6_isQuality : GoodIn wsX6_call (va_wsS RX6 156 yX6_isQuality wsX6_isQuality) := goodIn_app (goodIn_of _ (by decide +kernel)) ggX6_call_X6_isQuality
set_option maxRecDepth 20000 in
theorem ggX6_call_X4_hasWorth : GoodIn wsX6_call wsX4_hasWorth := goodIn_r _ [15, 7, 30, 31, 32, 33, 34, 35] (by decide +kernel) (by decide +kernel)
set_option maxRecDepth 20000 in
theorem gX6_call_X4_hasWorth : GoodIn wsX6_call (wsV RX6 175 RX4 yX4_hasWorth wsX4_hasWorth) := goodIn_app (goodIn_of _ (by decide +kernel)) ggX6_call_X4_hasWorth
set_option maxRecDepth 20000 in
theorem ggX6_call_X4_isCalled : GoodIn wsX6_call wsX4_isCalled := goodIn_r _ [19, 20, 21, 13, 14, 5, 15, 7, 22, 23, 24, 25, 26, 30, 31, 32, 33, 34, 35] (by decide +kernel) (by decide +kernel)
set_option maxRecDepth 20000 in
theorem gX6_call_X4_isCalled : GoodIn wsX6_call (wsV RX6 188 RX4 yX4_isCalled wsX4_isCalled) := goodIn_app (goodIn_of _ (by decide +kernel)) ggX6_call_X4_isCalled
theorem dX6_call_0 : decode cX6_call 0 = .ok (.aload_n 0, 1) := by decide +kernel
theorem dX6_call_1 : decode cX6_call 1 = .ok (.getfield 26, 3) := by decide +kernel
theorem dX6_call_4 : decode cX6_call 4 = .ok (.iload_n 1, 1) := by decide +kernel
theorem dX6_call_5 : decode cX6_call 5 = .ok (.invokevirtual 153, 3) := by decide +kernel
theorem dX6_call_8 : decode cX6_call 8 = .ok (.ifCond .eq 20, 3) := by decide +kernel
theorem dX6_call_11 : decode cX6_call 11 = .ok (.iload_n 2, 1) := by decide +kernel
theorem dX6_call_12 : decode cX6_call 12 = .ok (.ifCond .lt 16, 3) := by decide +kernel
theorem dX6_call_15 : decode cX6_call 15 = .ok (.iload_n 2, 1) := by decide +kernel
theorem dX6_call_16 : decode cX6_call 16 = .ok (.bipush 9, 2) := by decide +kernel
theorem dX6_call_18 : decode cX6_call 18 = .ok (.if_icmp .gt 10, 3) := by decide +kernel
theorem dX6_call_21 : decode cX6_call 21 = .ok (.iload_n 3, 1) := by decide +kernel
theorem dX6_call_22 : decode cX6_call 22 = .ok (.invokestatic 156, 3) := by decide +kernel
theorem dX6_call_25 : decode cX6_call 25 = .ok (.ifCond .ne 5, 3) := by decide +kernel
theorem dX6_call_28 : decode cX6_call 28 = .ok (.iconst (-1), 1) := by decide +kernel
theorem dX6_call_29 : decode cX6_call 29 = .ok (.ireturn, 1) := by decide +kernel
theorem dX6_call_30 : decode cX6_call 30 = .ok (.aload_n 0, 1) := by decide +kernel
theorem dX6_call_31 : decode cX6_call 31 = .ok (.getfield 26, 3) := by decide +kernel
theorem dX6_call_34 : decode cX6_call 34 = .ok (.iload_n 1, 1) := by decide +kernel
theorem dX6_call_35 : decode cX6_call 35 = .ok (.iload_n 2, 1) := by decide +kernel
theorem dX6_call_36 : decode cX6_call 36 = .ok (.invokevirtual 175, 3) := by decide +kernel
theorem dX6_call_39 : decode cX6_call 39 = .ok (.ifCond .ne 6, 3) := by decide +kernel
theorem dX6_call_42 : decode cX6_call 42 = .ok (.bipush (-4), 2) := by decide +kernel
theorem dX6_call_44 : decode cX6_call 44 = .ok (.ireturn, 1) := by decide +kernel
theorem dX6_call_45 : decode cX6_call 45 = .ok (.aload_n 0, 1) := by decide +kernel
theorem dX6_call_46 : decode cX6_call 46 = .ok (.getfield 26, 3) := by decide +kernel
theorem dX6_call_49 : decode cX6_call 49 = .ok (.iload_n 1, 1) := by decide +kernel
theorem dX6_call_50 : decode cX6_call 50 = .ok (.iload_n 2, 1) := by decide +kernel
theorem dX6_call_51 : decode cX6_call 51 = .ok (.iload_n 3, 1) := by decide +kernel
theorem dX6_call_52 : decode cX6_call 52 = .ok (.invokevirtual 188, 3) := by decide +kernel
theorem dX6_call_55 : decode cX6_call 55 = .ok (.ifCond .eq 7, 3) := by decide +kernel
theorem dX6_call_58 : decode cX6_call 58 = .ok (.iconst 1, 1) := by decide +kernel
theorem dX6_call_59 : decode cX6_call 59 = .ok (.goto 4, 3) := by decide +kernel
theorem dX6_call_62 : decode cX6_call 62 = .ok (.iconst 0, 1) := by decide +kernel
theorem dX6_call_63 : decode cX6_call 63 = .ok (.ireturn, 1) := by decide +kernel
set_option maxRecDepth 20000 in
theorem ggX6_run_X4_calledInRun : GoodIn wsX6_run wsX4_calledInRun := goodIn_r _ [7, 8, 9, 10, 11, 6, 12, 13, 14, 15, 16, 17, 18, 19, 20, 21, 22, 23, 24, 25, 26, 27, 36, 37, 38, 39, 40, 41] (by decide +kernel) (by decide +kernel)
set_option maxRecDepth 20000 in
theorem gX6_run_X4_calledInRun : GoodIn wsX6_run (wsV RX6 192 RX4 yX4_calledInRun wsX4_calledInRun) := goodIn_app (goodIn_of _ (by decide +kernel)) ggX6_run_X4_calledInRun
set_option maxRecDepth 20000 in
theorem ggX6_run_X4_sumOf : GoodIn wsX6_run wsX4_sumOf := goodIn_r _ [31, 13, 8, 36, 37, 38, 39, 40, 41] (by decide +kernel) (by decide +kernel)
set_option maxRecDepth 20000 in
theorem gX6_run_X4_sumOf : GoodIn wsX6_run (wsV RX6 195 RX4 yX4_sumOf wsX4_sumOf) := goodIn_app (goodIn_of _ (by decide +kernel)) ggX6_run_X4_sumOf
set_option maxRecDepth 20000 in
theorem ggX6_run_X4_lengthOfRun : GoodIn wsX6_run wsX4_lengthOfRun := goodIn_r _ [12, 13, 8, 36, 37, 38, 39, 40, 41] (by decide +kernel) (by decide +kernel)
set_option maxRecDepth 20000 in
theorem gX6_run_X4_lengthOfRun : GoodIn wsX6_run (wsV RX6 198 RX4 yX4_lengthOfRun wsX4_lengthOfRun) := goodIn_app (goodIn_of _ (by decide +kernel)) ggX6_run_X4_lengthOfRun
theorem dX6_run_0 : decode cX6_run 0 = .ok (.iload_n 1, 1) := by decide +kernel
theorem dX6_run_1 : decode cX6_run 1 = .ok (.ifCond .lt 14, 3) := by decide +kernel
theorem dX6_run_4 : decode cX6_run 4 = .ok (.iload_n 1, 1) := by decide +kernel
theorem dX6_run_5 : decode cX6_run 5 = .ok (.aload_n 0, 1) := by decide +kernel
theorem dX6_run_6 : decode cX6_run 6 = .ok (.getfield 26, 3) := by decide +kernel
theorem dX6_run_9 : decode cX6_run 9 = .ok (.getfield 170, 3) := by decide +kernel
theorem dX6_run_12 : decode cX6_run 12 = .ok (.if_icmp .le 5, 3) := by decide +kernel
theorem dX6_run_15 : decode cX6_run 15 = .ok (.iconst (-1), 1) := by decide +kernel
theorem dX6_run_16 : decode cX6_run 16 = .ok (.ireturn, 1) := by decide +kernel
theorem dX6_run_17 : decode cX6_run 17 = .ok (.iload_n 2, 1) := by decide +kernel
theorem dX6_run_18 : decode cX6_run 18 = .ok (.tableswitch 59 0 2 #[26, 35, 51], 26) := by decide +kernel
theorem dX6_run_44 : decode cX6_run 44 = .ok (.aload_n 0, 1) := by decide +kernel
theorem dX6_run_45 : decode cX6_run 45 = .ok (.getfield 26, 3) := by decide +kernel
theorem dX6_run_48 : decode cX6_run 48 = .ok (.iload_n 1, 1) := by decide +kernel
theorem dX6_run_49 : decode cX6_run 49 = .ok (.invokevirtual 192, 3) := by decide +kernel
theorem dX6_run_52 : decode cX6_run 52 = .ok (.ireturn, 1) := by decide +kernel
theorem dX6_run_53 : decode cX6_run 53 = .ok (.aload_n 0, 1) := by decide +kernel
theorem dX6_run_54 : decode cX6_run 54 = .ok (.getfield 26, 3) := by decide +kernel
theorem dX6_run_57 : decode cX6_run 57 = .ok (.aload_n 0, 1) := by decide +kernel
theorem dX6_run_58 : decode cX6_run 58 = .ok (.getfield 26, 3) := by decide +kernel
theorem dX6_run_61 : decode cX6_run 61 = .ok (.iload_n 1, 1) := by decide +kernel
theorem dX6_run_62 : decode cX6_run 62 = .ok (.invokevirtual 192, 3) := by decide +kernel
theorem dX6_run_65 : decode cX6_run 65 = .ok (.invokevirtual 195, 3) := by decide +kernel
theorem dX6_run_68 : decode cX6_run 68 = .ok (.ireturn, 1) := by decide +kernel
theorem dX6_run_69 : decode cX6_run 69 = .ok (.aload_n 0, 1) := by decide +kernel
theorem dX6_run_70 : decode cX6_run 70 = .ok (.getfield 26, 3) := by decide +kernel
theorem dX6_run_73 : decode cX6_run 73 = .ok (.invokevirtual 198, 3) := by decide +kernel
theorem dX6_run_76 : decode cX6_run 76 = .ok (.ireturn, 1) := by decide +kernel
theorem dX6_run_77 : decode cX6_run 77 = .ok (.iconst (-1), 1) := by decide +kernel
theorem dX6_run_78 : decode cX6_run 78 = .ok (.ireturn, 1) := by decide +kernel
set_option maxRecDepth 20000 in
theorem ggX6_behind_X4_countKnown : GoodIn wsX6_behind wsX4_countKnown := goodIn_r _ [7, 8, 9, 17, 18, 19, 20, 21, 22] (by decide +kernel) (by decide +kernel)
set_option maxRecDepth 20000 in
theorem gX6_behind_X4_countKnown : GoodIn wsX6_behind (wsV RX6 201 RX4 yX4_countKnown wsX4_countKnown) := goodIn_app (goodIn_of _ (by decide +kernel)) ggX6_behind_X4_countKnown
set_option maxRecDepth 20000 in
theorem ggX6_behind_X4_greatestSum : GoodIn wsX6_behind wsX4_greatestSum := goodIn_r _ [13, 8, 9, 17, 18, 19, 20, 21, 22] (by decide +kernel) (by decide +kernel)
set_option maxRecDepth 20000 in
theorem gX6_behind_X4_greatestSum : GoodIn wsX6_behind (wsV RX6 204 RX4 yX4_greatestSum wsX4_greatestSum) := goodIn_app (goodIn_of _ (by decide +kernel)) ggX6_behind_X4_greatestSum
theorem dX6_behind_0 : decode cX6_behind 0 = .ok (.iload_n 1, 1) := by decide +kernel
theorem dX6_behind_1 : decode cX6_behind 1 = .ok (.ifCond .lt 14, 3) := by decide +kernel
theorem dX6_behind_4 : decode cX6_behind 4 = .ok (.iload_n 1, 1) := by decide +kernel
theorem dX6_behind_5 : decode cX6_behind 5 = .ok (.aload_n 0, 1) := by decide +kernel
theorem dX6_behind_6 : decode cX6_behind 6 = .ok (.getfield 26, 3) := by decide +kernel
theorem dX6_behind_9 : decode cX6_behind 9 = .ok (.getfield 170, 3) := by decide +kernel
theorem dX6_behind_12 : decode cX6_behind 12 = .ok (.if_icmp .le 5, 3) := by decide +kernel
theorem dX6_behind_15 : decode cX6_behind 15 = .ok (.iconst (-1), 1) := by decide +kernel
theorem dX6_behind_16 : decode cX6_behind 16 = .ok (.ireturn, 1) := by decide +kernel
theorem dX6_behind_17 : decode cX6_behind 17 = .ok (.aload_n 0, 1) := by decide +kernel
theorem dX6_behind_18 : decode cX6_behind 18 = .ok (.getfield 26, 3) := by decide +kernel
theorem dX6_behind_21 : decode cX6_behind 21 = .ok (.invokevirtual 201, 3) := by decide +kernel
theorem dX6_behind_24 : decode cX6_behind 24 = .ok (.aload_n 0, 1) := by decide +kernel
theorem dX6_behind_25 : decode cX6_behind 25 = .ok (.getfield 26, 3) := by decide +kernel
theorem dX6_behind_28 : decode cX6_behind 28 = .ok (.getfield 170, 3) := by decide +kernel
theorem dX6_behind_31 : decode cX6_behind 31 = .ok (.if_icmp .ge 6, 3) := by decide +kernel
theorem dX6_behind_34 : decode cX6_behind 34 = .ok (.bipush (-4), 2) := by decide +kernel
theorem dX6_behind_36 : decode cX6_behind 36 = .ok (.ireturn, 1) := by decide +kernel
theorem dX6_behind_37 : decode cX6_behind 37 = .ok (.aload_n 0, 1) := by decide +kernel
theorem dX6_behind_38 : decode cX6_behind 38 = .ok (.getfield 26, 3) := by decide +kernel
theorem dX6_behind_41 : decode cX6_behind 41 = .ok (.iload_n 1, 1) := by decide +kernel
theorem dX6_behind_42 : decode cX6_behind 42 = .ok (.invokevirtual 204, 3) := by decide +kernel
theorem dX6_behind_45 : decode cX6_behind 45 = .ok (.ireturn, 1) := by decide +kernel
set_option maxRecDepth 20000 in
theorem ggX6_many_X4_countKnown : GoodIn wsX6_many wsX4_countKnown := goodIn_r _ [15, 16, 17, 43, 44, 45, 46, 47, 48] (by decide +kernel) (by decide +kernel)
set_option maxRecDepth 20000 in
theorem gX6_many_X4_countKnown : GoodIn wsX6_many (wsV RX6 201 RX4 yX4_countKnown wsX4_countKnown) := goodIn_app (goodIn_of _ (by decide +kernel)) ggX6_many_X4_countKnown
set_option maxRecDepth 20000 in
theorem ggX6_many_X0_allFaults : GoodIn wsX6_many wsX0_allFaults := goodIn_r _ [22, 23, 24, 49, 50, 51, 52] (by decide +kernel) (by decide +kernel)
set_option maxRecDepth 20000 in
theorem gX6_many_X0_allFaults : GoodIn wsX6_many (wsV RX6 210 RX0 yX0_allFaults wsX0_allFaults) := goodIn_app (goodIn_of _ (by decide +kernel)) ggX6_many_X0_allFaults
theorem dX6_many_0 : decode cX6_many 0 = .ok (.iload_n 1, 1) := by decide +kernel
theorem dX6_many_1 : decode cX6_many 1 = .ok (.tableswitch 105 0 6 #[43, 51, 59, 70, 78, 86, 94], 43) := by decide +kernel
theorem dX6_many_44 : decode cX6_many 44 = .ok (.aload_n 0, 1) := by decide +kernel
theorem dX6_many_45 : decode cX6_many 45 = .ok (.getfield 10, 3) := by decide +kernel
theorem dX6_many_48 : decode cX6_many 48 = .ok (.getfield 207, 3) := by decide +kernel
theorem dX6_many_51 : decode cX6_many 51 = .ok (.ireturn, 1) := by decide +kernel
theorem dX6_many_52 : decode cX6_many 52 = .ok (.aload_n 0, 1) := by decide +kernel
theorem dX6_many_53 : decode cX6_many 53 = .ok (.getfield 10, 3) := by decide +kernel
theorem dX6_many_56 : decode cX6_many 56 = .ok (.getfield 47, 3) := by decide +kernel
theorem dX6_many_59 : decode cX6_many 59 = .ok (.ireturn, 1) := by decide +kernel
theorem dX6_many_60 : decode cX6_many 60 = .ok (.aload_n 0, 1) := by decide +kernel
theorem dX6_many_61 : decode cX6_many 61 = .ok (.getfield 10, 3) := by decide +kernel
theorem dX6_many_64 : decode cX6_many 64 = .ok (.getfield 38, 3) := by decide +kernel
theorem dX6_many_67 : decode cX6_many 67 = .ok (.getfield 58, 3) := by decide +kernel
theorem dX6_many_70 : decode cX6_many 70 = .ok (.ireturn, 1) := by decide +kernel
theorem dX6_many_71 : decode cX6_many 71 = .ok (.aload_n 0, 1) := by decide +kernel
theorem dX6_many_72 : decode cX6_many 72 = .ok (.getfield 19, 3) := by decide +kernel
theorem dX6_many_75 : decode cX6_many 75 = .ok (.getfield 125, 3) := by decide +kernel
theorem dX6_many_78 : decode cX6_many 78 = .ok (.ireturn, 1) := by decide +kernel
theorem dX6_many_79 : decode cX6_many 79 = .ok (.aload_n 0, 1) := by decide +kernel
theorem dX6_many_80 : decode cX6_many 80 = .ok (.getfield 26, 3) := by decide +kernel
theorem dX6_many_83 : decode cX6_many 83 = .ok (.getfield 170, 3) := by decide +kernel
theorem dX6_many_86 : decode cX6_many 86 = .ok (.ireturn, 1) := by decide +kernel
theorem dX6_many_87 : decode cX6_many 87 = .ok (.aload_n 0, 1) := by decide +kernel
theorem dX6_many_88 : decode cX6_many 88 = .ok (.getfield 26, 3) := by decide +kernel
theorem dX6_many_91 : decode cX6_many 91 = .ok (.invokevirtual 201, 3) := by decide +kernel
theorem dX6_many_94 : decode cX6_many 94 = .ok (.ireturn, 1) := by decide +kernel
theorem dX6_many_95 : decode cX6_many 95 = .ok (.aload_n 0, 1) := by decide +kernel
theorem dX6_many_96 : decode cX6_many 96 = .ok (.getfield 10, 3) := by decide +kernel
theorem dX6_many_99 : decode cX6_many 99 = .ok (.getfield 101, 3) := by decide +kernel
theorem dX6_many_102 : decode cX6_many 102 = .ok (.invokevirtual 210, 3) := by decide +kernel
theorem dX6_many_105 : decode cX6_many 105 = .ok (.ireturn, 1) := by decide +kernel
theorem dX6_many_106 : decode cX6_many 106 = .ok (.iconst (-1), 1) := by decide +kernel
theorem dX6_many_107 : decode cX6_many 107 = .ok (.ireturn, 1) := by decide +kernel
theorem dX6_isAboveOrBelow_0 : decode cX6_isAboveOrBelow 0 = .ok (.iload_n 0, 1) := by decide +kernel
theorem dX6_isAboveOrBelow_1 : decode cX6_isAboveOrBelow 1 = .ok (.ifCond .eq 8, 3) := by decide +kernel
theorem dX6_isAboveOrBelow_4 : decode cX6_isAboveOrBelow 4 = .ok (.iload_n 0, 1) := by decide +kernel
theorem dX6_isAboveOrBelow_5 : decode cX6_isAboveOrBelow 5 = .ok (.iconst 1, 1) := by decide +kernel
theorem dX6_isAboveOrBelow_6 : decode cX6_isAboveOrBelow 6 = .ok (.if_icmp .ne 7, 3) := by decide +kernel
theorem dX6_isAboveOrBelow_9 : decode cX6_isAboveOrBelow 9 = .ok (.iconst 1, 1) := by decide +kernel
theorem dX6_isAboveOrBelow_10 : decode cX6_isAboveOrBelow 10 = .ok (.goto 4, 3) := by decide +kernel
theorem dX6_isAboveOrBelow_13 : decode cX6_isAboveOrBelow 13 = .ok (.iconst 0, 1) := by decide +kernel
theorem dX6_isAboveOrBelow_14 : decode cX6_isAboveOrBelow 14 = .ok (.ireturn, 1) := by decide +kernel
theorem dX6_isQuality_0 : decode cX6_isQuality 0 = .ok (.iload_n 0, 1) := by decide +kernel
theorem dX6_isQuality_1 : decode cX6_isQuality 1 = .ok (.ifCond .lt 13, 3) := by decide +kernel
theorem dX6_isQuality_4 : decode cX6_isQuality 4 = .ok (.iload_n 0, 1) := by decide +kernel
theorem dX6_isQuality_5 : decode cX6_isQuality 5 = .ok (.bipush 9, 2) := by decide +kernel
theorem dX6_isQuality_7 : decode cX6_isQuality 7 = .ok (.if_icmp .gt 7, 3) := by decide +kernel
theorem dX6_isQuality_10 : decode cX6_isQuality 10 = .ok (.iconst 1, 1) := by decide +kernel
theorem dX6_isQuality_11 : decode cX6_isQuality 11 = .ok (.goto 4, 3) := by decide +kernel
theorem dX6_isQuality_14 : decode cX6_isQuality 14 = .ok (.iconst 0, 1) := by decide +kernel
theorem dX6_isQuality_15 : decode cX6_isQuality 15 = .ok (.ireturn, 1) := by decide +kernel
set_option maxRecDepth 20000 in
theorem ggX6_cleared_X6_commonDivisor : GoodIn wsX6_cleared wsX6_commonDivisor := goodIn_r _ [4] (by decide +kernel) (by decide +kernel)
set_option maxRecDepth 20000 in
theorem gX6_cleared_X6_commonDivisor : GoodIn wsX6_cleared (va_wsS RX6 213 yX6_commonDivisor wsX6_commonDivisor) := goodIn_app (goodIn_of _ (by decide +kernel)) ggX6_cleared_X6_commonDivisor
theorem dX6_cleared_0 : decode cX6_cleared 0 = .ok (.lload_n 0, 1) := by decide +kernel
theorem dX6_cleared_1 : decode cX6_cleared 1 = .ok (.lconst 0, 1) := by decide +kernel
theorem dX6_cleared_2 : decode cX6_cleared 2 = .ok (.lcmp, 1) := by decide +kernel
theorem dX6_cleared_3 : decode cX6_cleared 3 = .ok (.ifCond .le 9, 3) := by decide +kernel
theorem dX6_cleared_6 : decode cX6_cleared 6 = .ok (.lload_n 2, 1) := by decide +kernel
theorem dX6_cleared_7 : decode cX6_cleared 7 = .ok (.lconst 0, 1) := by decide +kernel
theorem dX6_cleared_8 : decode cX6_cleared 8 = .ok (.lcmp, 1) := by decide +kernel
theorem dX6_cleared_9 : decode cX6_cleared 9 = .ok (.ifCond .gt 7, 3) := by decide +kernel
theorem dX6_cleared_12 : decode cX6_cleared 12 = .ok (.iload 4, 2) := by decide +kernel
theorem dX6_cleared_14 : decode cX6_cleared 14 = .ok (.i2l, 1) := by decide +kernel
theorem dX6_cleared_15 : decode cX6_cleared 15 = .ok (.lreturn, 1) := by decide +kernel
theorem dX6_cleared_16 : decode cX6_cleared 16 = .ok (.lload_n 0, 1) := by decide +kernel
theorem dX6_cleared_17 : decode cX6_cleared 17 = .ok (.lload_n 2, 1) := by decide +kernel
theorem dX6_cleared_18 : decode cX6_cleared 18 = .ok (.invokestatic 213, 3) := by decide +kernel
theorem dX6_cleared_21 : decode cX6_cleared 21 = .ok (.lstore 5, 2) := by decide +kernel
theorem dX6_cleared_23 : decode cX6_cleared 23 = .ok (.iload 4, 2) := by decide +kernel
theorem dX6_cleared_25 : decode cX6_cleared 25 = .ok (.ifCond .ne 7, 3) := by decide +kernel
theorem dX6_cleared_28 : decode cX6_cleared 28 = .ok (.lload_n 0, 1) := by decide +kernel
theorem dX6_cleared_29 : decode cX6_cleared 29 = .ok (.goto 4, 3) := by decide +kernel
theorem dX6_cleared_32 : decode cX6_cleared 32 = .ok (.lload_n 2, 1) := by decide +kernel
theorem dX6_cleared_33 : decode cX6_cleared 33 = .ok (.lstore 7, 2) := by decide +kernel
theorem dX6_cleared_35 : decode cX6_cleared 35 = .ok (.lload 5, 2) := by decide +kernel
theorem dX6_cleared_37 : decode cX6_cleared 37 = .ok (.lconst 1, 1) := by decide +kernel
theorem dX6_cleared_38 : decode cX6_cleared 38 = .ok (.lcmp, 1) := by decide +kernel
theorem dX6_cleared_39 : decode cX6_cleared 39 = .ok (.ifCond .le 11, 3) := by decide +kernel
theorem dX6_cleared_42 : decode cX6_cleared 42 = .ok (.lload 7, 2) := by decide +kernel
theorem dX6_cleared_44 : decode cX6_cleared 44 = .ok (.lload 5, 2) := by decide +kernel
theorem dX6_cleared_46 : decode cX6_cleared 46 = .ok (.ldiv, 1) := by decide +kernel
theorem dX6_cleared_47 : decode cX6_cleared 47 = .ok (.goto 5, 3) := by decide +kernel
theorem dX6_cleared_50 : decode cX6_cleared 50 = .ok (.lload 7, 2) := by decide +kernel
theorem dX6_cleared_52 : decode cX6_cleared 52 = .ok (.lreturn, 1) := by decide +kernel
theorem dX6_commonDivisor_0 : decode cX6_commonDivisor 0 = .ok (.lload_n 0, 1) := by decide +kernel
theorem dX6_commonDivisor_1 : decode cX6_commonDivisor 1 = .ok (.lstore 4, 2) := by decide +kernel
theorem dX6_commonDivisor_3 : decode cX6_commonDivisor 3 = .ok (.lload_n 2, 1) := by decide +kernel
theorem dX6_commonDivisor_4 : decode cX6_commonDivisor 4 = .ok (.lstore 6, 2) := by decide +kernel
theorem dX6_commonDivisor_6 : decode cX6_commonDivisor 6 = .ok (.iconst 0, 1) := by decide +kernel
theorem dX6_commonDivisor_7 : decode cX6_commonDivisor 7 = .ok (.istore 8, 2) := by decide +kernel
theorem dX6_commonDivisor_9 : decode cX6_commonDivisor 9 = .ok (.iload 8, 2) := by decide +kernel
theorem dX6_commonDivisor_11 : decode cX6_commonDivisor 11 = .ok (.sipush 200, 3) := by decide +kernel
theorem dX6_commonDivisor_14 : decode cX6_commonDivisor 14 = .ok (.if_icmp .ge 31, 3) := by decide +kernel
theorem dX6_commonDivisor_17 : decode cX6_commonDivisor 17 = .ok (.lload 6, 2) := by decide +kernel
theorem dX6_commonDivisor_19 : decode cX6_commonDivisor 19 = .ok (.lconst 0, 1) := by decide +kernel
theorem dX6_commonDivisor_20 : decode cX6_commonDivisor 20 = .ok (.lcmp, 1) := by decide +kernel
theorem dX6_commonDivisor_21 : decode cX6_commonDivisor 21 = .ok (.ifCond .le 24, 3) := by decide +kernel
theorem dX6_commonDivisor_24 : decode cX6_commonDivisor 24 = .ok (.lload 4, 2) := by decide +kernel
theorem dX6_commonDivisor_26 : decode cX6_commonDivisor 26 = .ok (.lload 6, 2) := by decide +kernel
theorem dX6_commonDivisor_28 : decode cX6_commonDivisor 28 = .ok (.lrem, 1) := by decide +kernel
theorem dX6_commonDivisor_29 : decode cX6_commonDivisor 29 = .ok (.lstore 9, 2) := by decide +kernel
theorem dX6_commonDivisor_31 : decode cX6_commonDivisor 31 = .ok (.lload 6, 2) := by decide +kernel
theorem dX6_commonDivisor_33 : decode cX6_commonDivisor 33 = .ok (.lstore 4, 2) := by decide +kernel
theorem dX6_commonDivisor_35 : decode cX6_commonDivisor 35 = .ok (.lload 9, 2) := by decide +kernel
theorem dX6_commonDivisor_37 : decode cX6_commonDivisor 37 = .ok (.lstore 6, 2) := by decide +kernel
theorem dX6_commonDivisor_39 : decode cX6_commonDivisor 39 = .ok (.iinc 8 1, 3) := by decide +kernel
theorem dX6_commonDivisor_42 : decode cX6_commonDivisor 42 = .ok (.goto (-33), 3) := by decide +kernel
theorem dX6_commonDivisor_45 : decode cX6_commonDivisor 45 = .ok (.lload 4, 2) := by decide +kernel
theorem dX6_commonDivisor_47 : decode cX6_commonDivisor 47 = .ok (.lreturn, 1) := by decide +kernel
set_option maxRecDepth 20000 in
theorem ggX7_init_X7_begin : GoodIn wsX7_init wsX7_begin := goodIn_r _ [31, 4, 32, 9, 10, 11, 33, 38, 39, 40, 41, 42, 43, 44, 45, 46, 47, 48, 49, 50, 51, 52, 53, 54, 55, 56, 57, 58, 59, 60, 61, 62, 63] (by decide +kernel) (by decide +kernel)
set_option maxRecDepth 20000 in
theorem gX7_init_X7_begin : GoodIn wsX7_init (wsV RX7 75 RX7 yX7_begin wsX7_begin) := goodIn_app (goodIn_of _ (by decide +kernel)) ggX7_init_X7_begin
set_option maxRecDepth 20000 in
theorem ggX7_init_X7_beginDays : GoodIn wsX7_init wsX7_beginDays := goodIn_r _ [37, 14, 15, 16, 17, 38, 39, 40, 41, 42, 43, 44, 45, 46, 47, 48, 49, 50, 51, 52, 53, 54, 55, 56, 57, 58, 59, 60, 61, 62, 63] (by decide +kernel) (by decide +kernel)
set_option maxRecDepth 20000 in
theorem gX7_init_X7_beginDays : GoodIn wsX7_init (wsV RX7 79 RX7 yX7_beginDays wsX7_beginDays) := goodIn_app (goodIn_of _ (by decide +kernel)) ggX7_init_X7_beginDays
theorem dX7_init_0 : decode cX7_init 0 = .ok (.aload_n 0, 1) := by decide +kernel
theorem dX7_init_1 : decode cX7_init 1 = .ok (.invokespecial 1, 3) := by decide +kernel
theorem dX7_init_4 : decode cX7_init 4 = .ok (.aload_n 0, 1) := by decide +kernel
theorem dX7_init_5 : decode cX7_init 5 = .ok (.iconst 2, 1) := by decide +kernel
theorem dX7_init_6 : decode cX7_init 6 = .ok (.putfield 7, 3) := by decide +kernel
theorem dX7_init_9 : decode cX7_init 9 = .ok (.aload_n 0, 1) := by decide +kernel
theorem dX7_init_10 : decode cX7_init 10 = .ok (.bipush 30, 2) := by decide +kernel
theorem dX7_init_12 : decode cX7_init 12 = .ok (.newarray .int, 2) := by decide +kernel
theorem dX7_init_14 : decode cX7_init 14 = .ok (.putfield 13, 3) := by decide +kernel
theorem dX7_init_17 : decode cX7_init 17 = .ok (.aload_n 0, 1) := by decide +kernel
theorem dX7_init_18 : decode cX7_init 18 = .ok (.bipush 30, 2) := by decide +kernel
theorem dX7_init_20 : decode cX7_init 20 = .ok (.newarray .int, 2) := by decide +kernel
theorem dX7_init_22 : decode cX7_init 22 = .ok (.putfield 17, 3) := by decide +kernel
theorem dX7_init_25 : decode cX7_init 25 = .ok (.aload_n 0, 1) := by decide +kernel
theorem dX7_init_26 : decode cX7_init 26 = .ok (.sipush 150, 3) := by decide +kernel
theorem dX7_init_29 : decode cX7_init 29 = .ok (.newarray .int, 2) := by decide +kernel
theorem dX7_init_31 : decode cX7_init 31 = .ok (.putfield 20, 3) := by decide +kernel
theorem dX7_init_34 : decode cX7_init 34 = .ok (.aload_n 0, 1) := by decide +kernel
theorem dX7_init_35 : decode cX7_init 35 = .ok (.iconst 2, 1) := by decide +kernel
theorem dX7_init_36 : decode cX7_init 36 = .ok (.putfield 23, 3) := by decide +kernel
theorem dX7_init_39 : decode cX7_init 39 = .ok (.aload_n 0, 1) := by decide +kernel
theorem dX7_init_40 : decode cX7_init 40 = .ok (.iconst 4, 1) := by decide +kernel
theorem dX7_init_41 : decode cX7_init 41 = .ok (.newarray .int, 2) := by decide +kernel
theorem dX7_init_43 : decode cX7_init 43 = .ok (.putfield 26, 3) := by decide +kernel
theorem dX7_init_46 : decode cX7_init 46 = .ok (.aload_n 0, 1) := by decide +kernel
theorem dX7_init_47 : decode cX7_init 47 = .ok (.iconst 4, 1) := by decide +kernel
theorem dX7_init_48 : decode cX7_init 48 = .ok (.newarray .int, 2) := by decide +kernel
theorem dX7_init_50 : decode cX7_init 50 = .ok (.putfield 29, 3) := by decide +kernel
theorem dX7_init_53 : decode cX7_init 53 = .ok (.aload_n 0, 1) := by decide +kernel
theorem dX7_init_54 : decode cX7_init 54 = .ok (.iconst 4, 1) := by decide +kernel
theorem dX7_init_55 : decode cX7_init 55 = .ok (.newarray .int, 2) := by decide +kernel
theorem dX7_init_57 : decode cX7_init 57 = .ok (.putfield 32, 3) := by decide +kernel
theorem dX7_init_60 : decode cX7_init 60 = .ok (.aload_n 0, 1) := by decide +kernel
theorem dX7_init_61 : decode cX7_init 61 = .ok (.bipush 40, 2) := by decide +kernel
theorem dX7_init_63 : decode cX7_init 63 = .ok (.newarray .int, 2) := by decide +kernel
theorem dX7_init_65 : decode cX7_init 65 = .ok (.putfield 35, 3) := by decide +kernel
theorem dX7_init_68 : decode cX7_init 68 = .ok (.aload_n 0, 1) := by decide +kernel
theorem dX7_init_69 : decode cX7_init 69 = .ok (.iconst 5, 1) := by decide +kernel
theorem dX7_init_70 : decode cX7_init 70 = .ok (.putfield 38, 3) := by decide +kernel
theorem dX7_init_73 : decode cX7_init 73 = .ok (.aload_n 0, 1) := by decide +kernel
theorem dX7_init_74 : decode cX7_init 74 = .ok (.bipush 9, 2) := by decide +kernel
theorem dX7_init_76 : decode cX7_init 76 = .ok (.newarray .int, 2) := by decide +kernel
theorem dX7_init_78 : decode cX7_init 78 = .ok (.putfield 41, 3) := by decide +kernel
theorem dX7_init_81 : decode cX7_init 81 = .ok (.aload_n 0, 1) := by decide +kernel
theorem dX7_init_82 : decode cX7_init 82 = .ok (.bipush 9, 2) := by decide +kernel
theorem dX7_init_84 : decode cX7_init 84 = .ok (.newarray .int, 2) := by decide +kernel
theorem dX7_init_86 : decode cX7_init 86 = .ok (.putfield 44, 3) := by decide +kernel
theorem dX7_init_89 : decode cX7_init 89 = .ok (.aload_n 0, 1) := by decide +kernel
theorem dX7_init_90 : decode cX7_init 90 = .ok (.bipush 9, 2) := by decide +kernel
theorem dX7_init_92 : decode cX7_init 92 = .ok (.newarray .int, 2) := by decide +kernel
theorem dX7_init_94 : decode cX7_init 94 = .ok (.putfield 47, 3) := by decide +kernel
theorem dX7_init_97 : decode cX7_init 97 = .ok (.aload_n 0, 1) := by decide +kernel
theorem dX7_init_98 : decode cX7_init 98 = .ok (.iconst 4, 1) := by decide +kernel
theorem dX7_init_99 : decode cX7_init 99 = .ok (.newarray .int, 2) := by decide +kernel
theorem dX7_init_101 : decode cX7_init 101 = .ok (.putfield 50, 3) := by decide +kernel
theorem dX7_init_104 : decode cX7_init 104 = .ok (.aload_n 0, 1) := by decide +kernel
theorem dX7_init_105 : decode cX7_init 105 = .ok (.iconst 4, 1) := by decide +kernel
theorem dX7_init_106 : decode cX7_init 106 = .ok (.newarray .int, 2) := by decide +kernel
theorem dX7_init_108 : decode cX7_init 108 = .ok (.putfield 53, 3) := by decide +kernel
theorem dX7_init_111 : decode cX7_init 111 = .ok (.aload_n 0, 1) := by decide +kernel
theorem dX7_init_112 : decode cX7_init 112 = .ok (.iconst 4, 1) := by decide +kernel
theorem dX7_init_113 : decode cX7_init 113 = .ok (.newarray .int, 2) := by decide +kernel
theorem dX7_init_115 : decode cX7_init 115 = .ok (.putfield 56, 3) := by decide +kernel
theorem dX7_init_118 : decode cX7_init 118 = .ok (.aload_n 0, 1) := by decide +kernel
theorem dX7_init_119 : decode cX7_init 119 = .ok (.bipush 8, 2) := by decide +kernel
theorem dX7_init_121 : decode cX7_init 121 = .ok (.newarray .int, 2) := by decide +kernel
theorem dX7_init_123 : decode cX7_init 123 = .ok (.putfield 59, 3) := by decide +kernel
theorem dX7_init_126 : decode cX7_init 126 = .ok (.aload_n 0, 1) := by decide +kernel
theorem dX7_init_127 : decode cX7_init 127 = .ok (.iconst 4, 1) := by decide +kernel
theorem dX7_init_128 : decode cX7_init 128 = .ok (.newarray .int, 2) := by decide +kernel
theorem dX7_init_130 : decode cX7_init 130 = .ok (.putfield 62, 3) := by decide +kernel
theorem dX7_init_133 : decode cX7_init 133 = .ok (.aload_n 0, 1) := by decide +kernel
theorem dX7_init_134 : decode cX7_init 134 = .ok (.iconst 4, 1) := by decide +kernel
theorem dX7_init_135 : decode cX7_init 135 = .ok (.newarray .int, 2) := by decide +kernel
theorem dX7_init_137 : decode cX7_init 137 = .ok (.putfield 65, 3) := by decide +kernel
theorem dX7_init_140 : decode cX7_init 140 = .ok (.aload_n 0, 1) := by decide +kernel
theorem dX7_init_141 : decode cX7_init 141 = .ok (.bipush 100, 2) := by decide +kernel
theorem dX7_init_143 : decode cX7_init 143 = .ok (.newarray .long, 2) := by decide +kernel
theorem dX7_init_145 : decode cX7_init 145 = .ok (.putfield 68, 3) := by decide +kernel
theorem dX7_init_148 : decode cX7_init 148 = .ok (.aload_n 0, 1) := by decide +kernel
theorem dX7_init_149 : decode cX7_init 149 = .ok (.bipush 10, 2) := by decide +kernel
theorem dX7_init_151 : decode cX7_init 151 = .ok (.newarray .long, 2) := by decide +kernel
theorem dX7_init_153 : decode cX7_init 153 = .ok (.putfield 72, 3) := by decide +kernel
theorem dX7_init_156 : decode cX7_init 156 = .ok (.aload_n 0, 1) := by decide +kernel
theorem dX7_init_157 : decode cX7_init 157 = .ok (.iconst 2, 1) := by decide +kernel
theorem dX7_init_158 : decode cX7_init 158 = .ok (.invokevirtual 75, 3) := by decide +kernel
theorem dX7_init_161 : decode cX7_init 161 = .ok (.aload_n 0, 1) := by decide +kernel
theorem dX7_init_162 : decode cX7_init 162 = .ok (.iconst 5, 1) := by decide +kernel
theorem dX7_init_163 : decode cX7_init 163 = .ok (.invokevirtual 79, 3) := by decide +kernel
theorem dX7_init_166 : decode cX7_init 166 = .ok (.return_, 1) := by decide +kernel
theorem dX7_in_0 : decode cX7_in 0 = .ok (.iload_n 0, 1) := by decide +kernel
theorem dX7_in_1 : decode cX7_in 1 = .ok (.iload_n 1, 1) := by decide +kernel
theorem dX7_in_2 : decode cX7_in 2 = .ok (.if_icmp .lt 12, 3) := by decide +kernel
theorem dX7_in_5 : decode cX7_in 5 = .ok (.iload_n 0, 1) := by decide +kernel
theorem dX7_in_6 : decode cX7_in 6 = .ok (.iload_n 2, 1) := by decide +kernel
theorem dX7_in_7 : decode cX7_in 7 = .ok (.if_icmp .gt 7, 3) := by decide +kernel
theorem dX7_in_10 : decode cX7_in 10 = .ok (.iconst 1, 1) := by decide +kernel
theorem dX7_in_11 : decode cX7_in 11 = .ok (.goto 4, 3) := by decide +kernel
theorem dX7_in_14 : decode cX7_in 14 = .ok (.iconst 0, 1) := by decide +kernel
theorem dX7_in_15 : decode cX7_in 15 = .ok (.ireturn, 1) := by decide +kernel
set_option maxRecDepth 20000 in
theorem ggX7_isRider_X7_in : GoodIn wsX7_isRider wsX7_in := goodIn_r _ [5] (by decide +kernel) (by decide +kernel)
set_option maxRecDepth 20000 in
theorem gX7_isRider_X7_in : GoodIn wsX7_isRider (va_wsS RX7 82 yX7_in wsX7_in) := goodIn_app (goodIn_of _ (by decide +kernel)) ggX7_isRider_X7_in
theorem dX7_isRider_0 : decode cX7_isRider 0 = .ok (.iload_n 1, 1) := by decide +kernel
theorem dX7_isRider_1 : decode cX7_isRider 1 = .ok (.iconst 0, 1) := by decide +kernel
theorem dX7_isRider_2 : decode cX7_isRider 2 = .ok (.aload_n 0, 1) := by decide +kernel
theorem dX7_isRider_3 : decode cX7_isRider 3 = .ok (.getfield 7, 3) := by decide +kernel
theorem dX7_isRider_6 : decode cX7_isRider 6 = .ok (.iconst 1, 1) := by decide +kernel
theorem dX7_isRider_7 : decode cX7_isRider 7 = .ok (.isub, 1) := by decide +kernel
theorem dX7_isRider_8 : decode cX7_isRider 8 = .ok (.invokestatic 82, 3) := by decide +kernel
theorem dX7_isRider_11 : decode cX7_isRider 11 = .ok (.ireturn, 1) := by decide +kernel
set_option maxRecDepth 20000 in
theorem ggX7_isRide_X7_in : GoodIn wsX7_isRide wsX7_in := goodIn_r _ [5] (by decide +kernel) (by decide +kernel)
set_option maxRecDepth 20000 in
theorem gX7_isRide_X7_in : GoodIn wsX7_isRide (va_wsS RX7 82 yX7_in wsX7_in) := goodIn_app (goodIn_of _ (by decide +kernel)) ggX7_isRide_X7_in
theorem dX7_isRide_0 : decode cX7_isRide 0 = .ok (.iload_n 1, 1) := by decide +kernel
theorem dX7_isRide_1 : decode cX7_isRide 1 = .ok (.iconst 0, 1) := by decide +kernel
theorem dX7_isRide_2 : decode cX7_isRide 2 = .ok (.aload_n 0, 1) := by decide +kernel
theorem dX7_isRide_3 : decode cX7_isRide 3 = .ok (.getfield 86, 3) := by decide +kernel
theorem dX7_isRide_6 : decode cX7_isRide 6 = .ok (.iconst 1, 1) := by decide +kernel
theorem dX7_isRide_7 : decode cX7_isRide 7 = .ok (.isub, 1) := by decide +kernel
theorem dX7_isRide_8 : decode cX7_isRide 8 = .ok (.invokestatic 82, 3) := by decide +kernel
theorem dX7_isRide_11 : decode cX7_isRide 11 = .ok (.ireturn, 1) := by decide +kernel
theorem dX7_begin_0 : decode cX7_begin 0 = .ok (.aload_n 0, 1) := by decide +kernel
theorem dX7_begin_1 : decode cX7_begin 1 = .ok (.iload_n 1, 1) := by decide +kernel
theorem dX7_begin_2 : decode cX7_begin 2 = .ok (.putfield 7, 3) := by decide +kernel
theorem dX7_begin_5 : decode cX7_begin 5 = .ok (.aload_n 0, 1) := by decide +kernel
theorem dX7_begin_6 : decode cX7_begin 6 = .ok (.iconst 0, 1) := by decide +kernel
theorem dX7_begin_7 : decode cX7_begin 7 = .ok (.putfield 86, 3) := by decide +kernel
theorem dX7_begin_10 : decode cX7_begin 10 = .ok (.aload_n 0, 1) := by decide +kernel
theorem dX7_begin_11 : decode cX7_begin 11 = .ok (.iload_n 1, 1) := by decide +kernel
theorem dX7_begin_12 : decode cX7_begin 12 = .ok (.putfield 23, 3) := by decide +kernel
theorem dX7_begin_15 : decode cX7_begin 15 = .ok (.iconst 0, 1) := by decide +kernel
theorem dX7_begin_16 : decode cX7_begin 16 = .ok (.istore_n 2, 1) := by decide +kernel
theorem dX7_begin_17 : decode cX7_begin 17 = .ok (.iload_n 2, 1) := by decide +kernel
theorem dX7_begin_18 : decode cX7_begin 18 = .ok (.iconst 4, 1) := by decide +kernel
theorem dX7_begin_19 : decode cX7_begin 19 = .ok (.if_icmp .ge 23, 3) := by decide +kernel
theorem dX7_begin_22 : decode cX7_begin 22 = .ok (.aload_n 0, 1) := by decide +kernel
theorem dX7_begin_23 : decode cX7_begin 23 = .ok (.getfield 26, 3) := by decide +kernel
theorem dX7_begin_26 : decode cX7_begin 26 = .ok (.iload_n 2, 1) := by decide +kernel
theorem dX7_begin_27 : decode cX7_begin 27 = .ok (.iload_n 2, 1) := by decide +kernel
theorem dX7_begin_28 : decode cX7_begin 28 = .ok (.iastore, 1) := by decide +kernel
theorem dX7_begin_29 : decode cX7_begin 29 = .ok (.aload_n 0, 1) := by decide +kernel
theorem dX7_begin_30 : decode cX7_begin 30 = .ok (.getfield 29, 3) := by decide +kernel
theorem dX7_begin_33 : decode cX7_begin 33 = .ok (.iload_n 2, 1) := by decide +kernel
theorem dX7_begin_34 : decode cX7_begin 34 = .ok (.iconst 0, 1) := by decide +kernel
theorem dX7_begin_35 : decode cX7_begin 35 = .ok (.iastore, 1) := by decide +kernel
theorem dX7_begin_36 : decode cX7_begin 36 = .ok (.iinc 2 1, 3) := by decide +kernel
theorem dX7_begin_39 : decode cX7_begin 39 = .ok (.goto (-22), 3) := by decide +kernel
theorem dX7_begin_42 : decode cX7_begin 42 = .ok (.aload_n 0, 1) := by decide +kernel
theorem dX7_begin_43 : decode cX7_begin 43 = .ok (.iconst 0, 1) := by decide +kernel
theorem dX7_begin_44 : decode cX7_begin 44 = .ok (.putfield 89, 3) := by decide +kernel
theorem dX7_begin_47 : decode cX7_begin 47 = .ok (.return_, 1) := by decide +kernel
set_option maxRecDepth 20000 in
theorem ggX7_heat_X7_in : GoodIn wsX7_heat wsX7_in := goodIn_r _ [4] (by decide +kernel) (by decide +kernel)
set_option maxRecDepth 20000 in
theorem gX7_heat_X7_in : GoodIn wsX7_heat (va_wsS RX7 82 yX7_in wsX7_in) := goodIn_app (goodIn_of _ (by decide +kernel)) ggX7_heat_X7_in
set_option maxRecDepth 20000 in
theorem ggX7_heat_X7_begin : GoodIn wsX7_heat wsX7_begin := goodIn_r _ [8, 9, 10, 11, 12, 13, 14, 15, 16, 17, 18, 19, 20, 21, 22, 23, 24, 25, 26, 27, 28, 29, 30, 31, 32, 33, 34, 35, 36, 37, 38, 39, 40] (by decide +kernel) (by decide +kernel)
set_option maxRecDepth 20000 in
theorem gX7_heat_X7_begin : GoodIn wsX7_heat (wsV RX7 75 RX7 yX7_begin wsX7_begin) := goodIn_app (goodIn_of _ (by decide +kernel)) ggX7_heat_X7_begin
theorem dX7_heat_0 : decode cX7_heat 0 = .ok (.iload_n 1, 1) := by decide +kernel
theorem dX7_heat_1 : decode cX7_heat 1 = .ok (.iconst 2, 1) := by decide +kernel
theorem dX7_heat_2 : decode cX7_heat 2 = .ok (.iconst 4, 1) := by decide +kernel
theorem dX7_heat_3 : decode cX7_heat 3 = .ok (.invokestatic 82, 3) := by decide +kernel
theorem dX7_heat_6 : decode cX7_heat 6 = .ok (.ifCond .ne 5, 3) := by decide +kernel
theorem dX7_heat_9 : decode cX7_heat 9 = .ok (.iconst (-1), 1) := by decide +kernel
theorem dX7_heat_10 : decode cX7_heat 10 = .ok (.ireturn, 1) := by decide +kernel
theorem dX7_heat_11 : decode cX7_heat 11 = .ok (.aload_n 0, 1) := by decide +kernel
theorem dX7_heat_12 : decode cX7_heat 12 = .ok (.iload_n 1, 1) := by decide +kernel
theorem dX7_heat_13 : decode cX7_heat 13 = .ok (.invokevirtual 75, 3) := by decide +kernel
theorem dX7_heat_16 : decode cX7_heat 16 = .ok (.iload_n 1, 1) := by decide +kernel
theorem dX7_heat_17 : decode cX7_heat 17 = .ok (.ireturn, 1) := by decide +kernel
theorem dX7_placeInLine_0 : decode cX7_placeInLine 0 = .ok (.iconst 0, 1) := by decide +kernel
theorem dX7_placeInLine_1 : decode cX7_placeInLine 1 = .ok (.istore_n 2, 1) := by decide +kernel
theorem dX7_placeInLine_2 : decode cX7_placeInLine 2 = .ok (.iload_n 2, 1) := by decide +kernel
theorem dX7_placeInLine_3 : decode cX7_placeInLine 3 = .ok (.aload_n 0, 1) := by decide +kernel
theorem dX7_placeInLine_4 : decode cX7_placeInLine 4 = .ok (.getfield 23, 3) := by decide +kernel
theorem dX7_placeInLine_7 : decode cX7_placeInLine 7 = .ok (.if_icmp .ge 21, 3) := by decide +kernel
theorem dX7_placeInLine_10 : decode cX7_placeInLine 10 = .ok (.aload_n 0, 1) := by decide +kernel
theorem dX7_placeInLine_11 : decode cX7_placeInLine 11 = .ok (.getfield 26, 3) := by decide +kernel
theorem dX7_placeInLine_14 : decode cX7_placeInLine 14 = .ok (.iload_n 2, 1) := by decide +kernel
theorem dX7_placeInLine_15 : decode cX7_placeInLine 15 = .ok (.iaload, 1) := by decide +kernel
theorem dX7_placeInLine_16 : decode cX7_placeInLine 16 = .ok (.iload_n 1, 1) := by decide +kernel
theorem dX7_placeInLine_17 : decode cX7_placeInLine 17 = .ok (.if_icmp .ne 5, 3) := by decide +kernel
theorem dX7_placeInLine_20 : decode cX7_placeInLine 20 = .ok (.iload_n 2, 1) := by decide +kernel
theorem dX7_placeInLine_21 : decode cX7_placeInLine 21 = .ok (.ireturn, 1) := by decide +kernel
theorem dX7_placeInLine_22 : decode cX7_placeInLine 22 = .ok (.iinc 2 1, 3) := by decide +kernel
