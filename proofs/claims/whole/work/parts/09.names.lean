theorem dX7_beginDays_34 : decode cX7_beginDays 34 = .ok (.iinc 2 1, 3) := by decide +kernel
theorem dX7_beginDays_37 : decode cX7_beginDays 37 = .ok (.goto (-30), 3) := by decide +kernel
theorem dX7_beginDays_40 : decode cX7_beginDays 40 = .ok (.return_, 1) := by decide +kernel
set_option maxRecDepth 20000 in
theorem ggX7_days_X7_in : GoodIn wsX7_days wsX7_in := goodIn_r _ [4] (by decide +kernel) (by decide +kernel)
set_option maxRecDepth 20000 in
theorem gX7_days_X7_in : GoodIn wsX7_days (va_wsS RX7 82 yX7_in wsX7_in) := goodIn_app (goodIn_of _ (by decide +kernel)) ggX7_days_X7_in
set_option maxRecDepth 20000 in
theorem ggX7_days_X7_beginDays : GoodIn wsX7_days wsX7_beginDays := goodIn_r _ [8, 9, 10, 11, 12, 13, 14, 15, 16, 17, 18, 19, 20, 21, 22, 23, 24, 25, 26, 27, 28, 29, 30, 31, 32, 33, 34, 35, 36, 37, 38] (by decide +kernel) (by decide +kernel)
set_option maxRecDepth 20000 in
theorem gX7_days_X7_beginDays : GoodIn wsX7_days (wsV RX7 79 RX7 yX7_beginDays wsX7_beginDays) := goodIn_app (goodIn_of _ (by decide +kernel)) ggX7_days_X7_beginDays
theorem dX7_days_0 : decode cX7_days 0 = .ok (.iload_n 1, 1) := by decide +kernel
theorem dX7_days_1 : decode cX7_days 1 = .ok (.iconst 1, 1) := by decide +kernel
theorem dX7_days_2 : decode cX7_days 2 = .ok (.bipush 9, 2) := by decide +kernel
theorem dX7_days_4 : decode cX7_days 4 = .ok (.invokestatic 82, 3) := by decide +kernel
theorem dX7_days_7 : decode cX7_days 7 = .ok (.ifCond .ne 5, 3) := by decide +kernel
theorem dX7_days_10 : decode cX7_days 10 = .ok (.iconst (-1), 1) := by decide +kernel
theorem dX7_days_11 : decode cX7_days 11 = .ok (.ireturn, 1) := by decide +kernel
theorem dX7_days_12 : decode cX7_days 12 = .ok (.aload_n 0, 1) := by decide +kernel
theorem dX7_days_13 : decode cX7_days 13 = .ok (.iload_n 1, 1) := by decide +kernel
theorem dX7_days_14 : decode cX7_days 14 = .ok (.invokevirtual 79, 3) := by decide +kernel
theorem dX7_days_17 : decode cX7_days 17 = .ok (.iload_n 1, 1) := by decide +kernel
theorem dX7_days_18 : decode cX7_days 18 = .ok (.ireturn, 1) := by decide +kernel
set_option maxRecDepth 20000 in
theorem ggX7_isDay_X7_in : GoodIn wsX7_isDay wsX7_in := goodIn_r _ [5] (by decide +kernel) (by decide +kernel)
set_option maxRecDepth 20000 in
theorem gX7_isDay_X7_in : GoodIn wsX7_isDay (va_wsS RX7 82 yX7_in wsX7_in) := goodIn_app (goodIn_of _ (by decide +kernel)) ggX7_isDay_X7_in
theorem dX7_isDay_0 : decode cX7_isDay 0 = .ok (.iload_n 1, 1) := by decide +kernel
theorem dX7_isDay_1 : decode cX7_isDay 1 = .ok (.iconst 0, 1) := by decide +kernel
theorem dX7_isDay_2 : decode cX7_isDay 2 = .ok (.aload_n 0, 1) := by decide +kernel
theorem dX7_isDay_3 : decode cX7_isDay 3 = .ok (.getfield 38, 3) := by decide +kernel
theorem dX7_isDay_6 : decode cX7_isDay 6 = .ok (.iconst 1, 1) := by decide +kernel
theorem dX7_isDay_7 : decode cX7_isDay 7 = .ok (.isub, 1) := by decide +kernel
theorem dX7_isDay_8 : decode cX7_isDay 8 = .ok (.invokestatic 82, 3) := by decide +kernel
theorem dX7_isDay_11 : decode cX7_isDay 11 = .ok (.ireturn, 1) := by decide +kernel
set_option maxRecDepth 20000 in
theorem ggX7_span_X7_isDay : GoodIn wsX7_span wsX7_isDay := goodIn_r _ [8, 9, 10, 11, 7, 12, 13, 14, 15, 16, 17, 18, 19, 20, 21, 22, 23, 24, 25, 26, 27, 28, 29, 30, 31, 32, 33, 34, 35, 36, 37, 38] (by decide +kernel) (by decide +kernel)
set_option maxRecDepth 20000 in
theorem gX7_span_X7_isDay : GoodIn wsX7_span (wsV RX7 158 RX7 yX7_isDay wsX7_isDay) := goodIn_app (goodIn_of _ (by decide +kernel)) ggX7_span_X7_isDay
set_option maxRecDepth 20000 in
theorem ggX7_span_X7_in : GoodIn wsX7_span wsX7_in := goodIn_r _ [12] (by decide +kernel) (by decide +kernel)
set_option maxRecDepth 20000 in
theorem gX7_span_X7_in : GoodIn wsX7_span (va_wsS RX7 82 yX7_in wsX7_in) := goodIn_app (goodIn_of _ (by decide +kernel)) ggX7_span_X7_in
theorem dX7_span_0 : decode cX7_span 0 = .ok (.aload_n 0, 1) := by decide +kernel
theorem dX7_span_1 : decode cX7_span 1 = .ok (.iload_n 1, 1) := by decide +kernel
theorem dX7_span_2 : decode cX7_span 2 = .ok (.invokevirtual 158, 3) := by decide +kernel
theorem dX7_span_5 : decode cX7_span 5 = .ok (.ifCond .eq 23, 3) := by decide +kernel
theorem dX7_span_8 : decode cX7_span 8 = .ok (.iload_n 2, 1) := by decide +kernel
theorem dX7_span_9 : decode cX7_span 9 = .ok (.iconst 0, 1) := by decide +kernel
theorem dX7_span_10 : decode cX7_span 10 = .ok (.bipush 9, 2) := by decide +kernel
theorem dX7_span_12 : decode cX7_span 12 = .ok (.invokestatic 82, 3) := by decide +kernel
theorem dX7_span_15 : decode cX7_span 15 = .ok (.ifCond .eq 13, 3) := by decide +kernel
theorem dX7_span_18 : decode cX7_span 18 = .ok (.iload_n 3, 1) := by decide +kernel
theorem dX7_span_19 : decode cX7_span 19 = .ok (.iload_n 2, 1) := by decide +kernel
theorem dX7_span_20 : decode cX7_span 20 = .ok (.bipush 9, 2) := by decide +kernel
theorem dX7_span_22 : decode cX7_span 22 = .ok (.invokestatic 82, 3) := by decide +kernel
theorem dX7_span_25 : decode cX7_span 25 = .ok (.ifCond .ne 5, 3) := by decide +kernel
theorem dX7_span_28 : decode cX7_span 28 = .ok (.iconst (-1), 1) := by decide +kernel
theorem dX7_span_29 : decode cX7_span 29 = .ok (.ireturn, 1) := by decide +kernel
theorem dX7_span_30 : decode cX7_span 30 = .ok (.aload_n 0, 1) := by decide +kernel
theorem dX7_span_31 : decode cX7_span 31 = .ok (.getfield 41, 3) := by decide +kernel
theorem dX7_span_34 : decode cX7_span 34 = .ok (.iload_n 1, 1) := by decide +kernel
theorem dX7_span_35 : decode cX7_span 35 = .ok (.iload_n 2, 1) := by decide +kernel
theorem dX7_span_36 : decode cX7_span 36 = .ok (.iastore, 1) := by decide +kernel
theorem dX7_span_37 : decode cX7_span 37 = .ok (.aload_n 0, 1) := by decide +kernel
theorem dX7_span_38 : decode cX7_span 38 = .ok (.getfield 44, 3) := by decide +kernel
theorem dX7_span_41 : decode cX7_span 41 = .ok (.iload_n 1, 1) := by decide +kernel
theorem dX7_span_42 : decode cX7_span 42 = .ok (.iload_n 3, 1) := by decide +kernel
theorem dX7_span_43 : decode cX7_span 43 = .ok (.iastore, 1) := by decide +kernel
theorem dX7_span_44 : decode cX7_span 44 = .ok (.aload_n 0, 1) := by decide +kernel
theorem dX7_span_45 : decode cX7_span 45 = .ok (.getfield 47, 3) := by decide +kernel
theorem dX7_span_48 : decode cX7_span 48 = .ok (.iload_n 1, 1) := by decide +kernel
theorem dX7_span_49 : decode cX7_span 49 = .ok (.iconst (-1), 1) := by decide +kernel
theorem dX7_span_50 : decode cX7_span 50 = .ok (.iastore, 1) := by decide +kernel
theorem dX7_span_51 : decode cX7_span 51 = .ok (.iconst 1, 1) := by decide +kernel
theorem dX7_span_52 : decode cX7_span 52 = .ok (.ireturn, 1) := by decide +kernel
set_option maxRecDepth 20000 in
theorem ggX7_was_X7_isDay : GoodIn wsX7_was wsX7_isDay := goodIn_r _ [8, 9, 10, 11, 7, 12, 13, 14, 15, 16, 17, 18, 19, 20, 21, 22, 23, 24, 25, 26, 27, 28, 29, 30, 31, 32, 33, 34, 35, 36, 37, 38] (by decide +kernel) (by decide +kernel)
set_option maxRecDepth 20000 in
theorem gX7_was_X7_isDay : GoodIn wsX7_was (wsV RX7 158 RX7 yX7_isDay wsX7_isDay) := goodIn_app (goodIn_of _ (by decide +kernel)) ggX7_was_X7_isDay
set_option maxRecDepth 20000 in
theorem ggX7_was_X7_in : GoodIn wsX7_was wsX7_in := goodIn_r _ [12] (by decide +kernel) (by decide +kernel)
set_option maxRecDepth 20000 in
theorem gX7_was_X7_in : GoodIn wsX7_was (va_wsS RX7 82 yX7_in wsX7_in) := goodIn_app (goodIn_of _ (by decide +kernel)) ggX7_was_X7_in
theorem dX7_was_0 : decode cX7_was 0 = .ok (.aload_n 0, 1) := by decide +kernel
theorem dX7_was_1 : decode cX7_was 1 = .ok (.iload_n 1, 1) := by decide +kernel
theorem dX7_was_2 : decode cX7_was 2 = .ok (.invokevirtual 158, 3) := by decide +kernel
theorem dX7_was_5 : decode cX7_was 5 = .ok (.ifCond .eq 27, 3) := by decide +kernel
theorem dX7_was_8 : decode cX7_was 8 = .ok (.iload_n 2, 1) := by decide +kernel
theorem dX7_was_9 : decode cX7_was 9 = .ok (.iconst (-1), 1) := by decide +kernel
theorem dX7_was_10 : decode cX7_was 10 = .ok (.if_icmp .eq 25, 3) := by decide +kernel
theorem dX7_was_13 : decode cX7_was 13 = .ok (.iload_n 2, 1) := by decide +kernel
theorem dX7_was_14 : decode cX7_was 14 = .ok (.aload_n 0, 1) := by decide +kernel
theorem dX7_was_15 : decode cX7_was 15 = .ok (.getfield 41, 3) := by decide +kernel
theorem dX7_was_18 : decode cX7_was 18 = .ok (.iload_n 1, 1) := by decide +kernel
theorem dX7_was_19 : decode cX7_was 19 = .ok (.iaload, 1) := by decide +kernel
theorem dX7_was_20 : decode cX7_was 20 = .ok (.aload_n 0, 1) := by decide +kernel
theorem dX7_was_21 : decode cX7_was 21 = .ok (.getfield 44, 3) := by decide +kernel
theorem dX7_was_24 : decode cX7_was 24 = .ok (.iload_n 1, 1) := by decide +kernel
theorem dX7_was_25 : decode cX7_was 25 = .ok (.iaload, 1) := by decide +kernel
theorem dX7_was_26 : decode cX7_was 26 = .ok (.invokestatic 82, 3) := by decide +kernel
theorem dX7_was_29 : decode cX7_was 29 = .ok (.ifCond .ne 6, 3) := by decide +kernel
theorem dX7_was_32 : decode cX7_was 32 = .ok (.bipush (-9), 2) := by decide +kernel
theorem dX7_was_34 : decode cX7_was 34 = .ok (.ireturn, 1) := by decide +kernel
theorem dX7_was_35 : decode cX7_was 35 = .ok (.aload_n 0, 1) := by decide +kernel
theorem dX7_was_36 : decode cX7_was 36 = .ok (.getfield 47, 3) := by decide +kernel
theorem dX7_was_39 : decode cX7_was 39 = .ok (.iload_n 1, 1) := by decide +kernel
theorem dX7_was_40 : decode cX7_was 40 = .ok (.iaload, 1) := by decide +kernel
theorem dX7_was_41 : decode cX7_was 41 = .ok (.istore_n 3, 1) := by decide +kernel
theorem dX7_was_42 : decode cX7_was 42 = .ok (.aload_n 0, 1) := by decide +kernel
theorem dX7_was_43 : decode cX7_was 43 = .ok (.getfield 47, 3) := by decide +kernel
theorem dX7_was_46 : decode cX7_was 46 = .ok (.iload_n 1, 1) := by decide +kernel
theorem dX7_was_47 : decode cX7_was 47 = .ok (.iload_n 2, 1) := by decide +kernel
theorem dX7_was_48 : decode cX7_was 48 = .ok (.iastore, 1) := by decide +kernel
theorem dX7_was_49 : decode cX7_was 49 = .ok (.iload_n 3, 1) := by decide +kernel
theorem dX7_was_50 : decode cX7_was 50 = .ok (.ireturn, 1) := by decide +kernel
theorem dX7_findWorths_0 : decode cX7_findWorths 0 = .ok (.aload_n 0, 1) := by decide +kernel
theorem dX7_findWorths_1 : decode cX7_findWorths 1 = .ok (.getfield 72, 3) := by decide +kernel
theorem dX7_findWorths_4 : decode cX7_findWorths 4 = .ok (.aload_n 0, 1) := by decide +kernel
theorem dX7_findWorths_5 : decode cX7_findWorths 5 = .ok (.getfield 38, 3) := by decide +kernel
theorem dX7_findWorths_8 : decode cX7_findWorths 8 = .ok (.lconst 1, 1) := by decide +kernel
theorem dX7_findWorths_9 : decode cX7_findWorths 9 = .ok (.lastore, 1) := by decide +kernel
theorem dX7_findWorths_10 : decode cX7_findWorths 10 = .ok (.aload_n 0, 1) := by decide +kernel
theorem dX7_findWorths_11 : decode cX7_findWorths 11 = .ok (.getfield 68, 3) := by decide +kernel
theorem dX7_findWorths_14 : decode cX7_findWorths 14 = .ok (.bipush 10, 2) := by decide +kernel
theorem dX7_findWorths_16 : decode cX7_findWorths 16 = .ok (.aload_n 0, 1) := by decide +kernel
theorem dX7_findWorths_17 : decode cX7_findWorths 17 = .ok (.getfield 38, 3) := by decide +kernel
theorem dX7_findWorths_20 : decode cX7_findWorths 20 = .ok (.imul, 1) := by decide +kernel
theorem dX7_findWorths_21 : decode cX7_findWorths 21 = .ok (.lconst 0, 1) := by decide +kernel
theorem dX7_findWorths_22 : decode cX7_findWorths 22 = .ok (.lastore, 1) := by decide +kernel
theorem dX7_findWorths_23 : decode cX7_findWorths 23 = .ok (.aload_n 0, 1) := by decide +kernel
theorem dX7_findWorths_24 : decode cX7_findWorths 24 = .ok (.getfield 38, 3) := by decide +kernel
theorem dX7_findWorths_27 : decode cX7_findWorths 27 = .ok (.iconst 1, 1) := by decide +kernel
theorem dX7_findWorths_28 : decode cX7_findWorths 28 = .ok (.isub, 1) := by decide +kernel
theorem dX7_findWorths_29 : decode cX7_findWorths 29 = .ok (.istore_n 1, 1) := by decide +kernel
theorem dX7_findWorths_30 : decode cX7_findWorths 30 = .ok (.iload_n 1, 1) := by decide +kernel
theorem dX7_findWorths_31 : decode cX7_findWorths 31 = .ok (.ifCond .lt 188, 3) := by decide +kernel
theorem dX7_findWorths_34 : decode cX7_findWorths 34 = .ok (.aload_n 0, 1) := by decide +kernel
theorem dX7_findWorths_35 : decode cX7_findWorths 35 = .ok (.getfield 72, 3) := by decide +kernel
theorem dX7_findWorths_38 : decode cX7_findWorths 38 = .ok (.iload_n 1, 1) := by decide +kernel
theorem dX7_findWorths_39 : decode cX7_findWorths 39 = .ok (.aload_n 0, 1) := by decide +kernel
theorem dX7_findWorths_40 : decode cX7_findWorths 40 = .ok (.getfield 72, 3) := by decide +kernel
theorem dX7_findWorths_43 : decode cX7_findWorths 43 = .ok (.iload_n 1, 1) := by decide +kernel
theorem dX7_findWorths_44 : decode cX7_findWorths 44 = .ok (.iconst 1, 1) := by decide +kernel
theorem dX7_findWorths_45 : decode cX7_findWorths 45 = .ok (.iadd, 1) := by decide +kernel
theorem dX7_findWorths_46 : decode cX7_findWorths 46 = .ok (.laload, 1) := by decide +kernel
theorem dX7_findWorths_47 : decode cX7_findWorths 47 = .ok (.aload_n 0, 1) := by decide +kernel
theorem dX7_findWorths_48 : decode cX7_findWorths 48 = .ok (.getfield 44, 3) := by decide +kernel
theorem dX7_findWorths_51 : decode cX7_findWorths 51 = .ok (.iload_n 1, 1) := by decide +kernel
theorem dX7_findWorths_52 : decode cX7_findWorths 52 = .ok (.iaload, 1) := by decide +kernel
theorem dX7_findWorths_53 : decode cX7_findWorths 53 = .ok (.aload_n 0, 1) := by decide +kernel
theorem dX7_findWorths_54 : decode cX7_findWorths 54 = .ok (.getfield 41, 3) := by decide +kernel
theorem dX7_findWorths_57 : decode cX7_findWorths 57 = .ok (.iload_n 1, 1) := by decide +kernel
theorem dX7_findWorths_58 : decode cX7_findWorths 58 = .ok (.iaload, 1) := by decide +kernel
theorem dX7_findWorths_59 : decode cX7_findWorths 59 = .ok (.isub, 1) := by decide +kernel
theorem dX7_findWorths_60 : decode cX7_findWorths 60 = .ok (.iconst 1, 1) := by decide +kernel
theorem dX7_findWorths_61 : decode cX7_findWorths 61 = .ok (.iadd, 1) := by decide +kernel
theorem dX7_findWorths_62 : decode cX7_findWorths 62 = .ok (.i2l, 1) := by decide +kernel
theorem dX7_findWorths_63 : decode cX7_findWorths 63 = .ok (.lmul, 1) := by decide +kernel
theorem dX7_findWorths_64 : decode cX7_findWorths 64 = .ok (.lastore, 1) := by decide +kernel
theorem dX7_findWorths_65 : decode cX7_findWorths 65 = .ok (.iconst 0, 1) := by decide +kernel
theorem dX7_findWorths_66 : decode cX7_findWorths 66 = .ok (.istore_n 2, 1) := by decide +kernel
theorem dX7_findWorths_67 : decode cX7_findWorths 67 = .ok (.iload_n 2, 1) := by decide +kernel
theorem dX7_findWorths_68 : decode cX7_findWorths 68 = .ok (.aload_n 0, 1) := by decide +kernel
theorem dX7_findWorths_69 : decode cX7_findWorths 69 = .ok (.getfield 38, 3) := by decide +kernel
theorem dX7_findWorths_72 : decode cX7_findWorths 72 = .ok (.iload_n 1, 1) := by decide +kernel
theorem dX7_findWorths_73 : decode cX7_findWorths 73 = .ok (.isub, 1) := by decide +kernel
theorem dX7_findWorths_74 : decode cX7_findWorths 74 = .ok (.if_icmp .gt 139, 3) := by decide +kernel
theorem dX7_findWorths_77 : decode cX7_findWorths 77 = .ok (.lconst 0, 1) := by decide +kernel
theorem dX7_findWorths_78 : decode cX7_findWorths 78 = .ok (.lstore_n 3, 1) := by decide +kernel
theorem dX7_findWorths_79 : decode cX7_findWorths 79 = .ok (.aload_n 0, 1) := by decide +kernel
theorem dX7_findWorths_80 : decode cX7_findWorths 80 = .ok (.getfield 41, 3) := by decide +kernel
theorem dX7_findWorths_83 : decode cX7_findWorths 83 = .ok (.iload_n 1, 1) := by decide +kernel
theorem dX7_findWorths_84 : decode cX7_findWorths 84 = .ok (.iaload, 1) := by decide +kernel
theorem dX7_findWorths_85 : decode cX7_findWorths 85 = .ok (.istore 5, 2) := by decide +kernel
theorem dX7_findWorths_87 : decode cX7_findWorths 87 = .ok (.iload 5, 2) := by decide +kernel
theorem dX7_findWorths_89 : decode cX7_findWorths 89 = .ok (.aload_n 0, 1) := by decide +kernel
theorem dX7_findWorths_90 : decode cX7_findWorths 90 = .ok (.getfield 44, 3) := by decide +kernel
theorem dX7_findWorths_93 : decode cX7_findWorths 93 = .ok (.iload_n 1, 1) := by decide +kernel
theorem dX7_findWorths_94 : decode cX7_findWorths 94 = .ok (.iaload, 1) := by decide +kernel
theorem dX7_findWorths_95 : decode cX7_findWorths 95 = .ok (.if_icmp .gt 100, 3) := by decide +kernel
theorem dX7_findWorths_98 : decode cX7_findWorths 98 = .ok (.iload_n 2, 1) := by decide +kernel
theorem dX7_findWorths_99 : decode cX7_findWorths 99 = .ok (.ifCond .ne 9, 3) := by decide +kernel
theorem dX7_findWorths_102 : decode cX7_findWorths 102 = .ok (.ldc2_w 161, 3) := by decide +kernel
theorem dX7_findWorths_105 : decode cX7_findWorths 105 = .ok (.goto 31, 3) := by decide +kernel
theorem dX7_findWorths_108 : decode cX7_findWorths 108 = .ok (.iload 5, 2) := by decide +kernel
theorem dX7_findWorths_110 : decode cX7_findWorths 110 = .ok (.i2l, 1) := by decide +kernel
theorem dX7_findWorths_111 : decode cX7_findWorths 111 = .ok (.aload_n 0, 1) := by decide +kernel
theorem dX7_findWorths_112 : decode cX7_findWorths 112 = .ok (.getfield 72, 3) := by decide +kernel
theorem dX7_findWorths_115 : decode cX7_findWorths 115 = .ok (.iload_n 1, 1) := by decide +kernel
theorem dX7_findWorths_116 : decode cX7_findWorths 116 = .ok (.iconst 1, 1) := by decide +kernel
theorem dX7_findWorths_117 : decode cX7_findWorths 117 = .ok (.iadd, 1) := by decide +kernel
theorem dX7_findWorths_118 : decode cX7_findWorths 118 = .ok (.laload, 1) := by decide +kernel
theorem dX7_findWorths_119 : decode cX7_findWorths 119 = .ok (.lmul, 1) := by decide +kernel
theorem dX7_findWorths_120 : decode cX7_findWorths 120 = .ok (.aload_n 0, 1) := by decide +kernel
theorem dX7_findWorths_121 : decode cX7_findWorths 121 = .ok (.getfield 68, 3) := by decide +kernel
theorem dX7_findWorths_124 : decode cX7_findWorths 124 = .ok (.bipush 10, 2) := by decide +kernel
theorem dX7_findWorths_126 : decode cX7_findWorths 126 = .ok (.iload_n 1, 1) := by decide +kernel
theorem dX7_findWorths_127 : decode cX7_findWorths 127 = .ok (.iconst 1, 1) := by decide +kernel
theorem dX7_findWorths_128 : decode cX7_findWorths 128 = .ok (.iadd, 1) := by decide +kernel
theorem dX7_findWorths_129 : decode cX7_findWorths 129 = .ok (.imul, 1) := by decide +kernel
theorem dX7_findWorths_130 : decode cX7_findWorths 130 = .ok (.iload_n 2, 1) := by decide +kernel
theorem dX7_findWorths_131 : decode cX7_findWorths 131 = .ok (.iadd, 1) := by decide +kernel
theorem dX7_findWorths_132 : decode cX7_findWorths 132 = .ok (.iconst 1, 1) := by decide +kernel
theorem dX7_findWorths_133 : decode cX7_findWorths 133 = .ok (.isub, 1) := by decide +kernel
theorem dX7_findWorths_134 : decode cX7_findWorths 134 = .ok (.laload, 1) := by decide +kernel
theorem dX7_findWorths_135 : decode cX7_findWorths 135 = .ok (.ladd, 1) := by decide +kernel
theorem dX7_findWorths_136 : decode cX7_findWorths 136 = .ok (.lstore 6, 2) := by decide +kernel
theorem dX7_findWorths_138 : decode cX7_findWorths 138 = .ok (.iload_n 2, 1) := by decide +kernel
theorem dX7_findWorths_139 : decode cX7_findWorths 139 = .ok (.aload_n 0, 1) := by decide +kernel
theorem dX7_findWorths_140 : decode cX7_findWorths 140 = .ok (.getfield 38, 3) := by decide +kernel
theorem dX7_findWorths_143 : decode cX7_findWorths 143 = .ok (.iload_n 1, 1) := by decide +kernel
theorem dX7_findWorths_144 : decode cX7_findWorths 144 = .ok (.isub, 1) := by decide +kernel
theorem dX7_findWorths_145 : decode cX7_findWorths 145 = .ok (.iconst 1, 1) := by decide +kernel
theorem dX7_findWorths_146 : decode cX7_findWorths 146 = .ok (.isub, 1) := by decide +kernel
theorem dX7_findWorths_147 : decode cX7_findWorths 147 = .ok (.if_icmp .le 9, 3) := by decide +kernel
theorem dX7_findWorths_150 : decode cX7_findWorths 150 = .ok (.ldc2_w 161, 3) := by decide +kernel
theorem dX7_findWorths_153 : decode cX7_findWorths 153 = .ok (.goto 16, 3) := by decide +kernel
theorem dX7_findWorths_156 : decode cX7_findWorths 156 = .ok (.aload_n 0, 1) := by decide +kernel
theorem dX7_findWorths_157 : decode cX7_findWorths 157 = .ok (.getfield 68, 3) := by decide +kernel
theorem dX7_findWorths_160 : decode cX7_findWorths 160 = .ok (.bipush 10, 2) := by decide +kernel
theorem dX7_findWorths_162 : decode cX7_findWorths 162 = .ok (.iload_n 1, 1) := by decide +kernel
theorem dX7_findWorths_163 : decode cX7_findWorths 163 = .ok (.iconst 1, 1) := by decide +kernel
theorem dX7_findWorths_164 : decode cX7_findWorths 164 = .ok (.iadd, 1) := by decide +kernel
theorem dX7_findWorths_165 : decode cX7_findWorths 165 = .ok (.imul, 1) := by decide +kernel
theorem dX7_findWorths_166 : decode cX7_findWorths 166 = .ok (.iload_n 2, 1) := by decide +kernel
theorem dX7_findWorths_167 : decode cX7_findWorths 167 = .ok (.iadd, 1) := by decide +kernel
theorem dX7_findWorths_168 : decode cX7_findWorths 168 = .ok (.laload, 1) := by decide +kernel
theorem dX7_findWorths_169 : decode cX7_findWorths 169 = .ok (.lstore 8, 2) := by decide +kernel
theorem dX7_findWorths_171 : decode cX7_findWorths 171 = .ok (.lload_n 3, 1) := by decide +kernel
theorem dX7_findWorths_172 : decode cX7_findWorths 172 = .ok (.lload 6, 2) := by decide +kernel
theorem dX7_findWorths_174 : decode cX7_findWorths 174 = .ok (.lload 8, 2) := by decide +kernel
theorem dX7_findWorths_176 : decode cX7_findWorths 176 = .ok (.lcmp, 1) := by decide +kernel
theorem dX7_findWorths_177 : decode cX7_findWorths 177 = .ok (.ifCond .le 8, 3) := by decide +kernel
theorem dX7_findWorths_180 : decode cX7_findWorths 180 = .ok (.lload 6, 2) := by decide +kernel
theorem dX7_findWorths_182 : decode cX7_findWorths 182 = .ok (.goto 5, 3) := by decide +kernel
theorem dX7_findWorths_185 : decode cX7_findWorths 185 = .ok (.lload 8, 2) := by decide +kernel
theorem dX7_findWorths_187 : decode cX7_findWorths 187 = .ok (.ladd, 1) := by decide +kernel
theorem dX7_findWorths_188 : decode cX7_findWorths 188 = .ok (.lstore_n 3, 1) := by decide +kernel
theorem dX7_findWorths_189 : decode cX7_findWorths 189 = .ok (.iinc 5 1, 3) := by decide +kernel
theorem dX7_findWorths_192 : decode cX7_findWorths 192 = .ok (.goto (-105), 3) := by decide +kernel
theorem dX7_findWorths_195 : decode cX7_findWorths 195 = .ok (.aload_n 0, 1) := by decide +kernel
theorem dX7_findWorths_196 : decode cX7_findWorths 196 = .ok (.getfield 68, 3) := by decide +kernel
theorem dX7_findWorths_199 : decode cX7_findWorths 199 = .ok (.bipush 10, 2) := by decide +kernel
theorem dX7_findWorths_201 : decode cX7_findWorths 201 = .ok (.iload_n 1, 1) := by decide +kernel
theorem dX7_findWorths_202 : decode cX7_findWorths 202 = .ok (.imul, 1) := by decide +kernel
theorem dX7_findWorths_203 : decode cX7_findWorths 203 = .ok (.iload_n 2, 1) := by decide +kernel
theorem dX7_findWorths_204 : decode cX7_findWorths 204 = .ok (.iadd, 1) := by decide +kernel
theorem dX7_findWorths_205 : decode cX7_findWorths 205 = .ok (.lload_n 3, 1) := by decide +kernel
theorem dX7_findWorths_206 : decode cX7_findWorths 206 = .ok (.lastore, 1) := by decide +kernel
theorem dX7_findWorths_207 : decode cX7_findWorths 207 = .ok (.iinc 2 1, 3) := by decide +kernel
theorem dX7_findWorths_210 : decode cX7_findWorths 210 = .ok (.goto (-143), 3) := by decide +kernel
theorem dX7_findWorths_213 : decode cX7_findWorths 213 = .ok (.iinc 1 (-1), 3) := by decide +kernel
theorem dX7_findWorths_216 : decode cX7_findWorths 216 = .ok (.goto (-186), 3) := by decide +kernel
theorem dX7_findWorths_219 : decode cX7_findWorths 219 = .ok (.return_, 1) := by decide +kernel
set_option maxRecDepth 20000 in
theorem ggX7_worth_X7_in : GoodIn wsX7_worth wsX7_in := goodIn_r _ [9] (by decide +kernel) (by decide +kernel)
set_option maxRecDepth 20000 in
theorem gX7_worth_X7_in : GoodIn wsX7_worth (va_wsS RX7 82 yX7_in wsX7_in) := goodIn_app (goodIn_of _ (by decide +kernel)) ggX7_worth_X7_in
set_option maxRecDepth 20000 in
theorem ggX7_worth_X7_findWorths : GoodIn wsX7_worth wsX7_findWorths := goodIn_r _ [13, 5, 1, 4, 14, 15, 16, 20, 21, 22, 23, 24, 25, 26, 27, 28, 29, 30, 31, 32, 33, 34, 35, 36, 37, 38, 39, 40, 41, 42, 43, 44, 45] (by decide +kernel) (by decide +kernel)
set_option maxRecDepth 20000 in
theorem gX7_worth_X7_findWorths : GoodIn wsX7_worth (wsV RX7 167 RX7 yX7_findWorths wsX7_findWorths) := goodIn_app (goodIn_of _ (by decide +kernel)) ggX7_worth_X7_findWorths
set_option maxRecDepth 20000 in
theorem ggX7_worth_X7_common : GoodIn wsX7_worth wsX7_common := goodIn_r _ [19] (by decide +kernel) (by decide +kernel)
set_option maxRecDepth 20000 in
theorem gX7_worth_X7_common : GoodIn wsX7_worth (va_wsS RX7 148 yX7_common wsX7_common) := goodIn_app (goodIn_of _ (by decide +kernel)) ggX7_worth_X7_common
theorem dX7_worth_0 : decode cX7_worth 0 = .ok (.iload_n 1, 1) := by decide +kernel
theorem dX7_worth_1 : decode cX7_worth 1 = .ok (.iconst 0, 1) := by decide +kernel
theorem dX7_worth_2 : decode cX7_worth 2 = .ok (.aload_n 0, 1) := by decide +kernel
theorem dX7_worth_3 : decode cX7_worth 3 = .ok (.getfield 38, 3) := by decide +kernel
theorem dX7_worth_6 : decode cX7_worth 6 = .ok (.invokestatic 82, 3) := by decide +kernel
theorem dX7_worth_9 : decode cX7_worth 9 = .ok (.ifCond .eq 22, 3) := by decide +kernel
theorem dX7_worth_12 : decode cX7_worth 12 = .ok (.iload_n 2, 1) := by decide +kernel
theorem dX7_worth_13 : decode cX7_worth 13 = .ok (.iconst 0, 1) := by decide +kernel
theorem dX7_worth_14 : decode cX7_worth 14 = .ok (.bipush 9, 2) := by decide +kernel
theorem dX7_worth_16 : decode cX7_worth 16 = .ok (.invokestatic 82, 3) := by decide +kernel
theorem dX7_worth_19 : decode cX7_worth 19 = .ok (.ifCond .eq 12, 3) := by decide +kernel
theorem dX7_worth_22 : decode cX7_worth 22 = .ok (.iload_n 3, 1) := by decide +kernel
theorem dX7_worth_23 : decode cX7_worth 23 = .ok (.iconst 0, 1) := by decide +kernel
theorem dX7_worth_24 : decode cX7_worth 24 = .ok (.iconst 1, 1) := by decide +kernel
theorem dX7_worth_25 : decode cX7_worth 25 = .ok (.invokestatic 82, 3) := by decide +kernel
theorem dX7_worth_28 : decode cX7_worth 28 = .ok (.ifCond .ne 7, 3) := by decide +kernel
theorem dX7_worth_31 : decode cX7_worth 31 = .ok (.ldc2_w 163, 3) := by decide +kernel
theorem dX7_worth_34 : decode cX7_worth 34 = .ok (.lreturn, 1) := by decide +kernel
theorem dX7_worth_35 : decode cX7_worth 35 = .ok (.aload_n 0, 1) := by decide +kernel
theorem dX7_worth_36 : decode cX7_worth 36 = .ok (.getfield 38, 3) := by decide +kernel
theorem dX7_worth_39 : decode cX7_worth 39 = .ok (.iload_n 1, 1) := by decide +kernel
theorem dX7_worth_40 : decode cX7_worth 40 = .ok (.isub, 1) := by decide +kernel
theorem dX7_worth_41 : decode cX7_worth 41 = .ok (.iload_n 2, 1) := by decide +kernel
theorem dX7_worth_42 : decode cX7_worth 42 = .ok (.if_icmp .ge 7, 3) := by decide +kernel
theorem dX7_worth_45 : decode cX7_worth 45 = .ok (.ldc2_w 165, 3) := by decide +kernel
theorem dX7_worth_48 : decode cX7_worth 48 = .ok (.lreturn, 1) := by decide +kernel
theorem dX7_worth_49 : decode cX7_worth 49 = .ok (.aload_n 0, 1) := by decide +kernel
theorem dX7_worth_50 : decode cX7_worth 50 = .ok (.invokevirtual 167, 3) := by decide +kernel
theorem dX7_worth_53 : decode cX7_worth 53 = .ok (.aload_n 0, 1) := by decide +kernel
theorem dX7_worth_54 : decode cX7_worth 54 = .ok (.getfield 68, 3) := by decide +kernel
theorem dX7_worth_57 : decode cX7_worth 57 = .ok (.bipush 10, 2) := by decide +kernel
theorem dX7_worth_59 : decode cX7_worth 59 = .ok (.iload_n 1, 1) := by decide +kernel
theorem dX7_worth_60 : decode cX7_worth 60 = .ok (.imul, 1) := by decide +kernel
theorem dX7_worth_61 : decode cX7_worth 61 = .ok (.iload_n 2, 1) := by decide +kernel
theorem dX7_worth_62 : decode cX7_worth 62 = .ok (.iadd, 1) := by decide +kernel
theorem dX7_worth_63 : decode cX7_worth 63 = .ok (.laload, 1) := by decide +kernel
theorem dX7_worth_64 : decode cX7_worth 64 = .ok (.lstore 4, 2) := by decide +kernel
theorem dX7_worth_66 : decode cX7_worth 66 = .ok (.lload 4, 2) := by decide +kernel
theorem dX7_worth_68 : decode cX7_worth 68 = .ok (.aload_n 0, 1) := by decide +kernel
theorem dX7_worth_69 : decode cX7_worth 69 = .ok (.getfield 72, 3) := by decide +kernel
theorem dX7_worth_72 : decode cX7_worth 72 = .ok (.iload_n 1, 1) := by decide +kernel
theorem dX7_worth_73 : decode cX7_worth 73 = .ok (.laload, 1) := by decide +kernel
theorem dX7_worth_74 : decode cX7_worth 74 = .ok (.invokestatic 148, 3) := by decide +kernel
theorem dX7_worth_77 : decode cX7_worth 77 = .ok (.lstore 6, 2) := by decide +kernel
theorem dX7_worth_79 : decode cX7_worth 79 = .ok (.iload_n 3, 1) := by decide +kernel
theorem dX7_worth_80 : decode cX7_worth 80 = .ok (.ifCond .ne 8, 3) := by decide +kernel
theorem dX7_worth_83 : decode cX7_worth 83 = .ok (.lload 4, 2) := by decide +kernel
theorem dX7_worth_85 : decode cX7_worth 85 = .ok (.goto 9, 3) := by decide +kernel
theorem dX7_worth_88 : decode cX7_worth 88 = .ok (.aload_n 0, 1) := by decide +kernel
theorem dX7_worth_89 : decode cX7_worth 89 = .ok (.getfield 72, 3) := by decide +kernel
theorem dX7_worth_92 : decode cX7_worth 92 = .ok (.iload_n 1, 1) := by decide +kernel
theorem dX7_worth_93 : decode cX7_worth 93 = .ok (.laload, 1) := by decide +kernel
theorem dX7_worth_94 : decode cX7_worth 94 = .ok (.lload 6, 2) := by decide +kernel
theorem dX7_worth_96 : decode cX7_worth 96 = .ok (.ldiv, 1) := by decide +kernel
theorem dX7_worth_97 : decode cX7_worth 97 = .ok (.lreturn, 1) := by decide +kernel
theorem dX7_isCalled_0 : decode cX7_isCalled 0 = .ok (.iload_n 2, 1) := by decide +kernel
theorem dX7_isCalled_1 : decode cX7_isCalled 1 = .ok (.ifCond .ne 5, 3) := by decide +kernel
theorem dX7_isCalled_4 : decode cX7_isCalled 4 = .ok (.iconst 0, 1) := by decide +kernel
theorem dX7_isCalled_5 : decode cX7_isCalled 5 = .ok (.ireturn, 1) := by decide +kernel
theorem dX7_isCalled_6 : decode cX7_isCalled 6 = .ok (.iload_n 2, 1) := by decide +kernel
theorem dX7_isCalled_7 : decode cX7_isCalled 7 = .ok (.aload_n 0, 1) := by decide +kernel
theorem dX7_isCalled_8 : decode cX7_isCalled 8 = .ok (.getfield 38, 3) := by decide +kernel
theorem dX7_isCalled_11 : decode cX7_isCalled 11 = .ok (.iload_n 1, 1) := by decide +kernel
theorem dX7_isCalled_12 : decode cX7_isCalled 12 = .ok (.isub, 1) := by decide +kernel
theorem dX7_isCalled_13 : decode cX7_isCalled 13 = .ok (.iconst 1, 1) := by decide +kernel
theorem dX7_isCalled_14 : decode cX7_isCalled 14 = .ok (.isub, 1) := by decide +kernel
theorem dX7_isCalled_15 : decode cX7_isCalled 15 = .ok (.if_icmp .le 5, 3) := by decide +kernel
theorem dX7_isCalled_18 : decode cX7_isCalled 18 = .ok (.iconst 1, 1) := by decide +kernel
theorem dX7_isCalled_19 : decode cX7_isCalled 19 = .ok (.ireturn, 1) := by decide +kernel
theorem dX7_isCalled_20 : decode cX7_isCalled 20 = .ok (.iload_n 3, 1) := by decide +kernel
theorem dX7_isCalled_21 : decode cX7_isCalled 21 = .ok (.i2l, 1) := by decide +kernel
theorem dX7_isCalled_22 : decode cX7_isCalled 22 = .ok (.aload_n 0, 1) := by decide +kernel
theorem dX7_isCalled_23 : decode cX7_isCalled 23 = .ok (.getfield 72, 3) := by decide +kernel
theorem dX7_isCalled_26 : decode cX7_isCalled 26 = .ok (.iload_n 1, 1) := by decide +kernel
theorem dX7_isCalled_27 : decode cX7_isCalled 27 = .ok (.iconst 1, 1) := by decide +kernel
theorem dX7_isCalled_28 : decode cX7_isCalled 28 = .ok (.iadd, 1) := by decide +kernel
theorem dX7_isCalled_29 : decode cX7_isCalled 29 = .ok (.laload, 1) := by decide +kernel
theorem dX7_isCalled_30 : decode cX7_isCalled 30 = .ok (.lmul, 1) := by decide +kernel
theorem dX7_isCalled_31 : decode cX7_isCalled 31 = .ok (.aload_n 0, 1) := by decide +kernel
theorem dX7_isCalled_32 : decode cX7_isCalled 32 = .ok (.getfield 68, 3) := by decide +kernel
theorem dX7_isCalled_35 : decode cX7_isCalled 35 = .ok (.bipush 10, 2) := by decide +kernel
theorem dX7_isCalled_37 : decode cX7_isCalled 37 = .ok (.iload_n 1, 1) := by decide +kernel
theorem dX7_isCalled_38 : decode cX7_isCalled 38 = .ok (.iconst 1, 1) := by decide +kernel
theorem dX7_isCalled_39 : decode cX7_isCalled 39 = .ok (.iadd, 1) := by decide +kernel
theorem dX7_isCalled_40 : decode cX7_isCalled 40 = .ok (.imul, 1) := by decide +kernel
theorem dX7_isCalled_41 : decode cX7_isCalled 41 = .ok (.iload_n 2, 1) := by decide +kernel
theorem dX7_isCalled_42 : decode cX7_isCalled 42 = .ok (.iadd, 1) := by decide +kernel
theorem dX7_isCalled_43 : decode cX7_isCalled 43 = .ok (.iconst 1, 1) := by decide +kernel
theorem dX7_isCalled_44 : decode cX7_isCalled 44 = .ok (.isub, 1) := by decide +kernel
theorem dX7_isCalled_45 : decode cX7_isCalled 45 = .ok (.laload, 1) := by decide +kernel
theorem dX7_isCalled_46 : decode cX7_isCalled 46 = .ok (.ladd, 1) := by decide +kernel
theorem dX7_isCalled_47 : decode cX7_isCalled 47 = .ok (.aload_n 0, 1) := by decide +kernel
theorem dX7_isCalled_48 : decode cX7_isCalled 48 = .ok (.getfield 68, 3) := by decide +kernel
theorem dX7_isCalled_51 : decode cX7_isCalled 51 = .ok (.bipush 10, 2) := by decide +kernel
theorem dX7_isCalled_53 : decode cX7_isCalled 53 = .ok (.iload_n 1, 1) := by decide +kernel
theorem dX7_isCalled_54 : decode cX7_isCalled 54 = .ok (.iconst 1, 1) := by decide +kernel
theorem dX7_isCalled_55 : decode cX7_isCalled 55 = .ok (.iadd, 1) := by decide +kernel
theorem dX7_isCalled_56 : decode cX7_isCalled 56 = .ok (.imul, 1) := by decide +kernel
theorem dX7_isCalled_57 : decode cX7_isCalled 57 = .ok (.iload_n 2, 1) := by decide +kernel
theorem dX7_isCalled_58 : decode cX7_isCalled 58 = .ok (.iadd, 1) := by decide +kernel
theorem dX7_isCalled_59 : decode cX7_isCalled 59 = .ok (.laload, 1) := by decide +kernel
theorem dX7_isCalled_60 : decode cX7_isCalled 60 = .ok (.lcmp, 1) := by decide +kernel
theorem dX7_isCalled_61 : decode cX7_isCalled 61 = .ok (.ifCond .lt 7, 3) := by decide +kernel
theorem dX7_isCalled_64 : decode cX7_isCalled 64 = .ok (.iconst 1, 1) := by decide +kernel
theorem dX7_isCalled_65 : decode cX7_isCalled 65 = .ok (.goto 4, 3) := by decide +kernel
theorem dX7_isCalled_68 : decode cX7_isCalled 68 = .ok (.iconst 0, 1) := by decide +kernel
theorem dX7_isCalled_69 : decode cX7_isCalled 69 = .ok (.ireturn, 1) := by decide +kernel
set_option maxRecDepth 20000 in
theorem ggX7_call_X7_isDay : GoodIn wsX7_call wsX7_isDay := goodIn_r _ [6, 1, 7, 8, 5, 9, 23, 24, 25, 26, 27, 28, 29, 30, 31, 32, 33, 34, 35, 36, 37, 38, 39, 40, 41, 42, 43, 44, 45, 46, 47, 48] (by decide +kernel) (by decide +kernel)
set_option maxRecDepth 20000 in
theorem gX7_call_X7_isDay : GoodIn wsX7_call (wsV RX7 158 RX7 yX7_isDay wsX7_isDay) := goodIn_app (goodIn_of _ (by decide +kernel)) ggX7_call_X7_isDay
set_option maxRecDepth 20000 in
theorem ggX7_call_X7_in : GoodIn wsX7_call wsX7_in := goodIn_r _ [9] (by decide +kernel) (by decide +kernel)
set_option maxRecDepth 20000 in
theorem gX7_call_X7_in : GoodIn wsX7_call (va_wsS RX7 82 yX7_in wsX7_in) := goodIn_app (goodIn_of _ (by decide +kernel)) ggX7_call_X7_in
set_option maxRecDepth 20000 in
theorem ggX7_call_X7_findWorths : GoodIn wsX7_call wsX7_findWorths := goodIn_r _ [13, 14, 1, 15, 16, 17, 18, 23, 24, 25, 26, 27, 28, 29, 30, 31, 32, 33, 34, 35, 36, 37, 38, 39, 40, 41, 42, 43, 44, 45, 46, 47, 48] (by decide +kernel) (by decide +kernel)
set_option maxRecDepth 20000 in
theorem gX7_call_X7_findWorths : GoodIn wsX7_call (wsV RX7 167 RX7 yX7_findWorths wsX7_findWorths) := goodIn_app (goodIn_of _ (by decide +kernel)) ggX7_call_X7_findWorths
set_option maxRecDepth 20000 in
theorem ggX7_call_X7_isCalled : GoodIn wsX7_call wsX7_isCalled := goodIn_r _ [22, 1, 14, 15, 23, 24, 25, 26, 27, 28, 29, 30, 31, 32, 33, 34, 35, 36, 37, 38, 39, 40, 41, 42, 43, 44, 45, 46, 47, 48] (by decide +kernel) (by decide +kernel)
set_option maxRecDepth 20000 in
theorem gX7_call_X7_isCalled : GoodIn wsX7_call (wsV RX7 170 RX7 yX7_isCalled wsX7_isCalled) := goodIn_app (goodIn_of _ (by decide +kernel)) ggX7_call_X7_isCalled
theorem dX7_call_0 : decode cX7_call 0 = .ok (.aload_n 0, 1) := by decide +kernel
theorem dX7_call_1 : decode cX7_call 1 = .ok (.iload_n 1, 1) := by decide +kernel
theorem dX7_call_2 : decode cX7_call 2 = .ok (.invokevirtual 158, 3) := by decide +kernel
theorem dX7_call_5 : decode cX7_call 5 = .ok (.ifCond .eq 23, 3) := by decide +kernel
theorem dX7_call_8 : decode cX7_call 8 = .ok (.iload_n 2, 1) := by decide +kernel
theorem dX7_call_9 : decode cX7_call 9 = .ok (.iconst 0, 1) := by decide +kernel
theorem dX7_call_10 : decode cX7_call 10 = .ok (.bipush 9, 2) := by decide +kernel
theorem dX7_call_12 : decode cX7_call 12 = .ok (.invokestatic 82, 3) := by decide +kernel
theorem dX7_call_15 : decode cX7_call 15 = .ok (.ifCond .eq 13, 3) := by decide +kernel
theorem dX7_call_18 : decode cX7_call 18 = .ok (.iload_n 3, 1) := by decide +kernel
theorem dX7_call_19 : decode cX7_call 19 = .ok (.iconst 0, 1) := by decide +kernel
theorem dX7_call_20 : decode cX7_call 20 = .ok (.bipush 9, 2) := by decide +kernel
theorem dX7_call_22 : decode cX7_call 22 = .ok (.invokestatic 82, 3) := by decide +kernel
theorem dX7_call_25 : decode cX7_call 25 = .ok (.ifCond .ne 5, 3) := by decide +kernel
theorem dX7_call_28 : decode cX7_call 28 = .ok (.iconst (-1), 1) := by decide +kernel
theorem dX7_call_29 : decode cX7_call 29 = .ok (.ireturn, 1) := by decide +kernel
theorem dX7_call_30 : decode cX7_call 30 = .ok (.aload_n 0, 1) := by decide +kernel
theorem dX7_call_31 : decode cX7_call 31 = .ok (.getfield 38, 3) := by decide +kernel
theorem dX7_call_34 : decode cX7_call 34 = .ok (.iload_n 1, 1) := by decide +kernel
theorem dX7_call_35 : decode cX7_call 35 = .ok (.isub, 1) := by decide +kernel
theorem dX7_call_36 : decode cX7_call 36 = .ok (.iload_n 2, 1) := by decide +kernel
theorem dX7_call_37 : decode cX7_call 37 = .ok (.if_icmp .ge 6, 3) := by decide +kernel
theorem dX7_call_40 : decode cX7_call 40 = .ok (.bipush (-4), 2) := by decide +kernel
theorem dX7_call_42 : decode cX7_call 42 = .ok (.ireturn, 1) := by decide +kernel
theorem dX7_call_43 : decode cX7_call 43 = .ok (.aload_n 0, 1) := by decide +kernel
theorem dX7_call_44 : decode cX7_call 44 = .ok (.invokevirtual 167, 3) := by decide +kernel
theorem dX7_call_47 : decode cX7_call 47 = .ok (.aload_n 0, 1) := by decide +kernel
theorem dX7_call_48 : decode cX7_call 48 = .ok (.iload_n 1, 1) := by decide +kernel
theorem dX7_call_49 : decode cX7_call 49 = .ok (.iload_n 2, 1) := by decide +kernel
theorem dX7_call_50 : decode cX7_call 50 = .ok (.iload_n 3, 1) := by decide +kernel
theorem dX7_call_51 : decode cX7_call 51 = .ok (.invokevirtual 170, 3) := by decide +kernel
theorem dX7_call_54 : decode cX7_call 54 = .ok (.ifCond .eq 7, 3) := by decide +kernel
theorem dX7_call_57 : decode cX7_call 57 = .ok (.iconst 1, 1) := by decide +kernel
theorem dX7_call_58 : decode cX7_call 58 = .ok (.goto 4, 3) := by decide +kernel
theorem dX7_call_61 : decode cX7_call 61 = .ok (.iconst 0, 1) := by decide +kernel
theorem dX7_call_62 : decode cX7_call 62 = .ok (.ireturn, 1) := by decide +kernel
set_option maxRecDepth 20000 in
theorem ggX7_run_X7_in : GoodIn wsX7_run wsX7_in := goodIn_r _ [6] (by decide +kernel) (by decide +kernel)
set_option maxRecDepth 20000 in
theorem gX7_run_X7_in : GoodIn wsX7_run (va_wsS RX7 82 yX7_in wsX7_in) := goodIn_app (goodIn_of _ (by decide +kernel)) ggX7_run_X7_in
set_option maxRecDepth 20000 in
theorem ggX7_run_X7_findWorths : GoodIn wsX7_run wsX7_findWorths := goodIn_r _ [10, 11, 1, 12, 13, 14, 15, 20, 21, 22, 23, 24, 25, 26, 27, 28, 29, 30, 31, 32, 33, 34, 35, 36, 37, 38, 39, 40, 41, 42, 43, 44, 45] (by decide +kernel) (by decide +kernel)
set_option maxRecDepth 20000 in
theorem gX7_run_X7_findWorths : GoodIn wsX7_run (wsV RX7 167 RX7 yX7_findWorths wsX7_findWorths) := goodIn_app (goodIn_of _ (by decide +kernel)) ggX7_run_X7_findWorths
set_option maxRecDepth 20000 in
theorem ggX7_run_X7_isCalled : GoodIn wsX7_run wsX7_isCalled := goodIn_r _ [19, 1, 11, 12, 20, 21, 22, 23, 24, 25, 26, 27, 28, 29, 30, 31, 32, 33, 34, 35, 36, 37, 38, 39, 40, 41, 42, 43, 44, 45] (by decide +kernel) (by decide +kernel)
set_option maxRecDepth 20000 in
theorem gX7_run_X7_isCalled : GoodIn wsX7_run (wsV RX7 170 RX7 yX7_isCalled wsX7_isCalled) := goodIn_app (goodIn_of _ (by decide +kernel)) ggX7_run_X7_isCalled
theorem dX7_run_0 : decode cX7_run 0 = .ok (.iload_n 1, 1) := by decide +kernel
theorem dX7_run_1 : decode cX7_run 1 = .ok (.iconst 0, 1) := by decide +kernel
theorem dX7_run_2 : decode cX7_run 2 = .ok (.aload_n 0, 1) := by decide +kernel
theorem dX7_run_3 : decode cX7_run 3 = .ok (.getfield 38, 3) := by decide +kernel
theorem dX7_run_6 : decode cX7_run 6 = .ok (.invokestatic 82, 3) := by decide +kernel
theorem dX7_run_9 : decode cX7_run 9 = .ok (.ifCond .eq 12, 3) := by decide +kernel
theorem dX7_run_12 : decode cX7_run 12 = .ok (.iload_n 2, 1) := by decide +kernel
theorem dX7_run_13 : decode cX7_run 13 = .ok (.iconst 0, 1) := by decide +kernel
theorem dX7_run_14 : decode cX7_run 14 = .ok (.iconst 2, 1) := by decide +kernel
theorem dX7_run_15 : decode cX7_run 15 = .ok (.invokestatic 82, 3) := by decide +kernel
theorem dX7_run_18 : decode cX7_run 18 = .ok (.ifCond .ne 5, 3) := by decide +kernel
theorem dX7_run_21 : decode cX7_run 21 = .ok (.iconst (-1), 1) := by decide +kernel
theorem dX7_run_22 : decode cX7_run 22 = .ok (.ireturn, 1) := by decide +kernel
theorem dX7_run_23 : decode cX7_run 23 = .ok (.aload_n 0, 1) := by decide +kernel
theorem dX7_run_24 : decode cX7_run 24 = .ok (.invokevirtual 167, 3) := by decide +kernel
theorem dX7_run_27 : decode cX7_run 27 = .ok (.iload_n 1, 1) := by decide +kernel
theorem dX7_run_28 : decode cX7_run 28 = .ok (.istore_n 3, 1) := by decide +kernel
theorem dX7_run_29 : decode cX7_run 29 = .ok (.iconst 0, 1) := by decide +kernel
theorem dX7_run_30 : decode cX7_run 30 = .ok (.istore 4, 2) := by decide +kernel
theorem dX7_run_32 : decode cX7_run 32 = .ok (.iconst 0, 1) := by decide +kernel
theorem dX7_run_33 : decode cX7_run 33 = .ok (.istore 5, 2) := by decide +kernel
theorem dX7_run_35 : decode cX7_run 35 = .ok (.iconst 0, 1) := by decide +kernel
theorem dX7_run_36 : decode cX7_run 36 = .ok (.istore 6, 2) := by decide +kernel
theorem dX7_run_38 : decode cX7_run 38 = .ok (.iload 6, 2) := by decide +kernel
theorem dX7_run_40 : decode cX7_run 40 = .ok (.aload_n 0, 1) := by decide +kernel
theorem dX7_run_41 : decode cX7_run 41 = .ok (.getfield 38, 3) := by decide +kernel
theorem dX7_run_44 : decode cX7_run 44 = .ok (.if_icmp .ge 60, 3) := by decide +kernel
theorem dX7_run_47 : decode cX7_run 47 = .ok (.aload_n 0, 1) := by decide +kernel
theorem dX7_run_48 : decode cX7_run 48 = .ok (.getfield 47, 3) := by decide +kernel
theorem dX7_run_51 : decode cX7_run 51 = .ok (.iload 6, 2) := by decide +kernel
theorem dX7_run_53 : decode cX7_run 53 = .ok (.iaload, 1) := by decide +kernel
theorem dX7_run_54 : decode cX7_run 54 = .ok (.ifCond .lt 50, 3) := by decide +kernel
theorem dX7_run_57 : decode cX7_run 57 = .ok (.aload_n 0, 1) := by decide +kernel
theorem dX7_run_58 : decode cX7_run 58 = .ok (.iload 6, 2) := by decide +kernel
theorem dX7_run_60 : decode cX7_run 60 = .ok (.iload_n 3, 1) := by decide +kernel
theorem dX7_run_61 : decode cX7_run 61 = .ok (.aload_n 0, 1) := by decide +kernel
theorem dX7_run_62 : decode cX7_run 62 = .ok (.getfield 47, 3) := by decide +kernel
theorem dX7_run_65 : decode cX7_run 65 = .ok (.iload 6, 2) := by decide +kernel
theorem dX7_run_67 : decode cX7_run 67 = .ok (.iaload, 1) := by decide +kernel
theorem dX7_run_68 : decode cX7_run 68 = .ok (.invokevirtual 170, 3) := by decide +kernel
theorem dX7_run_71 : decode cX7_run 71 = .ok (.ifCond .eq 27, 3) := by decide +kernel
theorem dX7_run_74 : decode cX7_run 74 = .ok (.iload 4, 2) := by decide +kernel
theorem dX7_run_76 : decode cX7_run 76 = .ok (.iconst 1, 1) := by decide +kernel
theorem dX7_run_77 : decode cX7_run 77 = .ok (.iload 6, 2) := by decide +kernel
theorem dX7_run_79 : decode cX7_run 79 = .ok (.ishl, 1) := by decide +kernel
theorem dX7_run_80 : decode cX7_run 80 = .ok (.ior, 1) := by decide +kernel
theorem dX7_run_81 : decode cX7_run 81 = .ok (.istore 4, 2) := by decide +kernel
theorem dX7_run_83 : decode cX7_run 83 = .ok (.iload 5, 2) := by decide +kernel
theorem dX7_run_85 : decode cX7_run 85 = .ok (.aload_n 0, 1) := by decide +kernel
theorem dX7_run_86 : decode cX7_run 86 = .ok (.getfield 47, 3) := by decide +kernel
theorem dX7_run_89 : decode cX7_run 89 = .ok (.iload 6, 2) := by decide +kernel
theorem dX7_run_91 : decode cX7_run 91 = .ok (.iaload, 1) := by decide +kernel
theorem dX7_run_92 : decode cX7_run 92 = .ok (.iadd, 1) := by decide +kernel
theorem dX7_run_93 : decode cX7_run 93 = .ok (.istore 5, 2) := by decide +kernel
theorem dX7_run_95 : decode cX7_run 95 = .ok (.iinc 3 (-1), 3) := by decide +kernel
theorem dX7_run_98 : decode cX7_run 98 = .ok (.iinc 6 1, 3) := by decide +kernel
theorem dX7_run_101 : decode cX7_run 101 = .ok (.goto (-63), 3) := by decide +kernel
theorem dX7_run_104 : decode cX7_run 104 = .ok (.iload_n 2, 1) := by decide +kernel
theorem dX7_run_105 : decode cX7_run 105 = .ok (.ifCond .ne 8, 3) := by decide +kernel
theorem dX7_run_108 : decode cX7_run 108 = .ok (.iload 4, 2) := by decide +kernel
theorem dX7_run_110 : decode cX7_run 110 = .ok (.goto 15, 3) := by decide +kernel
theorem dX7_run_113 : decode cX7_run 113 = .ok (.iload_n 2, 1) := by decide +kernel
theorem dX7_run_114 : decode cX7_run 114 = .ok (.iconst 1, 1) := by decide +kernel
theorem dX7_run_115 : decode cX7_run 115 = .ok (.if_icmp .ne 8, 3) := by decide +kernel
theorem dX7_run_118 : decode cX7_run 118 = .ok (.iload 5, 2) := by decide +kernel
theorem dX7_run_120 : decode cX7_run 120 = .ok (.goto 5, 3) := by decide +kernel
theorem dX7_run_123 : decode cX7_run 123 = .ok (.iload 6, 2) := by decide +kernel
theorem dX7_run_125 : decode cX7_run 125 = .ok (.ireturn, 1) := by decide +kernel
theorem dX7_known_0 : decode cX7_known 0 = .ok (.iconst 0, 1) := by decide +kernel
theorem dX7_known_1 : decode cX7_known 1 = .ok (.istore_n 1, 1) := by decide +kernel
theorem dX7_known_2 : decode cX7_known 2 = .ok (.iconst 0, 1) := by decide +kernel
theorem dX7_known_3 : decode cX7_known 3 = .ok (.istore_n 2, 1) := by decide +kernel
theorem dX7_known_4 : decode cX7_known 4 = .ok (.iload_n 2, 1) := by decide +kernel
theorem dX7_known_5 : decode cX7_known 5 = .ok (.aload_n 0, 1) := by decide +kernel
theorem dX7_known_6 : decode cX7_known 6 = .ok (.getfield 38, 3) := by decide +kernel
theorem dX7_known_9 : decode cX7_known 9 = .ok (.if_icmp .ge 26, 3) := by decide +kernel
theorem dX7_known_12 : decode cX7_known 12 = .ok (.iload_n 1, 1) := by decide +kernel
theorem dX7_known_13 : decode cX7_known 13 = .ok (.aload_n 0, 1) := by decide +kernel
theorem dX7_known_14 : decode cX7_known 14 = .ok (.getfield 47, 3) := by decide +kernel
theorem dX7_known_17 : decode cX7_known 17 = .ok (.iload_n 2, 1) := by decide +kernel
theorem dX7_known_18 : decode cX7_known 18 = .ok (.iaload, 1) := by decide +kernel
theorem dX7_known_19 : decode cX7_known 19 = .ok (.ifCond .lt 7, 3) := by decide +kernel
theorem dX7_known_22 : decode cX7_known 22 = .ok (.iconst 1, 1) := by decide +kernel
theorem dX7_known_23 : decode cX7_known 23 = .ok (.goto 4, 3) := by decide +kernel
theorem dX7_known_26 : decode cX7_known 26 = .ok (.iconst 0, 1) := by decide +kernel
theorem dX7_known_27 : decode cX7_known 27 = .ok (.iadd, 1) := by decide +kernel
theorem dX7_known_28 : decode cX7_known 28 = .ok (.istore_n 1, 1) := by decide +kernel
theorem dX7_known_29 : decode cX7_known 29 = .ok (.iinc 2 1, 3) := by decide +kernel
theorem dX7_known_32 : decode cX7_known 32 = .ok (.goto (-28), 3) := by decide +kernel
theorem dX7_known_35 : decode cX7_known 35 = .ok (.iload_n 1, 1) := by decide +kernel
theorem dX7_known_36 : decode cX7_known 36 = .ok (.ireturn, 1) := by decide +kernel
set_option maxRecDepth 20000 in
theorem ggX7_behind_X7_in : GoodIn wsX7_behind wsX7_in := goodIn_r _ [6] (by decide +kernel) (by decide +kernel)
set_option maxRecDepth 20000 in
theorem gX7_behind_X7_in : GoodIn wsX7_behind (va_wsS RX7 82 yX7_in wsX7_in) := goodIn_app (goodIn_of _ (by decide +kernel)) ggX7_behind_X7_in
set_option maxRecDepth 20000 in
theorem ggX7_behind_X7_known : GoodIn wsX7_behind wsX7_known := goodIn_r _ [10, 1, 2, 11, 12, 13, 14, 15, 16, 17, 18, 19, 20, 21, 22, 23, 24, 25, 26, 27, 28, 29, 30, 31, 32, 33, 34, 35, 36] (by decide +kernel) (by decide +kernel)
set_option maxRecDepth 20000 in
theorem gX7_behind_X7_known : GoodIn wsX7_behind (wsV RX7 173 RX7 yX7_known wsX7_known) := goodIn_app (goodIn_of _ (by decide +kernel)) ggX7_behind_X7_known
theorem dX7_behind_0 : decode cX7_behind 0 = .ok (.iload_n 1, 1) := by decide +kernel
theorem dX7_behind_1 : decode cX7_behind 1 = .ok (.iconst 0, 1) := by decide +kernel
theorem dX7_behind_2 : decode cX7_behind 2 = .ok (.aload_n 0, 1) := by decide +kernel
theorem dX7_behind_3 : decode cX7_behind 3 = .ok (.getfield 38, 3) := by decide +kernel
theorem dX7_behind_6 : decode cX7_behind 6 = .ok (.invokestatic 82, 3) := by decide +kernel
theorem dX7_behind_9 : decode cX7_behind 9 = .ok (.ifCond .ne 5, 3) := by decide +kernel
theorem dX7_behind_12 : decode cX7_behind 12 = .ok (.iconst (-1), 1) := by decide +kernel
theorem dX7_behind_13 : decode cX7_behind 13 = .ok (.ireturn, 1) := by decide +kernel
theorem dX7_behind_14 : decode cX7_behind 14 = .ok (.aload_n 0, 1) := by decide +kernel
theorem dX7_behind_15 : decode cX7_behind 15 = .ok (.invokevirtual 173, 3) := by decide +kernel
theorem dX7_behind_18 : decode cX7_behind 18 = .ok (.aload_n 0, 1) := by decide +kernel
theorem dX7_behind_19 : decode cX7_behind 19 = .ok (.getfield 38, 3) := by decide +kernel
theorem dX7_behind_22 : decode cX7_behind 22 = .ok (.if_icmp .ge 6, 3) := by decide +kernel
theorem dX7_behind_25 : decode cX7_behind 25 = .ok (.bipush (-4), 2) := by decide +kernel
theorem dX7_behind_27 : decode cX7_behind 27 = .ok (.ireturn, 1) := by decide +kernel
theorem dX7_behind_28 : decode cX7_behind 28 = .ok (.iconst 0, 1) := by decide +kernel
theorem dX7_behind_29 : decode cX7_behind 29 = .ok (.istore_n 2, 1) := by decide +kernel
theorem dX7_behind_30 : decode cX7_behind 30 = .ok (.iload_n 1, 1) := by decide +kernel
theorem dX7_behind_31 : decode cX7_behind 31 = .ok (.istore_n 3, 1) := by decide +kernel
theorem dX7_behind_32 : decode cX7_behind 32 = .ok (.bipush 9, 2) := by decide +kernel
theorem dX7_behind_34 : decode cX7_behind 34 = .ok (.istore 4, 2) := by decide +kernel
theorem dX7_behind_36 : decode cX7_behind 36 = .ok (.iload 4, 2) := by decide +kernel
theorem dX7_behind_38 : decode cX7_behind 38 = .ok (.ifCond .le 51, 3) := by decide +kernel
theorem dX7_behind_41 : decode cX7_behind 41 = .ok (.iconst 0, 1) := by decide +kernel
theorem dX7_behind_42 : decode cX7_behind 42 = .ok (.istore 5, 2) := by decide +kernel
theorem dX7_behind_44 : decode cX7_behind 44 = .ok (.iload 5, 2) := by decide +kernel
theorem dX7_behind_46 : decode cX7_behind 46 = .ok (.aload_n 0, 1) := by decide +kernel
theorem dX7_behind_47 : decode cX7_behind 47 = .ok (.getfield 38, 3) := by decide +kernel
theorem dX7_behind_50 : decode cX7_behind 50 = .ok (.if_icmp .ge 33, 3) := by decide +kernel
theorem dX7_behind_53 : decode cX7_behind 53 = .ok (.aload_n 0, 1) := by decide +kernel
theorem dX7_behind_54 : decode cX7_behind 54 = .ok (.getfield 47, 3) := by decide +kernel
theorem dX7_behind_57 : decode cX7_behind 57 = .ok (.iload 5, 2) := by decide +kernel
theorem dX7_behind_59 : decode cX7_behind 59 = .ok (.iaload, 1) := by decide +kernel
theorem dX7_behind_60 : decode cX7_behind 60 = .ok (.iload 4, 2) := by decide +kernel
theorem dX7_behind_62 : decode cX7_behind 62 = .ok (.if_icmp .ne 15, 3) := by decide +kernel
theorem dX7_behind_65 : decode cX7_behind 65 = .ok (.iload_n 3, 1) := by decide +kernel
theorem dX7_behind_66 : decode cX7_behind 66 = .ok (.ifCond .le 11, 3) := by decide +kernel
theorem dX7_behind_69 : decode cX7_behind 69 = .ok (.iload_n 2, 1) := by decide +kernel
theorem dX7_behind_70 : decode cX7_behind 70 = .ok (.iload 4, 2) := by decide +kernel
theorem dX7_behind_72 : decode cX7_behind 72 = .ok (.iadd, 1) := by decide +kernel
theorem dX7_behind_73 : decode cX7_behind 73 = .ok (.istore_n 2, 1) := by decide +kernel
theorem dX7_behind_74 : decode cX7_behind 74 = .ok (.iinc 3 (-1), 3) := by decide +kernel
theorem dX7_behind_77 : decode cX7_behind 77 = .ok (.iinc 5 1, 3) := by decide +kernel
theorem dX7_behind_80 : decode cX7_behind 80 = .ok (.goto (-36), 3) := by decide +kernel
theorem dX7_behind_83 : decode cX7_behind 83 = .ok (.iinc 4 (-1), 3) := by decide +kernel
theorem dX7_behind_86 : decode cX7_behind 86 = .ok (.goto (-50), 3) := by decide +kernel
theorem dX7_behind_89 : decode cX7_behind 89 = .ok (.iload_n 2, 1) := by decide +kernel
theorem dX7_behind_90 : decode cX7_behind 90 = .ok (.ireturn, 1) := by decide +kernel
set_option maxRecDepth 20000 in
theorem ggX7_many_X7_known : GoodIn wsX7_many wsX7_known := goodIn_r _ [11, 5, 12, 13, 14, 15, 16, 17, 18, 19, 20, 21, 22, 23, 24, 25, 26, 27, 28, 29, 30, 31, 32, 33, 34, 35, 36, 37, 38] (by decide +kernel) (by decide +kernel)
set_option maxRecDepth 20000 in
theorem gX7_many_X7_known : GoodIn wsX7_many (wsV RX7 173 RX7 yX7_known wsX7_known) := goodIn_app (goodIn_of _ (by decide +kernel)) ggX7_many_X7_known
theorem dX7_many_0 : decode cX7_many 0 = .ok (.iload_n 1, 1) := by decide +kernel
theorem dX7_many_1 : decode cX7_many 1 = .ok (.tableswitch 101 0 6 #[43, 48, 53, 58, 63, 68, 73], 43) := by decide +kernel
theorem dX7_many_44 : decode cX7_many 44 = .ok (.aload_n 0, 1) := by decide +kernel
theorem dX7_many_45 : decode cX7_many 45 = .ok (.getfield 7, 3) := by decide +kernel
theorem dX7_many_48 : decode cX7_many 48 = .ok (.ireturn, 1) := by decide +kernel
theorem dX7_many_49 : decode cX7_many 49 = .ok (.aload_n 0, 1) := by decide +kernel
theorem dX7_many_50 : decode cX7_many 50 = .ok (.getfield 86, 3) := by decide +kernel
theorem dX7_many_53 : decode cX7_many 53 = .ok (.ireturn, 1) := by decide +kernel
theorem dX7_many_54 : decode cX7_many 54 = .ok (.aload_n 0, 1) := by decide +kernel
theorem dX7_many_55 : decode cX7_many 55 = .ok (.getfield 23, 3) := by decide +kernel
theorem dX7_many_58 : decode cX7_many 58 = .ok (.ireturn, 1) := by decide +kernel
theorem dX7_many_59 : decode cX7_many 59 = .ok (.aload_n 0, 1) := by decide +kernel
theorem dX7_many_60 : decode cX7_many 60 = .ok (.getfield 145, 3) := by decide +kernel
theorem dX7_many_63 : decode cX7_many 63 = .ok (.ireturn, 1) := by decide +kernel
theorem dX7_many_64 : decode cX7_many 64 = .ok (.aload_n 0, 1) := by decide +kernel
theorem dX7_many_65 : decode cX7_many 65 = .ok (.getfield 38, 3) := by decide +kernel
theorem dX7_many_68 : decode cX7_many 68 = .ok (.ireturn, 1) := by decide +kernel
theorem dX7_many_69 : decode cX7_many 69 = .ok (.aload_n 0, 1) := by decide +kernel
theorem dX7_many_70 : decode cX7_many 70 = .ok (.invokevirtual 173, 3) := by decide +kernel
theorem dX7_many_73 : decode cX7_many 73 = .ok (.ireturn, 1) := by decide +kernel
theorem dX7_many_74 : decode cX7_many 74 = .ok (.aload_n 0, 1) := by decide +kernel
theorem dX7_many_75 : decode cX7_many 75 = .ok (.getfield 29, 3) := by decide +kernel
theorem dX7_many_78 : decode cX7_many 78 = .ok (.iconst 0, 1) := by decide +kernel
theorem dX7_many_79 : decode cX7_many 79 = .ok (.iaload, 1) := by decide +kernel
theorem dX7_many_80 : decode cX7_many 80 = .ok (.aload_n 0, 1) := by decide +kernel
theorem dX7_many_81 : decode cX7_many 81 = .ok (.getfield 29, 3) := by decide +kernel
theorem dX7_many_84 : decode cX7_many 84 = .ok (.iconst 1, 1) := by decide +kernel
theorem dX7_many_85 : decode cX7_many 85 = .ok (.iaload, 1) := by decide +kernel
theorem dX7_many_86 : decode cX7_many 86 = .ok (.iadd, 1) := by decide +kernel
theorem dX7_many_87 : decode cX7_many 87 = .ok (.aload_n 0, 1) := by decide +kernel
theorem dX7_many_88 : decode cX7_many 88 = .ok (.getfield 29, 3) := by decide +kernel
theorem dX7_many_91 : decode cX7_many 91 = .ok (.iconst 2, 1) := by decide +kernel
theorem dX7_many_92 : decode cX7_many 92 = .ok (.iaload, 1) := by decide +kernel
theorem dX7_many_93 : decode cX7_many 93 = .ok (.iadd, 1) := by decide +kernel
theorem dX7_many_94 : decode cX7_many 94 = .ok (.aload_n 0, 1) := by decide +kernel
theorem dX7_many_95 : decode cX7_many 95 = .ok (.getfield 29, 3) := by decide +kernel
theorem dX7_many_98 : decode cX7_many 98 = .ok (.iconst 3, 1) := by decide +kernel
theorem dX7_many_99 : decode cX7_many 99 = .ok (.iaload, 1) := by decide +kernel
theorem dX7_many_100 : decode cX7_many 100 = .ok (.iadd, 1) := by decide +kernel
theorem dX7_many_101 : decode cX7_many 101 = .ok (.ireturn, 1) := by decide +kernel
theorem dX7_many_102 : decode cX7_many 102 = .ok (.iconst (-1), 1) := by decide +kernel
theorem dX7_many_103 : decode cX7_many 103 = .ok (.ireturn, 1) := by decide +kernel
theorem dJ9_max_7cf53_0 : decode cJ9_max_7cf53 0 = .ok (.iload_n 0, 1) := by decide +kernel
theorem dJ9_max_7cf53_1 : decode cJ9_max_7cf53 1 = .ok (.iload_n 1, 1) := by decide +kernel
theorem dJ9_max_7cf53_2 : decode cJ9_max_7cf53 2 = .ok (.if_icmp .lt 7, 3) := by decide +kernel
theorem dJ9_max_7cf53_5 : decode cJ9_max_7cf53 5 = .ok (.iload_n 0, 1) := by decide +kernel
theorem dJ9_max_7cf53_6 : decode cJ9_max_7cf53 6 = .ok (.goto 4, 3) := by decide +kernel
theorem dJ9_max_7cf53_9 : decode cJ9_max_7cf53 9 = .ok (.iload_n 1, 1) := by decide +kernel
theorem dJ9_max_7cf53_10 : decode cJ9_max_7cf53 10 = .ok (.ireturn, 1) := by decide +kernel
theorem dJ9_min_7cf53_0 : decode cJ9_min_7cf53 0 = .ok (.iload_n 0, 1) := by decide +kernel
theorem dJ9_min_7cf53_1 : decode cJ9_min_7cf53 1 = .ok (.iload_n 1, 1) := by decide +kernel
