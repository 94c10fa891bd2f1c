theorem dX0_init_0 : decode cX0_init 0 = .ok (.aload_n 0, 1) := by decide +kernel
theorem dX0_init_1 : decode cX0_init 1 = .ok (.invokespecial 3, 3) := by decide +kernel
theorem dX0_init_4 : decode cX0_init 4 = .ok (.aload_n 0, 1) := by decide +kernel
theorem dX0_init_5 : decode cX0_init 5 = .ok (.iconst 4, 1) := by decide +kernel
theorem dX0_init_6 : decode cX0_init 6 = .ok (.newarray .int, 2) := by decide +kernel
theorem dX0_init_8 : decode cX0_init 8 = .ok (.putfield 9, 3) := by decide +kernel
theorem dX0_init_11 : decode cX0_init 11 = .ok (.aload_n 0, 1) := by decide +kernel
theorem dX0_init_12 : decode cX0_init 12 = .ok (.iconst 4, 1) := by decide +kernel
theorem dX0_init_13 : decode cX0_init 13 = .ok (.newarray .int, 2) := by decide +kernel
theorem dX0_init_15 : decode cX0_init 15 = .ok (.putfield 15, 3) := by decide +kernel
theorem dX0_init_18 : decode cX0_init 18 = .ok (.aload_n 0, 1) := by decide +kernel
theorem dX0_init_19 : decode cX0_init 19 = .ok (.iconst 4, 1) := by decide +kernel
theorem dX0_init_20 : decode cX0_init 20 = .ok (.newarray .int, 2) := by decide +kernel
theorem dX0_init_22 : decode cX0_init 22 = .ok (.putfield 18, 3) := by decide +kernel
theorem dX0_init_25 : decode cX0_init 25 = .ok (.return_, 1) := by decide +kernel
theorem dX0_begin_0 : decode cX0_begin 0 = .ok (.aload_n 0, 1) := by decide +kernel
theorem dX0_begin_1 : decode cX0_begin 1 = .ok (.iload_n 1, 1) := by decide +kernel
theorem dX0_begin_2 : decode cX0_begin 2 = .ok (.putfield 21, 3) := by decide +kernel
theorem dX0_begin_5 : decode cX0_begin 5 = .ok (.iconst 0, 1) := by decide +kernel
theorem dX0_begin_6 : decode cX0_begin 6 = .ok (.istore_n 2, 1) := by decide +kernel
theorem dX0_begin_7 : decode cX0_begin 7 = .ok (.iload_n 2, 1) := by decide +kernel
theorem dX0_begin_8 : decode cX0_begin 8 = .ok (.iconst 4, 1) := by decide +kernel
theorem dX0_begin_9 : decode cX0_begin 9 = .ok (.if_icmp .ge 16, 3) := by decide +kernel
theorem dX0_begin_12 : decode cX0_begin 12 = .ok (.aload_n 0, 1) := by decide +kernel
theorem dX0_begin_13 : decode cX0_begin 13 = .ok (.getfield 18, 3) := by decide +kernel
theorem dX0_begin_16 : decode cX0_begin 16 = .ok (.iload_n 2, 1) := by decide +kernel
theorem dX0_begin_17 : decode cX0_begin 17 = .ok (.iconst 0, 1) := by decide +kernel
theorem dX0_begin_18 : decode cX0_begin 18 = .ok (.iastore, 1) := by decide +kernel
theorem dX0_begin_19 : decode cX0_begin 19 = .ok (.iinc 2 1, 3) := by decide +kernel
theorem dX0_begin_22 : decode cX0_begin 22 = .ok (.goto (-15), 3) := by decide +kernel
theorem dX0_begin_25 : decode cX0_begin 25 = .ok (.return_, 1) := by decide +kernel
set_option maxRecDepth 20000 in
theorem ggX0_clearScores_X0_setScores : GoodIn wsX0_clearScores wsX0_setScores := goodIn_r _ [5, 6, 7, 8, 9, 10, 11] (by decide +kernel) (by decide +kernel)
set_option maxRecDepth 20000 in
theorem gX0_clearScores_X0_setScores : GoodIn wsX0_clearScores (wsV RX0 25 RX0 yX0_setScores wsX0_setScores) := goodIn_app (goodIn_of _ (by decide +kernel)) ggX0_clearScores_X0_setScores
theorem dX0_clearScores_0 : decode cX0_clearScores 0 = .ok (.iconst 0, 1) := by decide +kernel
theorem dX0_clearScores_1 : decode cX0_clearScores 1 = .ok (.istore_n 1, 1) := by decide +kernel
theorem dX0_clearScores_2 : decode cX0_clearScores 2 = .ok (.iload_n 1, 1) := by decide +kernel
theorem dX0_clearScores_3 : decode cX0_clearScores 3 = .ok (.iconst 4, 1) := by decide +kernel
theorem dX0_clearScores_4 : decode cX0_clearScores 4 = .ok (.if_icmp .ge 16, 3) := by decide +kernel
theorem dX0_clearScores_7 : decode cX0_clearScores 7 = .ok (.aload_n 0, 1) := by decide +kernel
theorem dX0_clearScores_8 : decode cX0_clearScores 8 = .ok (.iload_n 1, 1) := by decide +kernel
theorem dX0_clearScores_9 : decode cX0_clearScores 9 = .ok (.iconst 0, 1) := by decide +kernel
theorem dX0_clearScores_10 : decode cX0_clearScores 10 = .ok (.iconst 0, 1) := by decide +kernel
theorem dX0_clearScores_11 : decode cX0_clearScores 11 = .ok (.invokevirtual 25, 3) := by decide +kernel
theorem dX0_clearScores_14 : decode cX0_clearScores 14 = .ok (.iinc 1 1, 3) := by decide +kernel
theorem dX0_clearScores_17 : decode cX0_clearScores 17 = .ok (.goto (-15), 3) := by decide +kernel
theorem dX0_clearScores_20 : decode cX0_clearScores 20 = .ok (.return_, 1) := by decide +kernel
theorem dX0_setScores_0 : decode cX0_setScores 0 = .ok (.aload_n 0, 1) := by decide +kernel
theorem dX0_setScores_1 : decode cX0_setScores 1 = .ok (.getfield 9, 3) := by decide +kernel
theorem dX0_setScores_4 : decode cX0_setScores 4 = .ok (.iload_n 1, 1) := by decide +kernel
theorem dX0_setScores_5 : decode cX0_setScores 5 = .ok (.iload_n 2, 1) := by decide +kernel
theorem dX0_setScores_6 : decode cX0_setScores 6 = .ok (.iastore, 1) := by decide +kernel
theorem dX0_setScores_7 : decode cX0_setScores 7 = .ok (.aload_n 0, 1) := by decide +kernel
theorem dX0_setScores_8 : decode cX0_setScores 8 = .ok (.getfield 15, 3) := by decide +kernel
theorem dX0_setScores_11 : decode cX0_setScores 11 = .ok (.iload_n 1, 1) := by decide +kernel
theorem dX0_setScores_12 : decode cX0_setScores 12 = .ok (.iload_n 3, 1) := by decide +kernel
theorem dX0_setScores_13 : decode cX0_setScores 13 = .ok (.iastore, 1) := by decide +kernel
theorem dX0_setScores_14 : decode cX0_setScores 14 = .ok (.return_, 1) := by decide +kernel
set_option maxRecDepth 20000 in
theorem ggX0_addScore_X0_setScores : GoodIn wsX0_addScore wsX0_setScores := goodIn_r _ [7, 1, 2, 8, 9, 10, 11] (by decide +kernel) (by decide +kernel)
set_option maxRecDepth 20000 in
theorem gX0_addScore_X0_setScores : GoodIn wsX0_addScore (wsV RX0 25 RX0 yX0_setScores wsX0_setScores) := goodIn_app (goodIn_of _ (by decide +kernel)) ggX0_addScore_X0_setScores
theorem dX0_addScore_0 : decode cX0_addScore 0 = .ok (.iload_n 2, 1) := by decide +kernel
theorem dX0_addScore_1 : decode cX0_addScore 1 = .ok (.aload_n 0, 1) := by decide +kernel
theorem dX0_addScore_2 : decode cX0_addScore 2 = .ok (.getfield 9, 3) := by decide +kernel
theorem dX0_addScore_5 : decode cX0_addScore 5 = .ok (.iload_n 1, 1) := by decide +kernel
theorem dX0_addScore_6 : decode cX0_addScore 6 = .ok (.iaload, 1) := by decide +kernel
theorem dX0_addScore_7 : decode cX0_addScore 7 = .ok (.if_icmp .le 18, 3) := by decide +kernel
theorem dX0_addScore_10 : decode cX0_addScore 10 = .ok (.aload_n 0, 1) := by decide +kernel
theorem dX0_addScore_11 : decode cX0_addScore 11 = .ok (.iload_n 1, 1) := by decide +kernel
theorem dX0_addScore_12 : decode cX0_addScore 12 = .ok (.iload_n 2, 1) := by decide +kernel
theorem dX0_addScore_13 : decode cX0_addScore 13 = .ok (.aload_n 0, 1) := by decide +kernel
theorem dX0_addScore_14 : decode cX0_addScore 14 = .ok (.getfield 9, 3) := by decide +kernel
theorem dX0_addScore_17 : decode cX0_addScore 17 = .ok (.iload_n 1, 1) := by decide +kernel
theorem dX0_addScore_18 : decode cX0_addScore 18 = .ok (.iaload, 1) := by decide +kernel
theorem dX0_addScore_19 : decode cX0_addScore 19 = .ok (.invokevirtual 25, 3) := by decide +kernel
theorem dX0_addScore_22 : decode cX0_addScore 22 = .ok (.goto 20, 3) := by decide +kernel
theorem dX0_addScore_25 : decode cX0_addScore 25 = .ok (.iload_n 2, 1) := by decide +kernel
theorem dX0_addScore_26 : decode cX0_addScore 26 = .ok (.aload_n 0, 1) := by decide +kernel
theorem dX0_addScore_27 : decode cX0_addScore 27 = .ok (.getfield 15, 3) := by decide +kernel
theorem dX0_addScore_30 : decode cX0_addScore 30 = .ok (.iload_n 1, 1) := by decide +kernel
theorem dX0_addScore_31 : decode cX0_addScore 31 = .ok (.iaload, 1) := by decide +kernel
theorem dX0_addScore_32 : decode cX0_addScore 32 = .ok (.if_icmp .le 10, 3) := by decide +kernel
theorem dX0_addScore_35 : decode cX0_addScore 35 = .ok (.aload_n 0, 1) := by decide +kernel
theorem dX0_addScore_36 : decode cX0_addScore 36 = .ok (.getfield 15, 3) := by decide +kernel
theorem dX0_addScore_39 : decode cX0_addScore 39 = .ok (.iload_n 1, 1) := by decide +kernel
theorem dX0_addScore_40 : decode cX0_addScore 40 = .ok (.iload_n 2, 1) := by decide +kernel
theorem dX0_addScore_41 : decode cX0_addScore 41 = .ok (.iastore, 1) := by decide +kernel
theorem dX0_addScore_42 : decode cX0_addScore 42 = .ok (.return_, 1) := by decide +kernel
theorem dX0_total_0 : decode cX0_total 0 = .ok (.aload_n 0, 1) := by decide +kernel
theorem dX0_total_1 : decode cX0_total 1 = .ok (.getfield 18, 3) := by decide +kernel
theorem dX0_total_4 : decode cX0_total 4 = .ok (.iload_n 1, 1) := by decide +kernel
theorem dX0_total_5 : decode cX0_total 5 = .ok (.iaload, 1) := by decide +kernel
theorem dX0_total_6 : decode cX0_total 6 = .ok (.ifCond .ne 17, 3) := by decide +kernel
theorem dX0_total_9 : decode cX0_total 9 = .ok (.aload_n 0, 1) := by decide +kernel
theorem dX0_total_10 : decode cX0_total 10 = .ok (.getfield 9, 3) := by decide +kernel
theorem dX0_total_13 : decode cX0_total 13 = .ok (.iload_n 1, 1) := by decide +kernel
theorem dX0_total_14 : decode cX0_total 14 = .ok (.iaload, 1) := by decide +kernel
theorem dX0_total_15 : decode cX0_total 15 = .ok (.aload_n 0, 1) := by decide +kernel
theorem dX0_total_16 : decode cX0_total 16 = .ok (.getfield 15, 3) := by decide +kernel
theorem dX0_total_19 : decode cX0_total 19 = .ok (.iload_n 1, 1) := by decide +kernel
theorem dX0_total_20 : decode cX0_total 20 = .ok (.iaload, 1) := by decide +kernel
theorem dX0_total_21 : decode cX0_total 21 = .ok (.iadd, 1) := by decide +kernel
theorem dX0_total_22 : decode cX0_total 22 = .ok (.ireturn, 1) := by decide +kernel
theorem dX0_total_23 : decode cX0_total 23 = .ok (.aload_n 0, 1) := by decide +kernel
theorem dX0_total_24 : decode cX0_total 24 = .ok (.getfield 18, 3) := by decide +kernel
theorem dX0_total_27 : decode cX0_total 27 = .ok (.iload_n 1, 1) := by decide +kernel
theorem dX0_total_28 : decode cX0_total 28 = .ok (.iaload, 1) := by decide +kernel
theorem dX0_total_29 : decode cX0_total 29 = .ok (.iconst 1, 1) := by decide +kernel
theorem dX0_total_30 : decode cX0_total 30 = .ok (.if_icmp .ne 19, 3) := by decide +kernel
theorem dX0_total_33 : decode cX0_total 33 = .ok (.aload_n 0, 1) := by decide +kernel
theorem dX0_total_34 : decode cX0_total 34 = .ok (.getfield 9, 3) := by decide +kernel
theorem dX0_total_37 : decode cX0_total 37 = .ok (.iload_n 1, 1) := by decide +kernel
theorem dX0_total_38 : decode cX0_total 38 = .ok (.iaload, 1) := by decide +kernel
theorem dX0_total_39 : decode cX0_total 39 = .ok (.aload_n 0, 1) := by decide +kernel
theorem dX0_total_40 : decode cX0_total 40 = .ok (.getfield 15, 3) := by decide +kernel
theorem dX0_total_43 : decode cX0_total 43 = .ok (.iload_n 1, 1) := by decide +kernel
theorem dX0_total_44 : decode cX0_total 44 = .ok (.iaload, 1) := by decide +kernel
theorem dX0_total_45 : decode cX0_total 45 = .ok (.iconst 2, 1) := by decide +kernel
theorem dX0_total_46 : decode cX0_total 46 = .ok (.idiv, 1) := by decide +kernel
theorem dX0_total_47 : decode cX0_total 47 = .ok (.iadd, 1) := by decide +kernel
theorem dX0_total_48 : decode cX0_total 48 = .ok (.ireturn, 1) := by decide +kernel
theorem dX0_total_49 : decode cX0_total 49 = .ok (.aload_n 0, 1) := by decide +kernel
theorem dX0_total_50 : decode cX0_total 50 = .ok (.getfield 9, 3) := by decide +kernel
theorem dX0_total_53 : decode cX0_total 53 = .ok (.iload_n 1, 1) := by decide +kernel
theorem dX0_total_54 : decode cX0_total 54 = .ok (.iaload, 1) := by decide +kernel
theorem dX0_total_55 : decode cX0_total 55 = .ok (.iconst 2, 1) := by decide +kernel
theorem dX0_total_56 : decode cX0_total 56 = .ok (.idiv, 1) := by decide +kernel
theorem dX0_total_57 : decode cX0_total 57 = .ok (.ireturn, 1) := by decide +kernel
set_option maxRecDepth 20000 in
theorem ggX0_placeOf_X0_isBetter : GoodIn wsX0_placeOf wsX0_isBetter := goodIn_r _ [6, 7, 8, 9, 10, 5, 11, 12, 13, 14, 15, 16, 17] (by decide +kernel) (by decide +kernel)
set_option maxRecDepth 20000 in
theorem gX0_placeOf_X0_isBetter : GoodIn wsX0_placeOf (wsV RX0 29 RX0 yX0_isBetter wsX0_isBetter) := goodIn_app (goodIn_of _ (by decide +kernel)) ggX0_placeOf_X0_isBetter
theorem dX0_placeOf_0 : decode cX0_placeOf 0 = .ok (.iconst 0, 1) := by decide +kernel
theorem dX0_placeOf_1 : decode cX0_placeOf 1 = .ok (.istore_n 2, 1) := by decide +kernel
theorem dX0_placeOf_2 : decode cX0_placeOf 2 = .ok (.iconst 0, 1) := by decide +kernel
theorem dX0_placeOf_3 : decode cX0_placeOf 3 = .ok (.istore_n 3, 1) := by decide +kernel
theorem dX0_placeOf_4 : decode cX0_placeOf 4 = .ok (.iload_n 3, 1) := by decide +kernel
theorem dX0_placeOf_5 : decode cX0_placeOf 5 = .ok (.aload_n 0, 1) := by decide +kernel
theorem dX0_placeOf_6 : decode cX0_placeOf 6 = .ok (.getfield 21, 3) := by decide +kernel
theorem dX0_placeOf_9 : decode cX0_placeOf 9 = .ok (.if_icmp .ge 21, 3) := by decide +kernel
theorem dX0_placeOf_12 : decode cX0_placeOf 12 = .ok (.aload_n 0, 1) := by decide +kernel
theorem dX0_placeOf_13 : decode cX0_placeOf 13 = .ok (.iload_n 3, 1) := by decide +kernel
theorem dX0_placeOf_14 : decode cX0_placeOf 14 = .ok (.iload_n 1, 1) := by decide +kernel
theorem dX0_placeOf_15 : decode cX0_placeOf 15 = .ok (.invokevirtual 29, 3) := by decide +kernel
theorem dX0_placeOf_18 : decode cX0_placeOf 18 = .ok (.ifCond .eq 6, 3) := by decide +kernel
theorem dX0_placeOf_21 : decode cX0_placeOf 21 = .ok (.iinc 2 1, 3) := by decide +kernel
theorem dX0_placeOf_24 : decode cX0_placeOf 24 = .ok (.iinc 3 1, 3) := by decide +kernel
theorem dX0_placeOf_27 : decode cX0_placeOf 27 = .ok (.goto (-23), 3) := by decide +kernel
theorem dX0_placeOf_30 : decode cX0_placeOf 30 = .ok (.iload_n 2, 1) := by decide +kernel
theorem dX0_placeOf_31 : decode cX0_placeOf 31 = .ok (.ireturn, 1) := by decide +kernel
theorem dX0_allFaults_0 : decode cX0_allFaults 0 = .ok (.iconst 0, 1) := by decide +kernel
theorem dX0_allFaults_1 : decode cX0_allFaults 1 = .ok (.istore_n 1, 1) := by decide +kernel
theorem dX0_allFaults_2 : decode cX0_allFaults 2 = .ok (.iconst 0, 1) := by decide +kernel
theorem dX0_allFaults_3 : decode cX0_allFaults 3 = .ok (.istore_n 2, 1) := by decide +kernel
theorem dX0_allFaults_4 : decode cX0_allFaults 4 = .ok (.iload_n 2, 1) := by decide +kernel
theorem dX0_allFaults_5 : decode cX0_allFaults 5 = .ok (.aload_n 0, 1) := by decide +kernel
theorem dX0_allFaults_6 : decode cX0_allFaults 6 = .ok (.getfield 21, 3) := by decide +kernel
theorem dX0_allFaults_9 : decode cX0_allFaults 9 = .ok (.if_icmp .ge 18, 3) := by decide +kernel
theorem dX0_allFaults_12 : decode cX0_allFaults 12 = .ok (.iload_n 1, 1) := by decide +kernel
theorem dX0_allFaults_13 : decode cX0_allFaults 13 = .ok (.aload_n 0, 1) := by decide +kernel
theorem dX0_allFaults_14 : decode cX0_allFaults 14 = .ok (.getfield 18, 3) := by decide +kernel
theorem dX0_allFaults_17 : decode cX0_allFaults 17 = .ok (.iload_n 2, 1) := by decide +kernel
theorem dX0_allFaults_18 : decode cX0_allFaults 18 = .ok (.iaload, 1) := by decide +kernel
theorem dX0_allFaults_19 : decode cX0_allFaults 19 = .ok (.iadd, 1) := by decide +kernel
theorem dX0_allFaults_20 : decode cX0_allFaults 20 = .ok (.istore_n 1, 1) := by decide +kernel
theorem dX0_allFaults_21 : decode cX0_allFaults 21 = .ok (.iinc 2 1, 3) := by decide +kernel
theorem dX0_allFaults_24 : decode cX0_allFaults 24 = .ok (.goto (-20), 3) := by decide +kernel
theorem dX0_allFaults_27 : decode cX0_allFaults 27 = .ok (.iload_n 1, 1) := by decide +kernel
theorem dX0_allFaults_28 : decode cX0_allFaults 28 = .ok (.ireturn, 1) := by decide +kernel
set_option maxRecDepth 20000 in
theorem ggX0_isBetter_X0_total : GoodIn wsX0_isBetter wsX0_total := goodIn_r _ [6, 7, 1, 8, 9, 10, 11, 12] (by decide +kernel) (by decide +kernel)
set_option maxRecDepth 20000 in
theorem gX0_isBetter_X0_total : GoodIn wsX0_isBetter (wsV RX0 33 RX0 yX0_total wsX0_total) := goodIn_app (goodIn_of _ (by decide +kernel)) ggX0_isBetter_X0_total
theorem dX0_isBetter_0 : decode cX0_isBetter 0 = .ok (.aload_n 0, 1) := by decide +kernel
theorem dX0_isBetter_1 : decode cX0_isBetter 1 = .ok (.iload_n 1, 1) := by decide +kernel
theorem dX0_isBetter_2 : decode cX0_isBetter 2 = .ok (.invokevirtual 33, 3) := by decide +kernel
theorem dX0_isBetter_5 : decode cX0_isBetter 5 = .ok (.istore_n 3, 1) := by decide +kernel
theorem dX0_isBetter_6 : decode cX0_isBetter 6 = .ok (.aload_n 0, 1) := by decide +kernel
theorem dX0_isBetter_7 : decode cX0_isBetter 7 = .ok (.iload_n 2, 1) := by decide +kernel
theorem dX0_isBetter_8 : decode cX0_isBetter 8 = .ok (.invokevirtual 33, 3) := by decide +kernel
theorem dX0_isBetter_11 : decode cX0_isBetter 11 = .ok (.istore 4, 2) := by decide +kernel
theorem dX0_isBetter_13 : decode cX0_isBetter 13 = .ok (.iload_n 3, 1) := by decide +kernel
theorem dX0_isBetter_14 : decode cX0_isBetter 14 = .ok (.iload 4, 2) := by decide +kernel
theorem dX0_isBetter_16 : decode cX0_isBetter 16 = .ok (.if_icmp .eq 15, 3) := by decide +kernel
theorem dX0_isBetter_19 : decode cX0_isBetter 19 = .ok (.iload_n 3, 1) := by decide +kernel
theorem dX0_isBetter_20 : decode cX0_isBetter 20 = .ok (.iload 4, 2) := by decide +kernel
theorem dX0_isBetter_22 : decode cX0_isBetter 22 = .ok (.if_icmp .le 7, 3) := by decide +kernel
theorem dX0_isBetter_25 : decode cX0_isBetter 25 = .ok (.iconst 1, 1) := by decide +kernel
theorem dX0_isBetter_26 : decode cX0_isBetter 26 = .ok (.goto 4, 3) := by decide +kernel
theorem dX0_isBetter_29 : decode cX0_isBetter 29 = .ok (.iconst 0, 1) := by decide +kernel
theorem dX0_isBetter_30 : decode cX0_isBetter 30 = .ok (.ireturn, 1) := by decide +kernel
theorem dX0_isBetter_31 : decode cX0_isBetter 31 = .ok (.aload_n 0, 1) := by decide +kernel
theorem dX0_isBetter_32 : decode cX0_isBetter 32 = .ok (.getfield 9, 3) := by decide +kernel
theorem dX0_isBetter_35 : decode cX0_isBetter 35 = .ok (.iload_n 1, 1) := by decide +kernel
theorem dX0_isBetter_36 : decode cX0_isBetter 36 = .ok (.iaload, 1) := by decide +kernel
theorem dX0_isBetter_37 : decode cX0_isBetter 37 = .ok (.aload_n 0, 1) := by decide +kernel
theorem dX0_isBetter_38 : decode cX0_isBetter 38 = .ok (.getfield 9, 3) := by decide +kernel
theorem dX0_isBetter_41 : decode cX0_isBetter 41 = .ok (.iload_n 2, 1) := by decide +kernel
theorem dX0_isBetter_42 : decode cX0_isBetter 42 = .ok (.iaload, 1) := by decide +kernel
theorem dX0_isBetter_43 : decode cX0_isBetter 43 = .ok (.if_icmp .eq 24, 3) := by decide +kernel
theorem dX0_isBetter_46 : decode cX0_isBetter 46 = .ok (.aload_n 0, 1) := by decide +kernel
theorem dX0_isBetter_47 : decode cX0_isBetter 47 = .ok (.getfield 9, 3) := by decide +kernel
theorem dX0_isBetter_50 : decode cX0_isBetter 50 = .ok (.iload_n 1, 1) := by decide +kernel
theorem dX0_isBetter_51 : decode cX0_isBetter 51 = .ok (.iaload, 1) := by decide +kernel
theorem dX0_isBetter_52 : decode cX0_isBetter 52 = .ok (.aload_n 0, 1) := by decide +kernel
theorem dX0_isBetter_53 : decode cX0_isBetter 53 = .ok (.getfield 9, 3) := by decide +kernel
theorem dX0_isBetter_56 : decode cX0_isBetter 56 = .ok (.iload_n 2, 1) := by decide +kernel
theorem dX0_isBetter_57 : decode cX0_isBetter 57 = .ok (.iaload, 1) := by decide +kernel
theorem dX0_isBetter_58 : decode cX0_isBetter 58 = .ok (.if_icmp .le 7, 3) := by decide +kernel
theorem dX0_isBetter_61 : decode cX0_isBetter 61 = .ok (.iconst 1, 1) := by decide +kernel
theorem dX0_isBetter_62 : decode cX0_isBetter 62 = .ok (.goto 4, 3) := by decide +kernel
theorem dX0_isBetter_65 : decode cX0_isBetter 65 = .ok (.iconst 0, 1) := by decide +kernel
theorem dX0_isBetter_66 : decode cX0_isBetter 66 = .ok (.ireturn, 1) := by decide +kernel
theorem dX0_isBetter_67 : decode cX0_isBetter 67 = .ok (.iload_n 1, 1) := by decide +kernel
theorem dX0_isBetter_68 : decode cX0_isBetter 68 = .ok (.iload_n 2, 1) := by decide +kernel
theorem dX0_isBetter_69 : decode cX0_isBetter 69 = .ok (.if_icmp .ge 7, 3) := by decide +kernel
theorem dX0_isBetter_72 : decode cX0_isBetter 72 = .ok (.iconst 1, 1) := by decide +kernel
theorem dX0_isBetter_73 : decode cX0_isBetter 73 = .ok (.goto 4, 3) := by decide +kernel
theorem dX0_isBetter_76 : decode cX0_isBetter 76 = .ok (.iconst 0, 1) := by decide +kernel
theorem dX0_isBetter_77 : decode cX0_isBetter 77 = .ok (.ireturn, 1) := by decide +kernel
set_option maxRecDepth 20000 in
theorem ggX1_init_X2_init : GoodIn wsX1_init wsX2_init := goodIn_r _ [24, 25, 2, 3, 4, 26, 77, 78] (by decide +kernel) (by decide +kernel)
set_option maxRecDepth 20000 in
theorem gX1_init_X2_init_n32 : GoodIn wsX1_init (wsX2_init) := ggX1_init_X2_init
set_option maxRecDepth 20000 in
theorem ggX1_init_X5_init : GoodIn wsX1_init wsX5_init := goodIn_r _ [28, 29, 2, 3, 30, 4, 31, 32, 33, 34, 79, 80, 81, 82] (by decide +kernel) (by decide +kernel)
set_option maxRecDepth 20000 in
theorem gX1_init_X5_init_n39 : GoodIn wsX1_init (wsX5_init) := ggX1_init_X5_init
set_option maxRecDepth 20000 in
theorem ggX1_init_X0_init : GoodIn wsX1_init wsX0_init := goodIn_r _ [36, 37, 2, 3, 4, 38, 39, 40, 83, 84, 85, 86] (by decide +kernel) (by decide +kernel)
set_option maxRecDepth 20000 in
theorem gX1_init_X0_init_n46 : GoodIn wsX1_init (wsX0_init) := ggX1_init_X0_init
set_option maxRecDepth 20000 in
theorem ggX1_init_X1_begin : GoodIn wsX1_init wsX1_begin := goodIn_r _ [45, 46, 47, 14, 18, 22, 48, 49, 50, 13, 51, 52, 53, 54, 55, 56, 26, 57, 58, 59, 17, 60, 30, 61, 62, 63, 21, 64, 65, 40, 66, 67, 68, 69, 70, 71, 72, 73, 74, 75, 76, 77, 78, 79, 80, 81, 82, 83, 84, 85, 86] (by decide +kernel) (by decide +kernel)
set_option maxRecDepth 20000 in
theorem gX1_init_X1_begin : GoodIn wsX1_init (wsV RX1 51 RX1 yX1_begin wsX1_begin) := goodIn_app (goodIn_of _ (by decide +kernel)) ggX1_init_X1_begin
theorem dX1_init_0 : decode cX1_init 0 = .ok (.aload_n 0, 1) := by decide +kernel
theorem dX1_init_1 : decode cX1_init 1 = .ok (.invokespecial 3, 3) := by decide +kernel
theorem dX1_init_4 : decode cX1_init 4 = .ok (.aload_n 0, 1) := by decide +kernel
theorem dX1_init_5 : decode cX1_init 5 = .ok (.bipush 30, 2) := by decide +kernel
theorem dX1_init_7 : decode cX1_init 7 = .ok (.newarray .int, 2) := by decide +kernel
theorem dX1_init_9 : decode cX1_init 9 = .ok (.putfield 9, 3) := by decide +kernel
theorem dX1_init_12 : decode cX1_init 12 = .ok (.aload_n 0, 1) := by decide +kernel
theorem dX1_init_13 : decode cX1_init 13 = .ok (.bipush 30, 2) := by decide +kernel
theorem dX1_init_15 : decode cX1_init 15 = .ok (.newarray .int, 2) := by decide +kernel
theorem dX1_init_17 : decode cX1_init 17 = .ok (.putfield 15, 3) := by decide +kernel
theorem dX1_init_20 : decode cX1_init 20 = .ok (.aload_n 0, 1) := by decide +kernel
theorem dX1_init_21 : decode cX1_init 21 = .ok (.sipush 150, 3) := by decide +kernel
theorem dX1_init_24 : decode cX1_init 24 = .ok (.newarray .int, 2) := by decide +kernel
theorem dX1_init_26 : decode cX1_init 26 = .ok (.putfield 18, 3) := by decide +kernel
theorem dX1_init_29 : decode cX1_init 29 = .ok (.aload_n 0, 1) := by decide +kernel
theorem dX1_init_30 : decode cX1_init 30 = .ok (.bipush 30, 2) := by decide +kernel
theorem dX1_init_32 : decode cX1_init 32 = .ok (.newarray .int, 2) := by decide +kernel
theorem dX1_init_34 : decode cX1_init 34 = .ok (.putfield 21, 3) := by decide +kernel
theorem dX1_init_37 : decode cX1_init 37 = .ok (.aload_n 0, 1) := by decide +kernel
theorem dX1_init_38 : decode cX1_init 38 = .ok (.bipush 30, 2) := by decide +kernel
theorem dX1_init_40 : decode cX1_init 40 = .ok (.newarray .int, 2) := by decide +kernel
theorem dX1_init_42 : decode cX1_init 42 = .ok (.putfield 24, 3) := by decide +kernel
theorem dX1_init_45 : decode cX1_init 45 = .ok (.aload_n 0, 1) := by decide +kernel
theorem dX1_init_46 : decode cX1_init 46 = .ok (.iconst 4, 1) := by decide +kernel
theorem dX1_init_47 : decode cX1_init 47 = .ok (.newarray .int, 2) := by decide +kernel
theorem dX1_init_49 : decode cX1_init 49 = .ok (.putfield 27, 3) := by decide +kernel
theorem dX1_init_52 : decode cX1_init 52 = .ok (.aload_n 0, 1) := by decide +kernel
theorem dX1_init_53 : decode cX1_init 53 = .ok (.new 30, 3) := by decide +kernel
theorem dX1_init_56 : decode cX1_init 56 = .ok (.dup, 1) := by decide +kernel
theorem dX1_init_57 : decode cX1_init 57 = .ok (.invokespecial 32, 3) := by decide +kernel
theorem dX1_init_60 : decode cX1_init 60 = .ok (.putfield 33, 3) := by decide +kernel
theorem dX1_init_63 : decode cX1_init 63 = .ok (.aload_n 0, 1) := by decide +kernel
theorem dX1_init_64 : decode cX1_init 64 = .ok (.new 37, 3) := by decide +kernel
theorem dX1_init_67 : decode cX1_init 67 = .ok (.dup, 1) := by decide +kernel
theorem dX1_init_68 : decode cX1_init 68 = .ok (.invokespecial 39, 3) := by decide +kernel
theorem dX1_init_71 : decode cX1_init 71 = .ok (.putfield 40, 3) := by decide +kernel
theorem dX1_init_74 : decode cX1_init 74 = .ok (.aload_n 0, 1) := by decide +kernel
theorem dX1_init_75 : decode cX1_init 75 = .ok (.new 44, 3) := by decide +kernel
theorem dX1_init_78 : decode cX1_init 78 = .ok (.dup, 1) := by decide +kernel
theorem dX1_init_79 : decode cX1_init 79 = .ok (.invokespecial 46, 3) := by decide +kernel
theorem dX1_init_82 : decode cX1_init 82 = .ok (.putfield 47, 3) := by decide +kernel
theorem dX1_init_85 : decode cX1_init 85 = .ok (.aload_n 0, 1) := by decide +kernel
theorem dX1_init_86 : decode cX1_init 86 = .ok (.iconst 2, 1) := by decide +kernel
theorem dX1_init_87 : decode cX1_init 87 = .ok (.invokevirtual 51, 3) := by decide +kernel
theorem dX1_init_90 : decode cX1_init 90 = .ok (.return_, 1) := by decide +kernel
set_option maxRecDepth 20000 in
theorem ggX1_begin_X2_fillByNumbers : GoodIn wsX1_begin wsX2_fillByNumbers := goodIn_r _ [10, 11, 12, 13, 14, 9, 15, 16, 41, 42] (by decide +kernel) (by decide +kernel)
set_option maxRecDepth 20000 in
theorem gX1_begin_X2_fillByNumbers : GoodIn wsX1_begin (wsV RX1 62 RX2 yX2_fillByNumbers wsX2_fillByNumbers) := goodIn_app (goodIn_of _ (by decide +kernel)) ggX1_begin_X2_fillByNumbers
set_option maxRecDepth 20000 in
theorem ggX1_begin_X5_end : GoodIn wsX1_begin wsX5_end := goodIn_r _ [21, 22, 43, 44, 45, 46] (by decide +kernel) (by decide +kernel)
set_option maxRecDepth 20000 in
theorem gX1_begin_X5_end : GoodIn wsX1_begin (wsV RX1 65 RX5 yX5_end wsX5_end) := goodIn_app (goodIn_of _ (by decide +kernel)) ggX1_begin_X5_end
set_option maxRecDepth 20000 in
theorem ggX1_begin_X0_begin : GoodIn wsX1_begin wsX0_begin := goodIn_r _ [27, 28, 29, 47, 48, 49, 50] (by decide +kernel) (by decide +kernel)
set_option maxRecDepth 20000 in
theorem gX1_begin_X0_begin : GoodIn wsX1_begin (wsV RX1 69 RX0 yX0_begin wsX0_begin) := goodIn_app (goodIn_of _ (by decide +kernel)) ggX1_begin_X0_begin
theorem dX1_begin_0 : decode cX1_begin 0 = .ok (.aload_n 0, 1) := by decide +kernel
theorem dX1_begin_1 : decode cX1_begin 1 = .ok (.iload_n 1, 1) := by decide +kernel
theorem dX1_begin_2 : decode cX1_begin 2 = .ok (.putfield 55, 3) := by decide +kernel
theorem dX1_begin_5 : decode cX1_begin 5 = .ok (.aload_n 0, 1) := by decide +kernel
theorem dX1_begin_6 : decode cX1_begin 6 = .ok (.iconst 0, 1) := by decide +kernel
theorem dX1_begin_7 : decode cX1_begin 7 = .ok (.putfield 59, 3) := by decide +kernel
theorem dX1_begin_10 : decode cX1_begin 10 = .ok (.aload_n 0, 1) := by decide +kernel
theorem dX1_begin_11 : decode cX1_begin 11 = .ok (.getfield 33, 3) := by decide +kernel
theorem dX1_begin_14 : decode cX1_begin 14 = .ok (.iload_n 1, 1) := by decide +kernel
theorem dX1_begin_15 : decode cX1_begin 15 = .ok (.invokevirtual 62, 3) := by decide +kernel
theorem dX1_begin_18 : decode cX1_begin 18 = .ok (.aload_n 0, 1) := by decide +kernel
theorem dX1_begin_19 : decode cX1_begin 19 = .ok (.getfield 40, 3) := by decide +kernel
theorem dX1_begin_22 : decode cX1_begin 22 = .ok (.invokevirtual 65, 3) := by decide +kernel
theorem dX1_begin_25 : decode cX1_begin 25 = .ok (.pop, 1) := by decide +kernel
theorem dX1_begin_26 : decode cX1_begin 26 = .ok (.aload_n 0, 1) := by decide +kernel
theorem dX1_begin_27 : decode cX1_begin 27 = .ok (.getfield 47, 3) := by decide +kernel
theorem dX1_begin_30 : decode cX1_begin 30 = .ok (.iload_n 1, 1) := by decide +kernel
theorem dX1_begin_31 : decode cX1_begin 31 = .ok (.invokevirtual 69, 3) := by decide +kernel
theorem dX1_begin_34 : decode cX1_begin 34 = .ok (.return_, 1) := by decide +kernel
theorem dX1_hasRider_0 : decode cX1_hasRider 0 = .ok (.iload_n 1, 1) := by decide +kernel
theorem dX1_hasRider_1 : decode cX1_hasRider 1 = .ok (.ifCond .lt 15, 3) := by decide +kernel
theorem dX1_hasRider_4 : decode cX1_hasRider 4 = .ok (.iload_n 1, 1) := by decide +kernel
theorem dX1_hasRider_5 : decode cX1_hasRider 5 = .ok (.aload_n 0, 1) := by decide +kernel
theorem dX1_hasRider_6 : decode cX1_hasRider 6 = .ok (.getfield 55, 3) := by decide +kernel
theorem dX1_hasRider_9 : decode cX1_hasRider 9 = .ok (.if_icmp .ge 7, 3) := by decide +kernel
theorem dX1_hasRider_12 : decode cX1_hasRider 12 = .ok (.iconst 1, 1) := by decide +kernel
theorem dX1_hasRider_13 : decode cX1_hasRider 13 = .ok (.goto 4, 3) := by decide +kernel
theorem dX1_hasRider_16 : decode cX1_hasRider 16 = .ok (.iconst 0, 1) := by decide +kernel
theorem dX1_hasRider_17 : decode cX1_hasRider 17 = .ok (.ireturn, 1) := by decide +kernel
theorem dX1_hasRide_0 : decode cX1_hasRide 0 = .ok (.iload_n 1, 1) := by decide +kernel
theorem dX1_hasRide_1 : decode cX1_hasRide 1 = .ok (.ifCond .lt 15, 3) := by decide +kernel
theorem dX1_hasRide_4 : decode cX1_hasRide 4 = .ok (.iload_n 1, 1) := by decide +kernel
theorem dX1_hasRide_5 : decode cX1_hasRide 5 = .ok (.aload_n 0, 1) := by decide +kernel
theorem dX1_hasRide_6 : decode cX1_hasRide 6 = .ok (.getfield 59, 3) := by decide +kernel
theorem dX1_hasRide_9 : decode cX1_hasRide 9 = .ok (.if_icmp .ge 7, 3) := by decide +kernel
theorem dX1_hasRide_12 : decode cX1_hasRide 12 = .ok (.iconst 1, 1) := by decide +kernel
theorem dX1_hasRide_13 : decode cX1_hasRide 13 = .ok (.goto 4, 3) := by decide +kernel
theorem dX1_hasRide_16 : decode cX1_hasRide 16 = .ok (.iconst 0, 1) := by decide +kernel
theorem dX1_hasRide_17 : decode cX1_hasRide 17 = .ok (.ireturn, 1) := by decide +kernel
set_option maxRecDepth 20000 in
theorem ggX1_addRide_X1_score : GoodIn wsX1_addRide wsX1_score := goodIn_r _ [14, 4, 15, 16, 17, 18, 19, 20, 21, 22, 23, 53, 54, 55, 56, 57, 58, 59, 60, 61, 62, 63] (by decide +kernel) (by decide +kernel)
set_option maxRecDepth 20000 in
theorem gX1_addRide_X1_score : GoodIn wsX1_addRide (wsV RX1 70 RX1 yX1_score wsX1_score) := goodIn_app (goodIn_of _ (by decide +kernel)) ggX1_addRide_X1_score
set_option maxRecDepth 20000 in
theorem ggX1_addRide_X5_start : GoodIn wsX1_addRide wsX5_start := goodIn_r _ [28, 29, 30, 31, 32, 33, 34, 35, 36, 37, 38, 39, 40, 41, 42, 43, 44, 64, 65, 66, 67, 72, 73] (by decide +kernel) (by decide +kernel)
set_option maxRecDepth 20000 in
theorem gX1_addRide_X5_start : GoodIn wsX1_addRide (wsV RX1 76 RX5 yX5_start wsX5_start) := goodIn_app (goodIn_of _ (by decide +kernel)) ggX1_addRide_X5_start
set_option maxRecDepth 20000 in
theorem ggX1_addRide_X5_ride : GoodIn wsX1_addRide wsX5_ride := goodIn_r _ [48, 31, 30, 32, 64, 65, 66, 67] (by decide +kernel) (by decide +kernel)
set_option maxRecDepth 20000 in
theorem gX1_addRide_X5_ride : GoodIn wsX1_addRide (wsV RX1 83 RX5 yX5_ride wsX5_ride) := goodIn_app (goodIn_of _ (by decide +kernel)) ggX1_addRide_X5_ride
set_option maxRecDepth 20000 in
theorem ggX1_addRide_X2_leave : GoodIn wsX1_addRide wsX2_leave := goodIn_r _ [52, 38, 43, 72, 73] (by decide +kernel) (by decide +kernel)
set_option maxRecDepth 20000 in
theorem gX1_addRide_X2_leave : GoodIn wsX1_addRide (wsV RX1 87 RX2 yX2_leave wsX2_leave) := goodIn_app (goodIn_of _ (by decide +kernel)) ggX1_addRide_X2_leave
theorem dX1_addRide_0 : decode cX1_addRide 0 = .ok (.aload_n 0, 1) := by decide +kernel
theorem dX1_addRide_1 : decode cX1_addRide 1 = .ok (.getfield 59, 3) := by decide +kernel
theorem dX1_addRide_4 : decode cX1_addRide 4 = .ok (.istore_n 3, 1) := by decide +kernel
theorem dX1_addRide_5 : decode cX1_addRide 5 = .ok (.aload_n 0, 1) := by decide +kernel
theorem dX1_addRide_6 : decode cX1_addRide 6 = .ok (.dup, 1) := by decide +kernel
theorem dX1_addRide_7 : decode cX1_addRide 7 = .ok (.getfield 59, 3) := by decide +kernel
theorem dX1_addRide_10 : decode cX1_addRide 10 = .ok (.iconst 1, 1) := by decide +kernel
theorem dX1_addRide_11 : decode cX1_addRide 11 = .ok (.iadd, 1) := by decide +kernel
theorem dX1_addRide_12 : decode cX1_addRide 12 = .ok (.putfield 59, 3) := by decide +kernel
theorem dX1_addRide_15 : decode cX1_addRide 15 = .ok (.aload_n 0, 1) := by decide +kernel
theorem dX1_addRide_16 : decode cX1_addRide 16 = .ok (.getfield 9, 3) := by decide +kernel
theorem dX1_addRide_19 : decode cX1_addRide 19 = .ok (.iload_n 3, 1) := by decide +kernel
theorem dX1_addRide_20 : decode cX1_addRide 20 = .ok (.iload_n 1, 1) := by decide +kernel
theorem dX1_addRide_21 : decode cX1_addRide 21 = .ok (.iastore, 1) := by decide +kernel
theorem dX1_addRide_22 : decode cX1_addRide 22 = .ok (.aload_n 0, 1) := by decide +kernel
theorem dX1_addRide_23 : decode cX1_addRide 23 = .ok (.getfield 15, 3) := by decide +kernel
theorem dX1_addRide_26 : decode cX1_addRide 26 = .ok (.iload_n 3, 1) := by decide +kernel
theorem dX1_addRide_27 : decode cX1_addRide 27 = .ok (.iload_n 2, 1) := by decide +kernel
theorem dX1_addRide_28 : decode cX1_addRide 28 = .ok (.iastore, 1) := by decide +kernel
theorem dX1_addRide_29 : decode cX1_addRide 29 = .ok (.iconst 0, 1) := by decide +kernel
theorem dX1_addRide_30 : decode cX1_addRide 30 = .ok (.istore 4, 2) := by decide +kernel
theorem dX1_addRide_32 : decode cX1_addRide 32 = .ok (.iload 4, 2) := by decide +kernel
theorem dX1_addRide_34 : decode cX1_addRide 34 = .ok (.iconst 5, 1) := by decide +kernel
theorem dX1_addRide_35 : decode cX1_addRide 35 = .ok (.if_icmp .ge 21, 3) := by decide +kernel
theorem dX1_addRide_38 : decode cX1_addRide 38 = .ok (.aload_n 0, 1) := by decide +kernel
theorem dX1_addRide_39 : decode cX1_addRide 39 = .ok (.getfield 18, 3) := by decide +kernel
theorem dX1_addRide_42 : decode cX1_addRide 42 = .ok (.iload_n 3, 1) := by decide +kernel
theorem dX1_addRide_43 : decode cX1_addRide 43 = .ok (.iconst 5, 1) := by decide +kernel
theorem dX1_addRide_44 : decode cX1_addRide 44 = .ok (.imul, 1) := by decide +kernel
theorem dX1_addRide_45 : decode cX1_addRide 45 = .ok (.iload 4, 2) := by decide +kernel
theorem dX1_addRide_47 : decode cX1_addRide 47 = .ok (.iadd, 1) := by decide +kernel
theorem dX1_addRide_48 : decode cX1_addRide 48 = .ok (.iconst (-1), 1) := by decide +kernel
theorem dX1_addRide_49 : decode cX1_addRide 49 = .ok (.iastore, 1) := by decide +kernel
theorem dX1_addRide_50 : decode cX1_addRide 50 = .ok (.iinc 4 1, 3) := by decide +kernel
theorem dX1_addRide_53 : decode cX1_addRide 53 = .ok (.goto (-21), 3) := by decide +kernel
theorem dX1_addRide_56 : decode cX1_addRide 56 = .ok (.aload_n 0, 1) := by decide +kernel
theorem dX1_addRide_57 : decode cX1_addRide 57 = .ok (.iload_n 3, 1) := by decide +kernel
theorem dX1_addRide_58 : decode cX1_addRide 58 = .ok (.invokevirtual 70, 3) := by decide +kernel
theorem dX1_addRide_61 : decode cX1_addRide 61 = .ok (.aload_n 0, 1) := by decide +kernel
theorem dX1_addRide_62 : decode cX1_addRide 62 = .ok (.getfield 40, 3) := by decide +kernel
theorem dX1_addRide_65 : decode cX1_addRide 65 = .ok (.getfield 73, 3) := by decide +kernel
theorem dX1_addRide_68 : decode cX1_addRide 68 = .ok (.iload_n 2, 1) := by decide +kernel
theorem dX1_addRide_69 : decode cX1_addRide 69 = .ok (.if_icmp .eq 15, 3) := by decide +kernel
theorem dX1_addRide_72 : decode cX1_addRide 72 = .ok (.aload_n 0, 1) := by decide +kernel
theorem dX1_addRide_73 : decode cX1_addRide 73 = .ok (.getfield 40, 3) := by decide +kernel
theorem dX1_addRide_76 : decode cX1_addRide 76 = .ok (.iload_n 2, 1) := by decide +kernel
theorem dX1_addRide_77 : decode cX1_addRide 77 = .ok (.aload_n 0, 1) := by decide +kernel
theorem dX1_addRide_78 : decode cX1_addRide 78 = .ok (.getfield 33, 3) := by decide +kernel
theorem dX1_addRide_81 : decode cX1_addRide 81 = .ok (.invokevirtual 76, 3) := by decide +kernel
theorem dX1_addRide_84 : decode cX1_addRide 84 = .ok (.aload_n 0, 1) := by decide +kernel
theorem dX1_addRide_85 : decode cX1_addRide 85 = .ok (.getfield 40, 3) := by decide +kernel
theorem dX1_addRide_88 : decode cX1_addRide 88 = .ok (.iload_n 1, 1) := by decide +kernel
theorem dX1_addRide_89 : decode cX1_addRide 89 = .ok (.aload_n 0, 1) := by decide +kernel
theorem dX1_addRide_90 : decode cX1_addRide 90 = .ok (.getfield 47, 3) := by decide +kernel
theorem dX1_addRide_93 : decode cX1_addRide 93 = .ok (.getfield 80, 3) := by decide +kernel
theorem dX1_addRide_96 : decode cX1_addRide 96 = .ok (.invokevirtual 83, 3) := by decide +kernel
theorem dX1_addRide_99 : decode cX1_addRide 99 = .ok (.aload_n 0, 1) := by decide +kernel
theorem dX1_addRide_100 : decode cX1_addRide 100 = .ok (.getfield 33, 3) := by decide +kernel
theorem dX1_addRide_103 : decode cX1_addRide 103 = .ok (.iload_n 1, 1) := by decide +kernel
theorem dX1_addRide_104 : decode cX1_addRide 104 = .ok (.invokevirtual 87, 3) := by decide +kernel
theorem dX1_addRide_107 : decode cX1_addRide 107 = .ok (.iload_n 3, 1) := by decide +kernel
theorem dX1_addRide_108 : decode cX1_addRide 108 = .ok (.ireturn, 1) := by decide +kernel
set_option maxRecDepth 20000 in
theorem ggX1_setMark_X1_score : GoodIn wsX1_setMark wsX1_score := goodIn_r _ [6, 1, 7, 8, 9, 10, 11, 12, 13, 14, 15, 16, 17, 18, 19, 20, 21, 22, 23, 24, 25, 26] (by decide +kernel) (by decide +kernel)
set_option maxRecDepth 20000 in
theorem gX1_setMark_X1_score : GoodIn wsX1_setMark (wsV RX1 70 RX1 yX1_score wsX1_score) := goodIn_app (goodIn_of _ (by decide +kernel)) ggX1_setMark_X1_score
theorem dX1_setMark_0 : decode cX1_setMark 0 = .ok (.iload_n 1, 1) := by decide +kernel
theorem dX1_setMark_1 : decode cX1_setMark 1 = .ok (.iconst 5, 1) := by decide +kernel
theorem dX1_setMark_2 : decode cX1_setMark 2 = .ok (.imul, 1) := by decide +kernel
theorem dX1_setMark_3 : decode cX1_setMark 3 = .ok (.iload_n 2, 1) := by decide +kernel
theorem dX1_setMark_4 : decode cX1_setMark 4 = .ok (.iadd, 1) := by decide +kernel
theorem dX1_setMark_5 : decode cX1_setMark 5 = .ok (.istore 4, 2) := by decide +kernel
theorem dX1_setMark_7 : decode cX1_setMark 7 = .ok (.aload_n 0, 1) := by decide +kernel
theorem dX1_setMark_8 : decode cX1_setMark 8 = .ok (.getfield 18, 3) := by decide +kernel
theorem dX1_setMark_11 : decode cX1_setMark 11 = .ok (.iload 4, 2) := by decide +kernel
theorem dX1_setMark_13 : decode cX1_setMark 13 = .ok (.iaload, 1) := by decide +kernel
theorem dX1_setMark_14 : decode cX1_setMark 14 = .ok (.istore 5, 2) := by decide +kernel
theorem dX1_setMark_16 : decode cX1_setMark 16 = .ok (.aload_n 0, 1) := by decide +kernel
theorem dX1_setMark_17 : decode cX1_setMark 17 = .ok (.getfield 18, 3) := by decide +kernel
theorem dX1_setMark_20 : decode cX1_setMark 20 = .ok (.iload 4, 2) := by decide +kernel
theorem dX1_setMark_22 : decode cX1_setMark 22 = .ok (.iload_n 3, 1) := by decide +kernel
theorem dX1_setMark_23 : decode cX1_setMark 23 = .ok (.iastore, 1) := by decide +kernel
theorem dX1_setMark_24 : decode cX1_setMark 24 = .ok (.aload_n 0, 1) := by decide +kernel
theorem dX1_setMark_25 : decode cX1_setMark 25 = .ok (.iload_n 1, 1) := by decide +kernel
theorem dX1_setMark_26 : decode cX1_setMark 26 = .ok (.invokevirtual 70, 3) := by decide +kernel
theorem dX1_setMark_29 : decode cX1_setMark 29 = .ok (.iload 5, 2) := by decide +kernel
theorem dX1_setMark_31 : decode cX1_setMark 31 = .ok (.ireturn, 1) := by decide +kernel
theorem dX1_score_0 : decode cX1_score 0 = .ok (.iconst 0, 1) := by decide +kernel
theorem dX1_score_1 : decode cX1_score 1 = .ok (.istore_n 2, 1) := by decide +kernel
theorem dX1_score_2 : decode cX1_score 2 = .ok (.iconst 0, 1) := by decide +kernel
theorem dX1_score_3 : decode cX1_score 3 = .ok (.istore_n 3, 1) := by decide +kernel
theorem dX1_score_4 : decode cX1_score 4 = .ok (.bipush 100, 2) := by decide +kernel
theorem dX1_score_6 : decode cX1_score 6 = .ok (.istore 4, 2) := by decide +kernel
theorem dX1_score_8 : decode cX1_score 8 = .ok (.iconst 0, 1) := by decide +kernel
theorem dX1_score_9 : decode cX1_score 9 = .ok (.istore 5, 2) := by decide +kernel
theorem dX1_score_11 : decode cX1_score 11 = .ok (.iconst 0, 1) := by decide +kernel
theorem dX1_score_12 : decode cX1_score 12 = .ok (.istore 6, 2) := by decide +kernel
theorem dX1_score_14 : decode cX1_score 14 = .ok (.iload 6, 2) := by decide +kernel
theorem dX1_score_16 : decode cX1_score 16 = .ok (.iconst 5, 1) := by decide +kernel
theorem dX1_score_17 : decode cX1_score 17 = .ok (.if_icmp .ge 54, 3) := by decide +kernel
theorem dX1_score_20 : decode cX1_score 20 = .ok (.aload_n 0, 1) := by decide +kernel
theorem dX1_score_21 : decode cX1_score 21 = .ok (.getfield 18, 3) := by decide +kernel
theorem dX1_score_24 : decode cX1_score 24 = .ok (.iload_n 1, 1) := by decide +kernel
theorem dX1_score_25 : decode cX1_score 25 = .ok (.iconst 5, 1) := by decide +kernel
theorem dX1_score_26 : decode cX1_score 26 = .ok (.imul, 1) := by decide +kernel
theorem dX1_score_27 : decode cX1_score 27 = .ok (.iload 6, 2) := by decide +kernel
theorem dX1_score_29 : decode cX1_score 29 = .ok (.iadd, 1) := by decide +kernel
theorem dX1_score_30 : decode cX1_score 30 = .ok (.iaload, 1) := by decide +kernel
theorem dX1_score_31 : decode cX1_score 31 = .ok (.istore 7, 2) := by decide +kernel
theorem dX1_score_33 : decode cX1_score 33 = .ok (.iload 7, 2) := by decide +kernel
theorem dX1_score_35 : decode cX1_score 35 = .ok (.iconst (-1), 1) := by decide +kernel
theorem dX1_score_36 : decode cX1_score 36 = .ok (.if_icmp .eq 29, 3) := by decide +kernel
theorem dX1_score_39 : decode cX1_score 39 = .ok (.iinc 2 1, 3) := by decide +kernel
theorem dX1_score_42 : decode cX1_score 42 = .ok (.iload_n 3, 1) := by decide +kernel
theorem dX1_score_43 : decode cX1_score 43 = .ok (.iload 7, 2) := by decide +kernel
theorem dX1_score_45 : decode cX1_score 45 = .ok (.iadd, 1) := by decide +kernel
theorem dX1_score_46 : decode cX1_score 46 = .ok (.istore_n 3, 1) := by decide +kernel
theorem dX1_score_47 : decode cX1_score 47 = .ok (.iload 4, 2) := by decide +kernel
theorem dX1_score_49 : decode cX1_score 49 = .ok (.iload 7, 2) := by decide +kernel
theorem dX1_score_51 : decode cX1_score 51 = .ok (.invokestatic 90, 3) := by decide +kernel
theorem dX1_score_54 : decode cX1_score 54 = .ok (.istore 4, 2) := by decide +kernel
theorem dX1_score_56 : decode cX1_score 56 = .ok (.iload 5, 2) := by decide +kernel
theorem dX1_score_58 : decode cX1_score 58 = .ok (.iload 7, 2) := by decide +kernel
theorem dX1_score_60 : decode cX1_score 60 = .ok (.invokestatic 96, 3) := by decide +kernel
theorem dX1_score_63 : decode cX1_score 63 = .ok (.istore 5, 2) := by decide +kernel
theorem dX1_score_65 : decode cX1_score 65 = .ok (.iinc 6 1, 3) := by decide +kernel
theorem dX1_score_68 : decode cX1_score 68 = .ok (.goto (-54), 3) := by decide +kernel
theorem dX1_score_71 : decode cX1_score 71 = .ok (.aload_n 0, 1) := by decide +kernel
theorem dX1_score_72 : decode cX1_score 72 = .ok (.getfield 21, 3) := by decide +kernel
theorem dX1_score_75 : decode cX1_score 75 = .ok (.iload_n 1, 1) := by decide +kernel
theorem dX1_score_76 : decode cX1_score 76 = .ok (.iload_n 2, 1) := by decide +kernel
theorem dX1_score_77 : decode cX1_score 77 = .ok (.iastore, 1) := by decide +kernel
theorem dX1_score_78 : decode cX1_score 78 = .ok (.iload_n 2, 1) := by decide +kernel
theorem dX1_score_79 : decode cX1_score 79 = .ok (.iconst 4, 1) := by decide +kernel
theorem dX1_score_80 : decode cX1_score 80 = .ok (.if_icmp .lt 14, 3) := by decide +kernel
theorem dX1_score_83 : decode cX1_score 83 = .ok (.iload_n 3, 1) := by decide +kernel
theorem dX1_score_84 : decode cX1_score 84 = .ok (.iload 4, 2) := by decide +kernel
theorem dX1_score_86 : decode cX1_score 86 = .ok (.iload 5, 2) := by decide +kernel
theorem dX1_score_88 : decode cX1_score 88 = .ok (.iadd, 1) := by decide +kernel
theorem dX1_score_89 : decode cX1_score 89 = .ok (.isub, 1) := by decide +kernel
theorem dX1_score_90 : decode cX1_score 90 = .ok (.istore_n 3, 1) := by decide +kernel
theorem dX1_score_91 : decode cX1_score 91 = .ok (.iinc 2 (-2), 3) := by decide +kernel
theorem dX1_score_94 : decode cX1_score 94 = .ok (.aload_n 0, 1) := by decide +kernel
theorem dX1_score_95 : decode cX1_score 95 = .ok (.getfield 24, 3) := by decide +kernel
theorem dX1_score_98 : decode cX1_score 98 = .ok (.iload_n 1, 1) := by decide +kernel
theorem dX1_score_99 : decode cX1_score 99 = .ok (.iload_n 2, 1) := by decide +kernel
theorem dX1_score_100 : decode cX1_score 100 = .ok (.ifCond .le 11, 3) := by decide +kernel
theorem dX1_score_103 : decode cX1_score 103 = .ok (.iconst 3, 1) := by decide +kernel
theorem dX1_score_104 : decode cX1_score 104 = .ok (.iload_n 3, 1) := by decide +kernel
theorem dX1_score_105 : decode cX1_score 105 = .ok (.imul, 1) := by decide +kernel
theorem dX1_score_106 : decode cX1_score 106 = .ok (.iload_n 2, 1) := by decide +kernel
theorem dX1_score_107 : decode cX1_score 107 = .ok (.idiv, 1) := by decide +kernel
theorem dX1_score_108 : decode cX1_score 108 = .ok (.goto 4, 3) := by decide +kernel
theorem dX1_score_111 : decode cX1_score 111 = .ok (.iconst 0, 1) := by decide +kernel
theorem dX1_score_112 : decode cX1_score 112 = .ok (.iastore, 1) := by decide +kernel
theorem dX1_score_113 : decode cX1_score 113 = .ok (.return_, 1) := by decide +kernel
theorem dX1_markedRides_0 : decode cX1_markedRides 0 = .ok (.iconst 0, 1) := by decide +kernel
theorem dX1_markedRides_1 : decode cX1_markedRides 1 = .ok (.istore_n 1, 1) := by decide +kernel
theorem dX1_markedRides_2 : decode cX1_markedRides 2 = .ok (.iconst 0, 1) := by decide +kernel
theorem dX1_markedRides_3 : decode cX1_markedRides 3 = .ok (.istore_n 2, 1) := by decide +kernel
theorem dX1_markedRides_4 : decode cX1_markedRides 4 = .ok (.iload_n 2, 1) := by decide +kernel
theorem dX1_markedRides_5 : decode cX1_markedRides 5 = .ok (.aload_n 0, 1) := by decide +kernel
theorem dX1_markedRides_6 : decode cX1_markedRides 6 = .ok (.getfield 59, 3) := by decide +kernel
theorem dX1_markedRides_9 : decode cX1_markedRides 9 = .ok (.if_icmp .ge 21, 3) := by decide +kernel
theorem dX1_markedRides_12 : decode cX1_markedRides 12 = .ok (.aload_n 0, 1) := by decide +kernel
theorem dX1_markedRides_13 : decode cX1_markedRides 13 = .ok (.getfield 21, 3) := by decide +kernel
theorem dX1_markedRides_16 : decode cX1_markedRides 16 = .ok (.iload_n 2, 1) := by decide +kernel
theorem dX1_markedRides_17 : decode cX1_markedRides 17 = .ok (.iaload, 1) := by decide +kernel
theorem dX1_markedRides_18 : decode cX1_markedRides 18 = .ok (.ifCond .le 6, 3) := by decide +kernel
theorem dX1_markedRides_21 : decode cX1_markedRides 21 = .ok (.iinc 1 1, 3) := by decide +kernel
theorem dX1_markedRides_24 : decode cX1_markedRides 24 = .ok (.iinc 2 1, 3) := by decide +kernel
theorem dX1_markedRides_27 : decode cX1_markedRides 27 = .ok (.goto (-23), 3) := by decide +kernel
theorem dX1_markedRides_30 : decode cX1_markedRides 30 = .ok (.iload_n 1, 1) := by decide +kernel
theorem dX1_markedRides_31 : decode cX1_markedRides 31 = .ok (.ireturn, 1) := by decide +kernel
theorem dX1_ridesBy_0 : decode cX1_ridesBy 0 = .ok (.iconst 0, 1) := by decide +kernel
theorem dX1_ridesBy_1 : decode cX1_ridesBy 1 = .ok (.istore_n 2, 1) := by decide +kernel
theorem dX1_ridesBy_2 : decode cX1_ridesBy 2 = .ok (.iconst 0, 1) := by decide +kernel
theorem dX1_ridesBy_3 : decode cX1_ridesBy 3 = .ok (.istore_n 3, 1) := by decide +kernel
theorem dX1_ridesBy_4 : decode cX1_ridesBy 4 = .ok (.iload_n 3, 1) := by decide +kernel
theorem dX1_ridesBy_5 : decode cX1_ridesBy 5 = .ok (.aload_n 0, 1) := by decide +kernel
theorem dX1_ridesBy_6 : decode cX1_ridesBy 6 = .ok (.getfield 59, 3) := by decide +kernel
theorem dX1_ridesBy_9 : decode cX1_ridesBy 9 = .ok (.if_icmp .ge 22, 3) := by decide +kernel
theorem dX1_ridesBy_12 : decode cX1_ridesBy 12 = .ok (.aload_n 0, 1) := by decide +kernel
theorem dX1_ridesBy_13 : decode cX1_ridesBy 13 = .ok (.getfield 9, 3) := by decide +kernel
theorem dX1_ridesBy_16 : decode cX1_ridesBy 16 = .ok (.iload_n 3, 1) := by decide +kernel
theorem dX1_ridesBy_17 : decode cX1_ridesBy 17 = .ok (.iaload, 1) := by decide +kernel
theorem dX1_ridesBy_18 : decode cX1_ridesBy 18 = .ok (.iload_n 1, 1) := by decide +kernel
theorem dX1_ridesBy_19 : decode cX1_ridesBy 19 = .ok (.if_icmp .ne 6, 3) := by decide +kernel
theorem dX1_ridesBy_22 : decode cX1_ridesBy 22 = .ok (.iinc 2 1, 3) := by decide +kernel
theorem dX1_ridesBy_25 : decode cX1_ridesBy 25 = .ok (.iinc 3 1, 3) := by decide +kernel
theorem dX1_ridesBy_28 : decode cX1_ridesBy 28 = .ok (.goto (-24), 3) := by decide +kernel
theorem dX1_ridesBy_31 : decode cX1_ridesBy 31 = .ok (.iload_n 2, 1) := by decide +kernel
theorem dX1_ridesBy_32 : decode cX1_ridesBy 32 = .ok (.ireturn, 1) := by decide +kernel
set_option maxRecDepth 20000 in
theorem ggX1_tally_X0_clearScores : GoodIn wsX1_tally wsX0_clearScores := goodIn_r _ [9, 10, 11, 12, 8, 13, 14, 15, 31, 32, 33, 34] (by decide +kernel) (by decide +kernel)
set_option maxRecDepth 20000 in
theorem gX1_tally_X0_clearScores : GoodIn wsX1_tally (wsV RX1 99 RX0 yX0_clearScores wsX0_clearScores) := goodIn_app (goodIn_of _ (by decide +kernel)) ggX1_tally_X0_clearScores
set_option maxRecDepth 20000 in
theorem ggX1_tally_X0_addScore : GoodIn wsX1_tally wsX0_addScore := goodIn_r _ [19, 14, 15, 10, 11, 12, 8, 13, 31, 32, 33, 34] (by decide +kernel) (by decide +kernel)
set_option maxRecDepth 20000 in
theorem gX1_tally_X0_addScore : GoodIn wsX1_tally (wsV RX1 102 RX0 yX0_addScore wsX0_addScore) := goodIn_app (goodIn_of _ (by decide +kernel)) ggX1_tally_X0_addScore
theorem dX1_tally_0 : decode cX1_tally 0 = .ok (.aload_n 0, 1) := by decide +kernel
theorem dX1_tally_1 : decode cX1_tally 1 = .ok (.getfield 47, 3) := by decide +kernel
theorem dX1_tally_4 : decode cX1_tally 4 = .ok (.invokevirtual 99, 3) := by decide +kernel
theorem dX1_tally_7 : decode cX1_tally 7 = .ok (.iconst 0, 1) := by decide +kernel
theorem dX1_tally_8 : decode cX1_tally 8 = .ok (.istore_n 1, 1) := by decide +kernel
theorem dX1_tally_9 : decode cX1_tally 9 = .ok (.iload_n 1, 1) := by decide +kernel
theorem dX1_tally_10 : decode cX1_tally 10 = .ok (.aload_n 0, 1) := by decide +kernel
theorem dX1_tally_11 : decode cX1_tally 11 = .ok (.getfield 59, 3) := by decide +kernel
theorem dX1_tally_14 : decode cX1_tally 14 = .ok (.if_icmp .ge 28, 3) := by decide +kernel
theorem dX1_tally_17 : decode cX1_tally 17 = .ok (.aload_n 0, 1) := by decide +kernel
theorem dX1_tally_18 : decode cX1_tally 18 = .ok (.getfield 47, 3) := by decide +kernel
theorem dX1_tally_21 : decode cX1_tally 21 = .ok (.aload_n 0, 1) := by decide +kernel
theorem dX1_tally_22 : decode cX1_tally 22 = .ok (.getfield 9, 3) := by decide +kernel
theorem dX1_tally_25 : decode cX1_tally 25 = .ok (.iload_n 1, 1) := by decide +kernel
theorem dX1_tally_26 : decode cX1_tally 26 = .ok (.iaload, 1) := by decide +kernel
theorem dX1_tally_27 : decode cX1_tally 27 = .ok (.aload_n 0, 1) := by decide +kernel
theorem dX1_tally_28 : decode cX1_tally 28 = .ok (.getfield 24, 3) := by decide +kernel
theorem dX1_tally_31 : decode cX1_tally 31 = .ok (.iload_n 1, 1) := by decide +kernel
theorem dX1_tally_32 : decode cX1_tally 32 = .ok (.iaload, 1) := by decide +kernel
theorem dX1_tally_33 : decode cX1_tally 33 = .ok (.invokevirtual 102, 3) := by decide +kernel
theorem dX1_tally_36 : decode cX1_tally 36 = .ok (.iinc 1 1, 3) := by decide +kernel
theorem dX1_tally_39 : decode cX1_tally 39 = .ok (.goto (-30), 3) := by decide +kernel
theorem dX1_tally_42 : decode cX1_tally 42 = .ok (.return_, 1) := by decide +kernel
set_option maxRecDepth 20000 in
theorem ggX1_leastScoreFor_X1_tally : GoodIn wsX1_leastScoreFor wsX1_tally := goodIn_r _ [8, 1, 9, 10, 11, 12, 13, 14, 15, 16, 17, 18, 19, 20, 21, 22, 23, 24, 25, 26, 42, 43, 44, 45, 46, 47, 48, 49, 50, 51, 52, 53, 54, 55, 56] (by decide +kernel) (by decide +kernel)
set_option maxRecDepth 20000 in
theorem gX1_leastScoreFor_X1_tally : GoodIn wsX1_leastScoreFor (wsV RX1 106 RX1 yX1_tally wsX1_tally) := goodIn_app (goodIn_of _ (by decide +kernel)) ggX1_leastScoreFor_X1_tally
set_option maxRecDepth 20000 in
theorem ggX1_leastScoreFor_X0_addScore : GoodIn wsX1_leastScoreFor wsX0_addScore := goodIn_r _ [26, 21, 22, 17, 18, 19, 15, 20, 53, 54, 55, 56] (by decide +kernel) (by decide +kernel)
set_option maxRecDepth 20000 in
theorem gX1_leastScoreFor_X0_addScore : GoodIn wsX1_leastScoreFor (wsV RX1 102 RX0 yX0_addScore wsX0_addScore) := goodIn_app (goodIn_of _ (by decide +kernel)) ggX1_leastScoreFor_X0_addScore
set_option maxRecDepth 20000 in
theorem ggX1_leastScoreFor_X0_placeOf : GoodIn wsX1_leastScoreFor wsX0_placeOf := goodIn_r _ [30, 31, 32, 33, 34, 15, 35, 21, 36, 37, 38, 39, 40, 22, 53, 54, 55, 56] (by decide +kernel) (by decide +kernel)
set_option maxRecDepth 20000 in
theorem gX1_leastScoreFor_X0_placeOf : GoodIn wsX1_leastScoreFor (wsV RX1 115 RX0 yX0_placeOf wsX0_placeOf) := goodIn_app (goodIn_of _ (by decide +kernel)) ggX1_leastScoreFor_X0_placeOf
set_option maxRecDepth 20000 in
theorem ggX1_leastScoreFor_X0_setScores : GoodIn wsX1_leastScoreFor wsX0_setScores := goodIn_r _ [20, 21, 22, 53, 54, 55, 56] (by decide +kernel) (by decide +kernel)
set_option maxRecDepth 20000 in
theorem gX1_leastScoreFor_X0_setScores : GoodIn wsX1_leastScoreFor (wsV RX1 119 RX0 yX0_setScores wsX0_setScores) := goodIn_app (goodIn_of _ (by decide +kernel)) ggX1_leastScoreFor_X0_setScores
theorem dX1_leastScoreFor_0 : decode cX1_leastScoreFor 0 = .ok (.aload_n 0, 1) := by decide +kernel
theorem dX1_leastScoreFor_1 : decode cX1_leastScoreFor 1 = .ok (.invokevirtual 106, 3) := by decide +kernel
theorem dX1_leastScoreFor_4 : decode cX1_leastScoreFor 4 = .ok (.aload_n 0, 1) := by decide +kernel
theorem dX1_leastScoreFor_5 : decode cX1_leastScoreFor 5 = .ok (.getfield 47, 3) := by decide +kernel
theorem dX1_leastScoreFor_8 : decode cX1_leastScoreFor 8 = .ok (.getfield 109, 3) := by decide +kernel
theorem dX1_leastScoreFor_11 : decode cX1_leastScoreFor 11 = .ok (.iload_n 1, 1) := by decide +kernel
theorem dX1_leastScoreFor_12 : decode cX1_leastScoreFor 12 = .ok (.iaload, 1) := by decide +kernel
theorem dX1_leastScoreFor_13 : decode cX1_leastScoreFor 13 = .ok (.istore_n 3, 1) := by decide +kernel
theorem dX1_leastScoreFor_14 : decode cX1_leastScoreFor 14 = .ok (.aload_n 0, 1) := by decide +kernel
theorem dX1_leastScoreFor_15 : decode cX1_leastScoreFor 15 = .ok (.getfield 47, 3) := by decide +kernel
theorem dX1_leastScoreFor_18 : decode cX1_leastScoreFor 18 = .ok (.getfield 112, 3) := by decide +kernel
theorem dX1_leastScoreFor_21 : decode cX1_leastScoreFor 21 = .ok (.iload_n 1, 1) := by decide +kernel
theorem dX1_leastScoreFor_22 : decode cX1_leastScoreFor 22 = .ok (.iaload, 1) := by decide +kernel
theorem dX1_leastScoreFor_23 : decode cX1_leastScoreFor 23 = .ok (.istore 4, 2) := by decide +kernel
theorem dX1_leastScoreFor_25 : decode cX1_leastScoreFor 25 = .ok (.iconst 0, 1) := by decide +kernel
theorem dX1_leastScoreFor_26 : decode cX1_leastScoreFor 26 = .ok (.istore 5, 2) := by decide +kernel
theorem dX1_leastScoreFor_28 : decode cX1_leastScoreFor 28 = .ok (.iload 5, 2) := by decide +kernel
theorem dX1_leastScoreFor_30 : decode cX1_leastScoreFor 30 = .ok (.sipush 300, 3) := by decide +kernel
theorem dX1_leastScoreFor_33 : decode cX1_leastScoreFor 33 = .ok (.if_icmp .gt 45, 3) := by decide +kernel
theorem dX1_leastScoreFor_36 : decode cX1_leastScoreFor 36 = .ok (.aload_n 0, 1) := by decide +kernel
theorem dX1_leastScoreFor_37 : decode cX1_leastScoreFor 37 = .ok (.getfield 47, 3) := by decide +kernel
theorem dX1_leastScoreFor_40 : decode cX1_leastScoreFor 40 = .ok (.iload_n 1, 1) := by decide +kernel
theorem dX1_leastScoreFor_41 : decode cX1_leastScoreFor 41 = .ok (.iload 5, 2) := by decide +kernel
theorem dX1_leastScoreFor_43 : decode cX1_leastScoreFor 43 = .ok (.invokevirtual 102, 3) := by decide +kernel
theorem dX1_leastScoreFor_46 : decode cX1_leastScoreFor 46 = .ok (.aload_n 0, 1) := by decide +kernel
theorem dX1_leastScoreFor_47 : decode cX1_leastScoreFor 47 = .ok (.getfield 47, 3) := by decide +kernel
theorem dX1_leastScoreFor_50 : decode cX1_leastScoreFor 50 = .ok (.iload_n 1, 1) := by decide +kernel
theorem dX1_leastScoreFor_51 : decode cX1_leastScoreFor 51 = .ok (.invokevirtual 115, 3) := by decide +kernel
theorem dX1_leastScoreFor_54 : decode cX1_leastScoreFor 54 = .ok (.iload_n 2, 1) := by decide +kernel
theorem dX1_leastScoreFor_55 : decode cX1_leastScoreFor 55 = .ok (.if_icmp .gt 6, 3) := by decide +kernel
theorem dX1_leastScoreFor_58 : decode cX1_leastScoreFor 58 = .ok (.iload 5, 2) := by decide +kernel
theorem dX1_leastScoreFor_60 : decode cX1_leastScoreFor 60 = .ok (.ireturn, 1) := by decide +kernel
theorem dX1_leastScoreFor_61 : decode cX1_leastScoreFor 61 = .ok (.aload_n 0, 1) := by decide +kernel
theorem dX1_leastScoreFor_62 : decode cX1_leastScoreFor 62 = .ok (.getfield 47, 3) := by decide +kernel
theorem dX1_leastScoreFor_65 : decode cX1_leastScoreFor 65 = .ok (.iload_n 1, 1) := by decide +kernel
theorem dX1_leastScoreFor_66 : decode cX1_leastScoreFor 66 = .ok (.iload_n 3, 1) := by decide +kernel
theorem dX1_leastScoreFor_67 : decode cX1_leastScoreFor 67 = .ok (.iload 4, 2) := by decide +kernel
theorem dX1_leastScoreFor_69 : decode cX1_leastScoreFor 69 = .ok (.invokevirtual 119, 3) := by decide +kernel
theorem dX1_leastScoreFor_72 : decode cX1_leastScoreFor 72 = .ok (.iinc 5 1, 3) := by decide +kernel
theorem dX1_leastScoreFor_75 : decode cX1_leastScoreFor 75 = .ok (.goto (-47), 3) := by decide +kernel
theorem dX1_leastScoreFor_78 : decode cX1_leastScoreFor 78 = .ok (.bipush (-4), 2) := by decide +kernel
theorem dX1_leastScoreFor_80 : decode cX1_leastScoreFor 80 = .ok (.ireturn, 1) := by decide +kernel
set_option maxRecDepth 20000 in
theorem ggX1_countWays_X1_ridesBy : GoodIn wsX1_countWays wsX1_ridesBy := goodIn_r _ [6, 7, 8, 9, 10, 11, 12, 13, 14, 15, 16, 17, 18, 19] (by decide +kernel) (by decide +kernel)
set_option maxRecDepth 20000 in
theorem gX1_countWays_X1_ridesBy : GoodIn wsX1_countWays (wsV RX1 123 RX1 yX1_ridesBy wsX1_ridesBy) := goodIn_app (goodIn_of _ (by decide +kernel)) ggX1_countWays_X1_ridesBy
theorem dX1_countWays_0 : decode cX1_countWays 0 = .ok (.iconst 1, 1) := by decide +kernel
theorem dX1_countWays_1 : decode cX1_countWays 1 = .ok (.istore_n 1, 1) := by decide +kernel
theorem dX1_countWays_2 : decode cX1_countWays 2 = .ok (.iconst 0, 1) := by decide +kernel
theorem dX1_countWays_3 : decode cX1_countWays 3 = .ok (.istore_n 2, 1) := by decide +kernel
theorem dX1_countWays_4 : decode cX1_countWays 4 = .ok (.iconst 0, 1) := by decide +kernel
theorem dX1_countWays_5 : decode cX1_countWays 5 = .ok (.istore_n 3, 1) := by decide +kernel
theorem dX1_countWays_6 : decode cX1_countWays 6 = .ok (.iload_n 3, 1) := by decide +kernel
theorem dX1_countWays_7 : decode cX1_countWays 7 = .ok (.aload_n 0, 1) := by decide +kernel
theorem dX1_countWays_8 : decode cX1_countWays 8 = .ok (.getfield 55, 3) := by decide +kernel
theorem dX1_countWays_11 : decode cX1_countWays 11 = .ok (.if_icmp .ge 42, 3) := by decide +kernel
