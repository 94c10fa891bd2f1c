theorem dX4_lengthOfRun_21 : decode cX4_lengthOfRun 21 = .ok (.ireturn, 1) := by decide +kernel
theorem dX4_lengthOfRun_22 : decode cX4_lengthOfRun 22 = .ok (.iinc 1 1, 3) := by decide +kernel
theorem dX4_lengthOfRun_25 : decode cX4_lengthOfRun 25 = .ok (.goto (-23), 3) := by decide +kernel
theorem dX4_lengthOfRun_28 : decode cX4_lengthOfRun 28 = .ok (.aload_n 0, 1) := by decide +kernel
theorem dX4_lengthOfRun_29 : decode cX4_lengthOfRun 29 = .ok (.getfield 34, 3) := by decide +kernel
theorem dX4_lengthOfRun_32 : decode cX4_lengthOfRun 32 = .ok (.ireturn, 1) := by decide +kernel
set_option maxRecDepth 20000 in
theorem ggX4_calledInRun_X4_lengthOfRun : GoodIn wsX4_calledInRun wsX4_lengthOfRun := goodIn_r _ [6, 7, 1, 22, 23, 24, 25, 26, 27] (by decide +kernel) (by decide +kernel)
set_option maxRecDepth 20000 in
theorem gX4_calledInRun_X4_lengthOfRun : GoodIn wsX4_calledInRun (wsV RX4 57 RX4 yX4_lengthOfRun wsX4_lengthOfRun) := goodIn_app (goodIn_of _ (by decide +kernel)) ggX4_calledInRun_X4_lengthOfRun
set_option maxRecDepth 20000 in
theorem ggX4_calledInRun_X4_isCalled : GoodIn wsX4_calledInRun wsX4_isCalled := goodIn_r _ [11, 12, 13, 14, 15, 5, 16, 7, 17, 18, 19, 20, 21, 22, 23, 24, 25, 26, 27] (by decide +kernel) (by decide +kernel)
set_option maxRecDepth 20000 in
theorem gX4_calledInRun_X4_isCalled : GoodIn wsX4_calledInRun (wsV RX4 45 RX4 yX4_isCalled wsX4_isCalled) := goodIn_app (goodIn_of _ (by decide +kernel)) ggX4_calledInRun_X4_isCalled
theorem dX4_calledInRun_0 : decode cX4_calledInRun 0 = .ok (.iconst 0, 1) := by decide +kernel
theorem dX4_calledInRun_1 : decode cX4_calledInRun 1 = .ok (.istore_n 2, 1) := by decide +kernel
theorem dX4_calledInRun_2 : decode cX4_calledInRun 2 = .ok (.iload_n 1, 1) := by decide +kernel
theorem dX4_calledInRun_3 : decode cX4_calledInRun 3 = .ok (.istore_n 3, 1) := by decide +kernel
theorem dX4_calledInRun_4 : decode cX4_calledInRun 4 = .ok (.aload_n 0, 1) := by decide +kernel
theorem dX4_calledInRun_5 : decode cX4_calledInRun 5 = .ok (.invokevirtual 57, 3) := by decide +kernel
theorem dX4_calledInRun_8 : decode cX4_calledInRun 8 = .ok (.istore 4, 2) := by decide +kernel
theorem dX4_calledInRun_10 : decode cX4_calledInRun 10 = .ok (.iconst 0, 1) := by decide +kernel
theorem dX4_calledInRun_11 : decode cX4_calledInRun 11 = .ok (.istore 5, 2) := by decide +kernel
theorem dX4_calledInRun_13 : decode cX4_calledInRun 13 = .ok (.iload 5, 2) := by decide +kernel
theorem dX4_calledInRun_15 : decode cX4_calledInRun 15 = .ok (.iload 4, 2) := by decide +kernel
theorem dX4_calledInRun_17 : decode cX4_calledInRun 17 = .ok (.if_icmp .ge 36, 3) := by decide +kernel
theorem dX4_calledInRun_20 : decode cX4_calledInRun 20 = .ok (.aload_n 0, 1) := by decide +kernel
theorem dX4_calledInRun_21 : decode cX4_calledInRun 21 = .ok (.iload 5, 2) := by decide +kernel
theorem dX4_calledInRun_23 : decode cX4_calledInRun 23 = .ok (.iload_n 3, 1) := by decide +kernel
theorem dX4_calledInRun_24 : decode cX4_calledInRun 24 = .ok (.aload_n 0, 1) := by decide +kernel
theorem dX4_calledInRun_25 : decode cX4_calledInRun 25 = .ok (.getfield 18, 3) := by decide +kernel
theorem dX4_calledInRun_28 : decode cX4_calledInRun 28 = .ok (.iload 5, 2) := by decide +kernel
theorem dX4_calledInRun_30 : decode cX4_calledInRun 30 = .ok (.iaload, 1) := by decide +kernel
theorem dX4_calledInRun_31 : decode cX4_calledInRun 31 = .ok (.invokevirtual 45, 3) := by decide +kernel
theorem dX4_calledInRun_34 : decode cX4_calledInRun 34 = .ok (.ifCond .eq 13, 3) := by decide +kernel
theorem dX4_calledInRun_37 : decode cX4_calledInRun 37 = .ok (.iload_n 2, 1) := by decide +kernel
theorem dX4_calledInRun_38 : decode cX4_calledInRun 38 = .ok (.iconst 1, 1) := by decide +kernel
theorem dX4_calledInRun_39 : decode cX4_calledInRun 39 = .ok (.iload 5, 2) := by decide +kernel
theorem dX4_calledInRun_41 : decode cX4_calledInRun 41 = .ok (.ishl, 1) := by decide +kernel
theorem dX4_calledInRun_42 : decode cX4_calledInRun 42 = .ok (.ior, 1) := by decide +kernel
theorem dX4_calledInRun_43 : decode cX4_calledInRun 43 = .ok (.istore_n 2, 1) := by decide +kernel
theorem dX4_calledInRun_44 : decode cX4_calledInRun 44 = .ok (.iinc 3 (-1), 3) := by decide +kernel
theorem dX4_calledInRun_47 : decode cX4_calledInRun 47 = .ok (.iinc 5 1, 3) := by decide +kernel
theorem dX4_calledInRun_50 : decode cX4_calledInRun 50 = .ok (.goto (-37), 3) := by decide +kernel
theorem dX4_calledInRun_53 : decode cX4_calledInRun 53 = .ok (.iload_n 2, 1) := by decide +kernel
theorem dX4_calledInRun_54 : decode cX4_calledInRun 54 = .ok (.ireturn, 1) := by decide +kernel
theorem dX4_sumOf_0 : decode cX4_sumOf 0 = .ok (.iconst 0, 1) := by decide +kernel
theorem dX4_sumOf_1 : decode cX4_sumOf 1 = .ok (.istore_n 2, 1) := by decide +kernel
theorem dX4_sumOf_2 : decode cX4_sumOf 2 = .ok (.iconst 0, 1) := by decide +kernel
theorem dX4_sumOf_3 : decode cX4_sumOf 3 = .ok (.istore_n 3, 1) := by decide +kernel
theorem dX4_sumOf_4 : decode cX4_sumOf 4 = .ok (.iload_n 3, 1) := by decide +kernel
theorem dX4_sumOf_5 : decode cX4_sumOf 5 = .ok (.aload_n 0, 1) := by decide +kernel
theorem dX4_sumOf_6 : decode cX4_sumOf 6 = .ok (.getfield 34, 3) := by decide +kernel
theorem dX4_sumOf_9 : decode cX4_sumOf 9 = .ok (.if_icmp .ge 27, 3) := by decide +kernel
theorem dX4_sumOf_12 : decode cX4_sumOf 12 = .ok (.iload_n 1, 1) := by decide +kernel
theorem dX4_sumOf_13 : decode cX4_sumOf 13 = .ok (.iload_n 3, 1) := by decide +kernel
theorem dX4_sumOf_14 : decode cX4_sumOf 14 = .ok (.ishr, 1) := by decide +kernel
theorem dX4_sumOf_15 : decode cX4_sumOf 15 = .ok (.iconst 1, 1) := by decide +kernel
theorem dX4_sumOf_16 : decode cX4_sumOf 16 = .ok (.iand, 1) := by decide +kernel
theorem dX4_sumOf_17 : decode cX4_sumOf 17 = .ok (.iconst 1, 1) := by decide +kernel
theorem dX4_sumOf_18 : decode cX4_sumOf 18 = .ok (.if_icmp .ne 12, 3) := by decide +kernel
theorem dX4_sumOf_21 : decode cX4_sumOf 21 = .ok (.iload_n 2, 1) := by decide +kernel
theorem dX4_sumOf_22 : decode cX4_sumOf 22 = .ok (.aload_n 0, 1) := by decide +kernel
theorem dX4_sumOf_23 : decode cX4_sumOf 23 = .ok (.getfield 18, 3) := by decide +kernel
theorem dX4_sumOf_26 : decode cX4_sumOf 26 = .ok (.iload_n 3, 1) := by decide +kernel
theorem dX4_sumOf_27 : decode cX4_sumOf 27 = .ok (.iaload, 1) := by decide +kernel
theorem dX4_sumOf_28 : decode cX4_sumOf 28 = .ok (.iadd, 1) := by decide +kernel
theorem dX4_sumOf_29 : decode cX4_sumOf 29 = .ok (.istore_n 2, 1) := by decide +kernel
theorem dX4_sumOf_30 : decode cX4_sumOf 30 = .ok (.iinc 3 1, 3) := by decide +kernel
theorem dX4_sumOf_33 : decode cX4_sumOf 33 = .ok (.goto (-29), 3) := by decide +kernel
theorem dX4_sumOf_36 : decode cX4_sumOf 36 = .ok (.iload_n 2, 1) := by decide +kernel
theorem dX4_sumOf_37 : decode cX4_sumOf 37 = .ok (.ireturn, 1) := by decide +kernel
theorem dX4_greatestSum_0 : decode cX4_greatestSum 0 = .ok (.iconst 0, 1) := by decide +kernel
theorem dX4_greatestSum_1 : decode cX4_greatestSum 1 = .ok (.istore_n 2, 1) := by decide +kernel
theorem dX4_greatestSum_2 : decode cX4_greatestSum 2 = .ok (.iload_n 1, 1) := by decide +kernel
theorem dX4_greatestSum_3 : decode cX4_greatestSum 3 = .ok (.istore_n 3, 1) := by decide +kernel
theorem dX4_greatestSum_4 : decode cX4_greatestSum 4 = .ok (.bipush 9, 2) := by decide +kernel
theorem dX4_greatestSum_6 : decode cX4_greatestSum 6 = .ok (.istore 4, 2) := by decide +kernel
theorem dX4_greatestSum_8 : decode cX4_greatestSum 8 = .ok (.iload 4, 2) := by decide +kernel
theorem dX4_greatestSum_10 : decode cX4_greatestSum 10 = .ok (.ifCond .lt 51, 3) := by decide +kernel
theorem dX4_greatestSum_13 : decode cX4_greatestSum 13 = .ok (.iconst 0, 1) := by decide +kernel
theorem dX4_greatestSum_14 : decode cX4_greatestSum 14 = .ok (.istore 5, 2) := by decide +kernel
theorem dX4_greatestSum_16 : decode cX4_greatestSum 16 = .ok (.iload 5, 2) := by decide +kernel
theorem dX4_greatestSum_18 : decode cX4_greatestSum 18 = .ok (.aload_n 0, 1) := by decide +kernel
theorem dX4_greatestSum_19 : decode cX4_greatestSum 19 = .ok (.getfield 34, 3) := by decide +kernel
theorem dX4_greatestSum_22 : decode cX4_greatestSum 22 = .ok (.if_icmp .ge 33, 3) := by decide +kernel
theorem dX4_greatestSum_25 : decode cX4_greatestSum 25 = .ok (.aload_n 0, 1) := by decide +kernel
theorem dX4_greatestSum_26 : decode cX4_greatestSum 26 = .ok (.getfield 18, 3) := by decide +kernel
theorem dX4_greatestSum_29 : decode cX4_greatestSum 29 = .ok (.iload 5, 2) := by decide +kernel
theorem dX4_greatestSum_31 : decode cX4_greatestSum 31 = .ok (.iaload, 1) := by decide +kernel
theorem dX4_greatestSum_32 : decode cX4_greatestSum 32 = .ok (.iload 4, 2) := by decide +kernel
theorem dX4_greatestSum_34 : decode cX4_greatestSum 34 = .ok (.if_icmp .ne 15, 3) := by decide +kernel
theorem dX4_greatestSum_37 : decode cX4_greatestSum 37 = .ok (.iload_n 3, 1) := by decide +kernel
theorem dX4_greatestSum_38 : decode cX4_greatestSum 38 = .ok (.ifCond .le 11, 3) := by decide +kernel
theorem dX4_greatestSum_41 : decode cX4_greatestSum 41 = .ok (.iload_n 2, 1) := by decide +kernel
theorem dX4_greatestSum_42 : decode cX4_greatestSum 42 = .ok (.iload 4, 2) := by decide +kernel
theorem dX4_greatestSum_44 : decode cX4_greatestSum 44 = .ok (.iadd, 1) := by decide +kernel
theorem dX4_greatestSum_45 : decode cX4_greatestSum 45 = .ok (.istore_n 2, 1) := by decide +kernel
theorem dX4_greatestSum_46 : decode cX4_greatestSum 46 = .ok (.iinc 3 (-1), 3) := by decide +kernel
theorem dX4_greatestSum_49 : decode cX4_greatestSum 49 = .ok (.iinc 5 1, 3) := by decide +kernel
theorem dX4_greatestSum_52 : decode cX4_greatestSum 52 = .ok (.goto (-36), 3) := by decide +kernel
theorem dX4_greatestSum_55 : decode cX4_greatestSum 55 = .ok (.iinc 4 (-1), 3) := by decide +kernel
theorem dX4_greatestSum_58 : decode cX4_greatestSum 58 = .ok (.goto (-50), 3) := by decide +kernel
theorem dX4_greatestSum_61 : decode cX4_greatestSum 61 = .ok (.iload_n 2, 1) := by decide +kernel
theorem dX4_greatestSum_62 : decode cX4_greatestSum 62 = .ok (.ireturn, 1) := by decide +kernel
theorem dX5_init_0 : decode cX5_init 0 = .ok (.aload_n 0, 1) := by decide +kernel
theorem dX5_init_1 : decode cX5_init 1 = .ok (.invokespecial 3, 3) := by decide +kernel
theorem dX5_init_4 : decode cX5_init 4 = .ok (.aload_n 0, 1) := by decide +kernel
theorem dX5_init_5 : decode cX5_init 5 = .ok (.iconst (-1), 1) := by decide +kernel
theorem dX5_init_6 : decode cX5_init 6 = .ok (.putfield 9, 3) := by decide +kernel
theorem dX5_init_9 : decode cX5_init 9 = .ok (.aload_n 0, 1) := by decide +kernel
theorem dX5_init_10 : decode cX5_init 10 = .ok (.iconst 4, 1) := by decide +kernel
theorem dX5_init_11 : decode cX5_init 11 = .ok (.newarray .int, 2) := by decide +kernel
theorem dX5_init_13 : decode cX5_init 13 = .ok (.putfield 15, 3) := by decide +kernel
theorem dX5_init_16 : decode cX5_init 16 = .ok (.aload_n 0, 1) := by decide +kernel
theorem dX5_init_17 : decode cX5_init 17 = .ok (.iconst 4, 1) := by decide +kernel
theorem dX5_init_18 : decode cX5_init 18 = .ok (.newarray .boolean, 2) := by decide +kernel
theorem dX5_init_20 : decode cX5_init 20 = .ok (.putfield 19, 3) := by decide +kernel
theorem dX5_init_23 : decode cX5_init 23 = .ok (.aload_n 0, 1) := by decide +kernel
theorem dX5_init_24 : decode cX5_init 24 = .ok (.iconst 4, 1) := by decide +kernel
theorem dX5_init_25 : decode cX5_init 25 = .ok (.newarray .boolean, 2) := by decide +kernel
theorem dX5_init_27 : decode cX5_init 27 = .ok (.putfield 23, 3) := by decide +kernel
theorem dX5_init_30 : decode cX5_init 30 = .ok (.return_, 1) := by decide +kernel
set_option maxRecDepth 20000 in
theorem ggX5_start_X2_holds : GoodIn wsX5_start wsX2_holds := goodIn_r _ [9, 10, 11, 12, 13, 8, 14, 15, 21, 22] (by decide +kernel) (by decide +kernel)
set_option maxRecDepth 20000 in
theorem gX5_start_X2_holds : GoodIn wsX5_start (wsV RX5 26 RX2 yX2_holds wsX2_holds) := goodIn_app (goodIn_of _ (by decide +kernel)) ggX5_start_X2_holds
set_option maxRecDepth 20000 in
theorem ggX5_start_X2_positionOf : GoodIn wsX5_start wsX2_positionOf := goodIn_r _ [14, 10, 15, 21, 22] (by decide +kernel) (by decide +kernel)
set_option maxRecDepth 20000 in
theorem gX5_start_X2_positionOf : GoodIn wsX5_start (wsV RX5 32 RX2 yX2_positionOf wsX2_positionOf) := goodIn_app (goodIn_of _ (by decide +kernel)) ggX5_start_X2_positionOf
theorem dX5_start_0 : decode cX5_start 0 = .ok (.aload_n 0, 1) := by decide +kernel
theorem dX5_start_1 : decode cX5_start 1 = .ok (.iload_n 1, 1) := by decide +kernel
theorem dX5_start_2 : decode cX5_start 2 = .ok (.putfield 9, 3) := by decide +kernel
theorem dX5_start_5 : decode cX5_start 5 = .ok (.iconst 0, 1) := by decide +kernel
theorem dX5_start_6 : decode cX5_start 6 = .ok (.istore_n 3, 1) := by decide +kernel
theorem dX5_start_7 : decode cX5_start 7 = .ok (.iload_n 3, 1) := by decide +kernel
theorem dX5_start_8 : decode cX5_start 8 = .ok (.iconst 4, 1) := by decide +kernel
theorem dX5_start_9 : decode cX5_start 9 = .ok (.if_icmp .ge 48, 3) := by decide +kernel
theorem dX5_start_12 : decode cX5_start 12 = .ok (.aload_n 0, 1) := by decide +kernel
theorem dX5_start_13 : decode cX5_start 13 = .ok (.getfield 15, 3) := by decide +kernel
theorem dX5_start_16 : decode cX5_start 16 = .ok (.iload_n 3, 1) := by decide +kernel
theorem dX5_start_17 : decode cX5_start 17 = .ok (.aload_n 2, 1) := by decide +kernel
theorem dX5_start_18 : decode cX5_start 18 = .ok (.iload_n 3, 1) := by decide +kernel
theorem dX5_start_19 : decode cX5_start 19 = .ok (.invokevirtual 26, 3) := by decide +kernel
theorem dX5_start_22 : decode cX5_start 22 = .ok (.ifCond .eq 11, 3) := by decide +kernel
theorem dX5_start_25 : decode cX5_start 25 = .ok (.aload_n 2, 1) := by decide +kernel
theorem dX5_start_26 : decode cX5_start 26 = .ok (.iload_n 3, 1) := by decide +kernel
theorem dX5_start_27 : decode cX5_start 27 = .ok (.invokevirtual 32, 3) := by decide +kernel
theorem dX5_start_30 : decode cX5_start 30 = .ok (.goto 6, 3) := by decide +kernel
theorem dX5_start_33 : decode cX5_start 33 = .ok (.iconst 4, 1) := by decide +kernel
theorem dX5_start_34 : decode cX5_start 34 = .ok (.iload_n 3, 1) := by decide +kernel
theorem dX5_start_35 : decode cX5_start 35 = .ok (.iadd, 1) := by decide +kernel
theorem dX5_start_36 : decode cX5_start 36 = .ok (.iastore, 1) := by decide +kernel
theorem dX5_start_37 : decode cX5_start 37 = .ok (.aload_n 0, 1) := by decide +kernel
theorem dX5_start_38 : decode cX5_start 38 = .ok (.getfield 19, 3) := by decide +kernel
theorem dX5_start_41 : decode cX5_start 41 = .ok (.iload_n 3, 1) := by decide +kernel
theorem dX5_start_42 : decode cX5_start 42 = .ok (.iconst 0, 1) := by decide +kernel
theorem dX5_start_43 : decode cX5_start 43 = .ok (.bastore, 1) := by decide +kernel
theorem dX5_start_44 : decode cX5_start 44 = .ok (.aload_n 0, 1) := by decide +kernel
theorem dX5_start_45 : decode cX5_start 45 = .ok (.getfield 23, 3) := by decide +kernel
theorem dX5_start_48 : decode cX5_start 48 = .ok (.iload_n 3, 1) := by decide +kernel
theorem dX5_start_49 : decode cX5_start 49 = .ok (.iconst 0, 1) := by decide +kernel
theorem dX5_start_50 : decode cX5_start 50 = .ok (.bastore, 1) := by decide +kernel
theorem dX5_start_51 : decode cX5_start 51 = .ok (.iinc 3 1, 3) := by decide +kernel
theorem dX5_start_54 : decode cX5_start 54 = .ok (.goto (-47), 3) := by decide +kernel
theorem dX5_start_57 : decode cX5_start 57 = .ok (.return_, 1) := by decide +kernel
theorem dX5_end_0 : decode cX5_end 0 = .ok (.aload_n 0, 1) := by decide +kernel
theorem dX5_end_1 : decode cX5_end 1 = .ok (.getfield 9, 3) := by decide +kernel
theorem dX5_end_4 : decode cX5_end 4 = .ok (.iconst (-1), 1) := by decide +kernel
theorem dX5_end_5 : decode cX5_end 5 = .ok (.if_icmp .eq 7, 3) := by decide +kernel
theorem dX5_end_8 : decode cX5_end 8 = .ok (.iconst 1, 1) := by decide +kernel
theorem dX5_end_9 : decode cX5_end 9 = .ok (.goto 4, 3) := by decide +kernel
theorem dX5_end_12 : decode cX5_end 12 = .ok (.iconst 0, 1) := by decide +kernel
theorem dX5_end_13 : decode cX5_end 13 = .ok (.istore_n 1, 1) := by decide +kernel
theorem dX5_end_14 : decode cX5_end 14 = .ok (.aload_n 0, 1) := by decide +kernel
theorem dX5_end_15 : decode cX5_end 15 = .ok (.iconst (-1), 1) := by decide +kernel
theorem dX5_end_16 : decode cX5_end 16 = .ok (.putfield 9, 3) := by decide +kernel
theorem dX5_end_19 : decode cX5_end 19 = .ok (.iload_n 1, 1) := by decide +kernel
theorem dX5_end_20 : decode cX5_end 20 = .ok (.ireturn, 1) := by decide +kernel
theorem dX5_ride_0 : decode cX5_ride 0 = .ok (.aload_n 0, 1) := by decide +kernel
theorem dX5_ride_1 : decode cX5_ride 1 = .ok (.getfield 19, 3) := by decide +kernel
theorem dX5_ride_4 : decode cX5_ride 4 = .ok (.iload_n 1, 1) := by decide +kernel
theorem dX5_ride_5 : decode cX5_ride 5 = .ok (.iconst 1, 1) := by decide +kernel
theorem dX5_ride_6 : decode cX5_ride 6 = .ok (.bastore, 1) := by decide +kernel
theorem dX5_ride_7 : decode cX5_ride 7 = .ok (.iload_n 1, 1) := by decide +kernel
theorem dX5_ride_8 : decode cX5_ride 8 = .ok (.istore_n 3, 1) := by decide +kernel
theorem dX5_ride_9 : decode cX5_ride 9 = .ok (.iconst 0, 1) := by decide +kernel
theorem dX5_ride_10 : decode cX5_ride 10 = .ok (.istore 4, 2) := by decide +kernel
theorem dX5_ride_12 : decode cX5_ride 12 = .ok (.iload 4, 2) := by decide +kernel
theorem dX5_ride_14 : decode cX5_ride 14 = .ok (.iconst 4, 1) := by decide +kernel
theorem dX5_ride_15 : decode cX5_ride 15 = .ok (.if_icmp .ge 38, 3) := by decide +kernel
theorem dX5_ride_18 : decode cX5_ride 18 = .ok (.aload_n 0, 1) := by decide +kernel
theorem dX5_ride_19 : decode cX5_ride 19 = .ok (.getfield 19, 3) := by decide +kernel
theorem dX5_ride_22 : decode cX5_ride 22 = .ok (.iload 4, 2) := by decide +kernel
theorem dX5_ride_24 : decode cX5_ride 24 = .ok (.baload, 1) := by decide +kernel
theorem dX5_ride_25 : decode cX5_ride 25 = .ok (.ifCond .eq 22, 3) := by decide +kernel
theorem dX5_ride_28 : decode cX5_ride 28 = .ok (.aload_n 0, 1) := by decide +kernel
theorem dX5_ride_29 : decode cX5_ride 29 = .ok (.getfield 15, 3) := by decide +kernel
theorem dX5_ride_32 : decode cX5_ride 32 = .ok (.iload 4, 2) := by decide +kernel
theorem dX5_ride_34 : decode cX5_ride 34 = .ok (.iaload, 1) := by decide +kernel
theorem dX5_ride_35 : decode cX5_ride 35 = .ok (.aload_n 0, 1) := by decide +kernel
theorem dX5_ride_36 : decode cX5_ride 36 = .ok (.getfield 15, 3) := by decide +kernel
theorem dX5_ride_39 : decode cX5_ride 39 = .ok (.iload_n 3, 1) := by decide +kernel
theorem dX5_ride_40 : decode cX5_ride 40 = .ok (.iaload, 1) := by decide +kernel
theorem dX5_ride_41 : decode cX5_ride 41 = .ok (.if_icmp .ge 6, 3) := by decide +kernel
theorem dX5_ride_44 : decode cX5_ride 44 = .ok (.iload 4, 2) := by decide +kernel
theorem dX5_ride_46 : decode cX5_ride 46 = .ok (.istore_n 3, 1) := by decide +kernel
theorem dX5_ride_47 : decode cX5_ride 47 = .ok (.iinc 4 1, 3) := by decide +kernel
theorem dX5_ride_50 : decode cX5_ride 50 = .ok (.goto (-38), 3) := by decide +kernel
theorem dX5_ride_53 : decode cX5_ride 53 = .ok (.iconst 0, 1) := by decide +kernel
theorem dX5_ride_54 : decode cX5_ride 54 = .ok (.istore 4, 2) := by decide +kernel
theorem dX5_ride_56 : decode cX5_ride 56 = .ok (.iload 4, 2) := by decide +kernel
theorem dX5_ride_58 : decode cX5_ride 58 = .ok (.iconst 4, 1) := by decide +kernel
theorem dX5_ride_59 : decode cX5_ride 59 = .ok (.if_icmp .ge 51, 3) := by decide +kernel
theorem dX5_ride_62 : decode cX5_ride 62 = .ok (.aload_n 0, 1) := by decide +kernel
theorem dX5_ride_63 : decode cX5_ride 63 = .ok (.getfield 19, 3) := by decide +kernel
theorem dX5_ride_66 : decode cX5_ride 66 = .ok (.iload 4, 2) := by decide +kernel
theorem dX5_ride_68 : decode cX5_ride 68 = .ok (.baload, 1) := by decide +kernel
theorem dX5_ride_69 : decode cX5_ride 69 = .ok (.ifCond .eq 35, 3) := by decide +kernel
theorem dX5_ride_72 : decode cX5_ride 72 = .ok (.iload 4, 2) := by decide +kernel
theorem dX5_ride_74 : decode cX5_ride 74 = .ok (.iload_n 3, 1) := by decide +kernel
theorem dX5_ride_75 : decode cX5_ride 75 = .ok (.if_icmp .eq 29, 3) := by decide +kernel
theorem dX5_ride_78 : decode cX5_ride 78 = .ok (.aload_n 0, 1) := by decide +kernel
theorem dX5_ride_79 : decode cX5_ride 79 = .ok (.getfield 23, 3) := by decide +kernel
theorem dX5_ride_82 : decode cX5_ride 82 = .ok (.iload 4, 2) := by decide +kernel
theorem dX5_ride_84 : decode cX5_ride 84 = .ok (.baload, 1) := by decide +kernel
theorem dX5_ride_85 : decode cX5_ride 85 = .ok (.ifCond .ne 19, 3) := by decide +kernel
theorem dX5_ride_88 : decode cX5_ride 88 = .ok (.aload_n 0, 1) := by decide +kernel
theorem dX5_ride_89 : decode cX5_ride 89 = .ok (.getfield 23, 3) := by decide +kernel
theorem dX5_ride_92 : decode cX5_ride 92 = .ok (.iload 4, 2) := by decide +kernel
theorem dX5_ride_94 : decode cX5_ride 94 = .ok (.iconst 1, 1) := by decide +kernel
theorem dX5_ride_95 : decode cX5_ride 95 = .ok (.bastore, 1) := by decide +kernel
theorem dX5_ride_96 : decode cX5_ride 96 = .ok (.aload_n 2, 1) := by decide +kernel
theorem dX5_ride_97 : decode cX5_ride 97 = .ok (.iload 4, 2) := by decide +kernel
theorem dX5_ride_99 : decode cX5_ride 99 = .ok (.dup2, 1) := by decide +kernel
theorem dX5_ride_100 : decode cX5_ride 100 = .ok (.iaload, 1) := by decide +kernel
theorem dX5_ride_101 : decode cX5_ride 101 = .ok (.iconst 1, 1) := by decide +kernel
theorem dX5_ride_102 : decode cX5_ride 102 = .ok (.iadd, 1) := by decide +kernel
theorem dX5_ride_103 : decode cX5_ride 103 = .ok (.iastore, 1) := by decide +kernel
theorem dX5_ride_104 : decode cX5_ride 104 = .ok (.iinc 4 1, 3) := by decide +kernel
theorem dX5_ride_107 : decode cX5_ride 107 = .ok (.goto (-51), 3) := by decide +kernel
theorem dX5_ride_110 : decode cX5_ride 110 = .ok (.return_, 1) := by decide +kernel
set_option maxRecDepth 20000 in
theorem ggX6_init_X1_init : GoodIn wsX6_init wsX1_init := goodIn_r _ [18, 19, 2, 3, 20, 21, 22, 23, 24, 25, 26, 27, 28, 29, 30, 31, 32, 33, 34, 35, 36, 37, 38, 39, 40, 41, 42, 43, 44, 45, 46, 47, 48, 49, 50, 51, 52, 53, 54, 55, 56, 57, 58, 59, 6, 60, 61, 62, 63, 64, 65, 66, 67, 68, 69, 70, 71, 72, 73, 74, 75, 76, 77, 78, 79, 80, 121, 122, 123, 124, 125, 126, 127, 128, 129, 130, 131, 143, 144, 145, 146, 147, 148, 149, 150, 151, 152] (by decide +kernel) (by decide +kernel)
set_option maxRecDepth 20000 in
theorem gX6_init_X1_init : GoodIn wsX6_init (wsX1_init) := ggX6_init_X1_init
set_option maxRecDepth 20000 in
theorem ggX6_init_X3_init : GoodIn wsX6_init wsX3_init := goodIn_r _ [82, 83, 2, 3, 20, 84, 135, 136] (by decide +kernel) (by decide +kernel)
set_option maxRecDepth 20000 in
theorem gX6_init_X3_init_n18 : GoodIn wsX6_init (wsX3_init) := ggX6_init_X3_init
set_option maxRecDepth 20000 in
theorem ggX6_init_X4_init : GoodIn wsX6_init wsX4_init := goodIn_r _ [87, 88, 2, 3, 20, 89, 90, 91, 92, 93, 94, 95, 96, 97, 98, 14, 99, 100, 101, 102, 103, 104, 105, 106, 107, 108, 109, 110, 111, 112, 113, 114, 115, 116, 117, 118, 119, 120, 137, 138, 139, 140, 141, 142] (by decide +kernel) (by decide +kernel)
set_option maxRecDepth 20000 in
theorem gX6_init_X4_init : GoodIn wsX6_init (wsX4_init) := ggX6_init_X4_init
theorem dX6_init_0 : decode cX6_init 0 = .ok (.aload_n 0, 1) := by decide +kernel
theorem dX6_init_1 : decode cX6_init 1 = .ok (.invokespecial 1, 3) := by decide +kernel
theorem dX6_init_4 : decode cX6_init 4 = .ok (.aload_n 0, 1) := by decide +kernel
theorem dX6_init_5 : decode cX6_init 5 = .ok (.new 7, 3) := by decide +kernel
theorem dX6_init_8 : decode cX6_init 8 = .ok (.dup, 1) := by decide +kernel
theorem dX6_init_9 : decode cX6_init 9 = .ok (.invokespecial 9, 3) := by decide +kernel
theorem dX6_init_12 : decode cX6_init 12 = .ok (.putfield 10, 3) := by decide +kernel
theorem dX6_init_15 : decode cX6_init 15 = .ok (.aload_n 0, 1) := by decide +kernel
theorem dX6_init_16 : decode cX6_init 16 = .ok (.new 16, 3) := by decide +kernel
theorem dX6_init_19 : decode cX6_init 19 = .ok (.dup, 1) := by decide +kernel
theorem dX6_init_20 : decode cX6_init 20 = .ok (.invokespecial 18, 3) := by decide +kernel
theorem dX6_init_23 : decode cX6_init 23 = .ok (.putfield 19, 3) := by decide +kernel
theorem dX6_init_26 : decode cX6_init 26 = .ok (.aload_n 0, 1) := by decide +kernel
theorem dX6_init_27 : decode cX6_init 27 = .ok (.new 23, 3) := by decide +kernel
theorem dX6_init_30 : decode cX6_init 30 = .ok (.dup, 1) := by decide +kernel
theorem dX6_init_31 : decode cX6_init 31 = .ok (.invokespecial 25, 3) := by decide +kernel
theorem dX6_init_34 : decode cX6_init 34 = .ok (.putfield 26, 3) := by decide +kernel
theorem dX6_init_37 : decode cX6_init 37 = .ok (.return_, 1) := by decide +kernel
set_option maxRecDepth 20000 in
theorem ggX6_heat_X1_begin : GoodIn wsX6_heat wsX1_begin := goodIn_r _ [6, 7, 8, 9, 10, 11, 12, 13, 14, 15, 16, 17, 18, 19, 20, 21, 22, 23, 24, 25, 26, 27, 28, 29, 30, 31, 32, 33, 34, 35, 39, 40, 41, 42, 43, 44, 45, 46, 47, 48, 49, 50, 51, 52, 53, 54, 55, 56, 57, 58, 59] (by decide +kernel) (by decide +kernel)
set_option maxRecDepth 20000 in
theorem gX6_heat_X1_begin : GoodIn wsX6_heat (wsV RX6 30 RX1 yX1_begin wsX1_begin) := goodIn_app (goodIn_of _ (by decide +kernel)) ggX6_heat_X1_begin
theorem dX6_heat_0 : decode cX6_heat 0 = .ok (.iload_n 1, 1) := by decide +kernel
theorem dX6_heat_1 : decode cX6_heat 1 = .ok (.iconst 2, 1) := by decide +kernel
theorem dX6_heat_2 : decode cX6_heat 2 = .ok (.if_icmp .lt 8, 3) := by decide +kernel
theorem dX6_heat_5 : decode cX6_heat 5 = .ok (.iload_n 1, 1) := by decide +kernel
theorem dX6_heat_6 : decode cX6_heat 6 = .ok (.iconst 4, 1) := by decide +kernel
theorem dX6_heat_7 : decode cX6_heat 7 = .ok (.if_icmp .le 5, 3) := by decide +kernel
theorem dX6_heat_10 : decode cX6_heat 10 = .ok (.iconst (-1), 1) := by decide +kernel
theorem dX6_heat_11 : decode cX6_heat 11 = .ok (.ireturn, 1) := by decide +kernel
theorem dX6_heat_12 : decode cX6_heat 12 = .ok (.aload_n 0, 1) := by decide +kernel
theorem dX6_heat_13 : decode cX6_heat 13 = .ok (.getfield 10, 3) := by decide +kernel
theorem dX6_heat_16 : decode cX6_heat 16 = .ok (.iload_n 1, 1) := by decide +kernel
theorem dX6_heat_17 : decode cX6_heat 17 = .ok (.invokevirtual 30, 3) := by decide +kernel
theorem dX6_heat_20 : decode cX6_heat 20 = .ok (.iload_n 1, 1) := by decide +kernel
theorem dX6_heat_21 : decode cX6_heat 21 = .ok (.ireturn, 1) := by decide +kernel
set_option maxRecDepth 20000 in
theorem ggX6_take_X1_hasRider : GoodIn wsX6_take wsX1_hasRider := goodIn_r _ [8, 9, 69, 70, 71, 72, 73, 74, 75, 76, 77, 78, 79] (by decide +kernel) (by decide +kernel)
set_option maxRecDepth 20000 in
theorem gX6_take_X1_hasRider : GoodIn wsX6_take (wsV RX6 34 RX1 yX1_hasRider wsX1_hasRider) := goodIn_app (goodIn_of _ (by decide +kernel)) ggX6_take_X1_hasRider
set_option maxRecDepth 20000 in
theorem ggX6_take_X2_holds : GoodIn wsX6_take wsX2_holds := goodIn_r _ [14, 15, 16, 17, 18, 13, 19, 20, 80, 81] (by decide +kernel) (by decide +kernel)
set_option maxRecDepth 20000 in
theorem gX6_take_X2_holds : GoodIn wsX6_take (wsV RX6 42 RX2 yX2_holds wsX2_holds) := goodIn_app (goodIn_of _ (by decide +kernel)) ggX6_take_X2_holds
set_option maxRecDepth 20000 in
theorem ggX6_take_X1_addRide : GoodIn wsX6_take wsX1_addRide := goodIn_r _ [24, 25, 26, 27, 28, 29, 30, 31, 32, 33, 34, 35, 36, 7, 37, 38, 39, 40, 41, 42, 43, 44, 45, 46, 47, 48, 49, 50, 51, 52, 53, 54, 55, 56, 11, 12, 13, 14, 15, 16, 17, 18, 19, 20, 57, 58, 59, 60, 61, 62, 63, 64, 65, 69, 70, 71, 72, 73, 74, 75, 76, 77, 78, 79, 82, 83, 84, 85, 86, 87, 88, 89, 80, 81] (by decide +kernel) (by decide +kernel)
set_option maxRecDepth 20000 in
theorem gX6_take_X1_addRide : GoodIn wsX6_take (wsV RX6 51 RX1 yX1_addRide wsX1_addRide) := goodIn_app (goodIn_of _ (by decide +kernel)) ggX6_take_X1_addRide
theorem dX6_take_0 : decode cX6_take 0 = .ok (.aload_n 0, 1) := by decide +kernel
theorem dX6_take_1 : decode cX6_take 1 = .ok (.getfield 10, 3) := by decide +kernel
theorem dX6_take_4 : decode cX6_take 4 = .ok (.iload_n 1, 1) := by decide +kernel
theorem dX6_take_5 : decode cX6_take 5 = .ok (.invokevirtual 34, 3) := by decide +kernel
theorem dX6_take_8 : decode cX6_take 8 = .ok (.ifCond .eq 13, 3) := by decide +kernel
theorem dX6_take_11 : decode cX6_take 11 = .ok (.iload_n 2, 1) := by decide +kernel
theorem dX6_take_12 : decode cX6_take 12 = .ok (.ifCond .lt 9, 3) := by decide +kernel
theorem dX6_take_15 : decode cX6_take 15 = .ok (.iload_n 2, 1) := by decide +kernel
theorem dX6_take_16 : decode cX6_take 16 = .ok (.bipush 99, 2) := by decide +kernel
theorem dX6_take_18 : decode cX6_take 18 = .ok (.if_icmp .le 5, 3) := by decide +kernel
theorem dX6_take_21 : decode cX6_take 21 = .ok (.iconst (-1), 1) := by decide +kernel
theorem dX6_take_22 : decode cX6_take 22 = .ok (.ireturn, 1) := by decide +kernel
theorem dX6_take_23 : decode cX6_take 23 = .ok (.aload_n 0, 1) := by decide +kernel
theorem dX6_take_24 : decode cX6_take 24 = .ok (.getfield 10, 3) := by decide +kernel
theorem dX6_take_27 : decode cX6_take 27 = .ok (.getfield 38, 3) := by decide +kernel
theorem dX6_take_30 : decode cX6_take 30 = .ok (.iload_n 1, 1) := by decide +kernel
theorem dX6_take_31 : decode cX6_take 31 = .ok (.invokevirtual 42, 3) := by decide +kernel
theorem dX6_take_34 : decode cX6_take 34 = .ok (.ifCond .ne 6, 3) := by decide +kernel
theorem dX6_take_37 : decode cX6_take 37 = .ok (.bipush (-3), 2) := by decide +kernel
theorem dX6_take_39 : decode cX6_take 39 = .ok (.ireturn, 1) := by decide +kernel
theorem dX6_take_40 : decode cX6_take 40 = .ok (.aload_n 0, 1) := by decide +kernel
theorem dX6_take_41 : decode cX6_take 41 = .ok (.getfield 10, 3) := by decide +kernel
theorem dX6_take_44 : decode cX6_take 44 = .ok (.getfield 47, 3) := by decide +kernel
theorem dX6_take_47 : decode cX6_take 47 = .ok (.bipush 30, 2) := by decide +kernel
theorem dX6_take_49 : decode cX6_take 49 = .ok (.if_icmp .lt 6, 3) := by decide +kernel
theorem dX6_take_52 : decode cX6_take 52 = .ok (.bipush (-2), 2) := by decide +kernel
theorem dX6_take_54 : decode cX6_take 54 = .ok (.ireturn, 1) := by decide +kernel
theorem dX6_take_55 : decode cX6_take 55 = .ok (.aload_n 0, 1) := by decide +kernel
theorem dX6_take_56 : decode cX6_take 56 = .ok (.getfield 10, 3) := by decide +kernel
theorem dX6_take_59 : decode cX6_take 59 = .ok (.iload_n 1, 1) := by decide +kernel
theorem dX6_take_60 : decode cX6_take 60 = .ok (.iload_n 2, 1) := by decide +kernel
theorem dX6_take_61 : decode cX6_take 61 = .ok (.invokevirtual 51, 3) := by decide +kernel
theorem dX6_take_64 : decode cX6_take 64 = .ok (.ireturn, 1) := by decide +kernel
set_option maxRecDepth 20000 in
theorem ggX6_back_X1_hasRider : GoodIn wsX6_back wsX1_hasRider := goodIn_r _ [8, 9, 28, 29, 30, 31, 32, 33, 34, 35, 36, 37, 38] (by decide +kernel) (by decide +kernel)
set_option maxRecDepth 20000 in
theorem gX6_back_X1_hasRider : GoodIn wsX6_back (wsV RX6 34 RX1 yX1_hasRider wsX1_hasRider) := goodIn_app (goodIn_of _ (by decide +kernel)) ggX6_back_X1_hasRider
set_option maxRecDepth 20000 in
theorem ggX6_back_X2_holds : GoodIn wsX6_back wsX2_holds := goodIn_r _ [14, 15, 16, 17, 18, 13, 19, 20, 39, 40] (by decide +kernel) (by decide +kernel)
set_option maxRecDepth 20000 in
theorem gX6_back_X2_holds : GoodIn wsX6_back (wsV RX6 42 RX2 yX2_holds wsX2_holds) := goodIn_app (goodIn_of _ (by decide +kernel)) ggX6_back_X2_holds
set_option maxRecDepth 20000 in
theorem ggX6_back_X2_join : GoodIn wsX6_back wsX2_join := goodIn_r _ [24, 15, 20, 39, 40] (by decide +kernel) (by decide +kernel)
set_option maxRecDepth 20000 in
theorem gX6_back_X2_join : GoodIn wsX6_back (wsV RX6 55 RX2 yX2_join wsX2_join) := goodIn_app (goodIn_of _ (by decide +kernel)) ggX6_back_X2_join
theorem dX6_back_0 : decode cX6_back 0 = .ok (.aload_n 0, 1) := by decide +kernel
theorem dX6_back_1 : decode cX6_back 1 = .ok (.getfield 10, 3) := by decide +kernel
theorem dX6_back_4 : decode cX6_back 4 = .ok (.iload_n 1, 1) := by decide +kernel
theorem dX6_back_5 : decode cX6_back 5 = .ok (.invokevirtual 34, 3) := by decide +kernel
theorem dX6_back_8 : decode cX6_back 8 = .ok (.ifCond .ne 5, 3) := by decide +kernel
theorem dX6_back_11 : decode cX6_back 11 = .ok (.iconst (-1), 1) := by decide +kernel
theorem dX6_back_12 : decode cX6_back 12 = .ok (.ireturn, 1) := by decide +kernel
theorem dX6_back_13 : decode cX6_back 13 = .ok (.aload_n 0, 1) := by decide +kernel
theorem dX6_back_14 : decode cX6_back 14 = .ok (.getfield 10, 3) := by decide +kernel
theorem dX6_back_17 : decode cX6_back 17 = .ok (.getfield 38, 3) := by decide +kernel
theorem dX6_back_20 : decode cX6_back 20 = .ok (.iload_n 1, 1) := by decide +kernel
theorem dX6_back_21 : decode cX6_back 21 = .ok (.invokevirtual 42, 3) := by decide +kernel
theorem dX6_back_24 : decode cX6_back 24 = .ok (.ifCond .eq 6, 3) := by decide +kernel
theorem dX6_back_27 : decode cX6_back 27 = .ok (.bipush (-3), 2) := by decide +kernel
theorem dX6_back_29 : decode cX6_back 29 = .ok (.ireturn, 1) := by decide +kernel
theorem dX6_back_30 : decode cX6_back 30 = .ok (.aload_n 0, 1) := by decide +kernel
theorem dX6_back_31 : decode cX6_back 31 = .ok (.getfield 10, 3) := by decide +kernel
theorem dX6_back_34 : decode cX6_back 34 = .ok (.getfield 38, 3) := by decide +kernel
theorem dX6_back_37 : decode cX6_back 37 = .ok (.iload_n 1, 1) := by decide +kernel
theorem dX6_back_38 : decode cX6_back 38 = .ok (.invokevirtual 55, 3) := by decide +kernel
theorem dX6_back_41 : decode cX6_back 41 = .ok (.aload_n 0, 1) := by decide +kernel
theorem dX6_back_42 : decode cX6_back 42 = .ok (.getfield 10, 3) := by decide +kernel
theorem dX6_back_45 : decode cX6_back 45 = .ok (.getfield 38, 3) := by decide +kernel
theorem dX6_back_48 : decode cX6_back 48 = .ok (.getfield 58, 3) := by decide +kernel
theorem dX6_back_51 : decode cX6_back 51 = .ok (.ireturn, 1) := by decide +kernel
set_option maxRecDepth 20000 in
theorem ggX6_letGo_X5_end : GoodIn wsX6_letGo wsX5_end := goodIn_r _ [7, 8, 23, 24, 25, 26] (by decide +kernel) (by decide +kernel)
set_option maxRecDepth 20000 in
theorem gX6_letGo_X5_end : GoodIn wsX6_letGo (wsV RX6 65 RX5 yX5_end wsX5_end) := goodIn_app (goodIn_of _ (by decide +kernel)) ggX6_letGo_X5_end
theorem dX6_letGo_0 : decode cX6_letGo 0 = .ok (.aload_n 0, 1) := by decide +kernel
theorem dX6_letGo_1 : decode cX6_letGo 1 = .ok (.getfield 10, 3) := by decide +kernel
theorem dX6_letGo_4 : decode cX6_letGo 4 = .ok (.getfield 61, 3) := by decide +kernel
theorem dX6_letGo_7 : decode cX6_letGo 7 = .ok (.invokevirtual 65, 3) := by decide +kernel
theorem dX6_letGo_10 : decode cX6_letGo 10 = .ok (.ifCond .eq 7, 3) := by decide +kernel
theorem dX6_letGo_13 : decode cX6_letGo 13 = .ok (.iconst 1, 1) := by decide +kernel
theorem dX6_letGo_14 : decode cX6_letGo 14 = .ok (.goto 4, 3) := by decide +kernel
theorem dX6_letGo_17 : decode cX6_letGo 17 = .ok (.iconst 0, 1) := by decide +kernel
theorem dX6_letGo_18 : decode cX6_letGo 18 = .ok (.ireturn, 1) := by decide +kernel
set_option maxRecDepth 20000 in
theorem ggX6_mark_X1_hasRide : GoodIn wsX6_mark wsX1_hasRide := goodIn_r _ [6, 7, 29, 30, 31, 32, 33, 34, 35, 36, 37, 38, 39] (by decide +kernel) (by decide +kernel)
set_option maxRecDepth 20000 in
theorem gX6_mark_X1_hasRide : GoodIn wsX6_mark (wsV RX6 71 RX1 yX1_hasRide wsX1_hasRide) := goodIn_app (goodIn_of _ (by decide +kernel)) ggX6_mark_X1_hasRide
set_option maxRecDepth 20000 in
theorem ggX6_mark_X1_setMark : GoodIn wsX6_mark wsX1_setMark := goodIn_r _ [11, 12, 13, 14, 15, 5, 16, 17, 18, 19, 20, 21, 22, 23, 24, 25, 29, 30, 31, 32, 33, 34, 35, 36, 37, 38, 39] (by decide +kernel) (by decide +kernel)
set_option maxRecDepth 20000 in
theorem gX6_mark_X1_setMark : GoodIn wsX6_mark (wsV RX6 74 RX1 yX1_setMark wsX1_setMark) := goodIn_app (goodIn_of _ (by decide +kernel)) ggX6_mark_X1_setMark
theorem dX6_mark_0 : decode cX6_mark 0 = .ok (.aload_n 0, 1) := by decide +kernel
theorem dX6_mark_1 : decode cX6_mark 1 = .ok (.getfield 10, 3) := by decide +kernel
theorem dX6_mark_4 : decode cX6_mark 4 = .ok (.iload_n 1, 1) := by decide +kernel
theorem dX6_mark_5 : decode cX6_mark 5 = .ok (.invokevirtual 71, 3) := by decide +kernel
theorem dX6_mark_8 : decode cX6_mark 8 = .ok (.ifCond .eq 23, 3) := by decide +kernel
theorem dX6_mark_11 : decode cX6_mark 11 = .ok (.iload_n 2, 1) := by decide +kernel
theorem dX6_mark_12 : decode cX6_mark 12 = .ok (.ifCond .lt 19, 3) := by decide +kernel
theorem dX6_mark_15 : decode cX6_mark 15 = .ok (.iload_n 2, 1) := by decide +kernel
theorem dX6_mark_16 : decode cX6_mark 16 = .ok (.iconst 5, 1) := by decide +kernel
theorem dX6_mark_17 : decode cX6_mark 17 = .ok (.if_icmp .ge 14, 3) := by decide +kernel
theorem dX6_mark_20 : decode cX6_mark 20 = .ok (.iload_n 3, 1) := by decide +kernel
theorem dX6_mark_21 : decode cX6_mark 21 = .ok (.iconst (-1), 1) := by decide +kernel
theorem dX6_mark_22 : decode cX6_mark 22 = .ok (.if_icmp .lt 9, 3) := by decide +kernel
theorem dX6_mark_25 : decode cX6_mark 25 = .ok (.iload_n 3, 1) := by decide +kernel
theorem dX6_mark_26 : decode cX6_mark 26 = .ok (.bipush 100, 2) := by decide +kernel
theorem dX6_mark_28 : decode cX6_mark 28 = .ok (.if_icmp .le 6, 3) := by decide +kernel
theorem dX6_mark_31 : decode cX6_mark 31 = .ok (.bipush (-9), 2) := by decide +kernel
theorem dX6_mark_33 : decode cX6_mark 33 = .ok (.ireturn, 1) := by decide +kernel
theorem dX6_mark_34 : decode cX6_mark 34 = .ok (.aload_n 0, 1) := by decide +kernel
theorem dX6_mark_35 : decode cX6_mark 35 = .ok (.getfield 10, 3) := by decide +kernel
theorem dX6_mark_38 : decode cX6_mark 38 = .ok (.iload_n 1, 1) := by decide +kernel
theorem dX6_mark_39 : decode cX6_mark 39 = .ok (.iload_n 2, 1) := by decide +kernel
theorem dX6_mark_40 : decode cX6_mark 40 = .ok (.iload_n 3, 1) := by decide +kernel
theorem dX6_mark_41 : decode cX6_mark 41 = .ok (.invokevirtual 74, 3) := by decide +kernel
theorem dX6_mark_44 : decode cX6_mark 44 = .ok (.ireturn, 1) := by decide +kernel
set_option maxRecDepth 20000 in
theorem ggX6_of_X1_hasRide : GoodIn wsX6_of wsX1_hasRide := goodIn_r _ [10, 11, 15, 16, 17, 18, 19, 20, 21, 22, 23, 24, 25] (by decide +kernel) (by decide +kernel)
set_option maxRecDepth 20000 in
theorem gX6_of_X1_hasRide : GoodIn wsX6_of (wsV RX6 71 RX1 yX1_hasRide wsX1_hasRide) := goodIn_app (goodIn_of _ (by decide +kernel)) ggX6_of_X1_hasRide
theorem dX6_of_0 : decode cX6_of 0 = .ok (.aload_n 0, 1) := by decide +kernel
theorem dX6_of_1 : decode cX6_of 1 = .ok (.getfield 10, 3) := by decide +kernel
theorem dX6_of_4 : decode cX6_of 4 = .ok (.iload_n 1, 1) := by decide +kernel
theorem dX6_of_5 : decode cX6_of 5 = .ok (.invokevirtual 71, 3) := by decide +kernel
theorem dX6_of_8 : decode cX6_of 8 = .ok (.ifCond .ne 5, 3) := by decide +kernel
theorem dX6_of_11 : decode cX6_of 11 = .ok (.iconst (-1), 1) := by decide +kernel
theorem dX6_of_12 : decode cX6_of 12 = .ok (.ireturn, 1) := by decide +kernel
theorem dX6_of_13 : decode cX6_of 13 = .ok (.iload_n 2, 1) := by decide +kernel
theorem dX6_of_14 : decode cX6_of 14 = .ok (.tableswitch 70 0 3 #[30, 40, 50, 60], 30) := by decide +kernel
theorem dX6_of_44 : decode cX6_of 44 = .ok (.aload_n 0, 1) := by decide +kernel
theorem dX6_of_45 : decode cX6_of 45 = .ok (.getfield 10, 3) := by decide +kernel
theorem dX6_of_48 : decode cX6_of 48 = .ok (.getfield 78, 3) := by decide +kernel
theorem dX6_of_51 : decode cX6_of 51 = .ok (.iload_n 1, 1) := by decide +kernel
theorem dX6_of_52 : decode cX6_of 52 = .ok (.iaload, 1) := by decide +kernel
theorem dX6_of_53 : decode cX6_of 53 = .ok (.ireturn, 1) := by decide +kernel
theorem dX6_of_54 : decode cX6_of 54 = .ok (.aload_n 0, 1) := by decide +kernel
theorem dX6_of_55 : decode cX6_of 55 = .ok (.getfield 10, 3) := by decide +kernel
theorem dX6_of_58 : decode cX6_of 58 = .ok (.getfield 82, 3) := by decide +kernel
theorem dX6_of_61 : decode cX6_of 61 = .ok (.iload_n 1, 1) := by decide +kernel
theorem dX6_of_62 : decode cX6_of 62 = .ok (.iaload, 1) := by decide +kernel
theorem dX6_of_63 : decode cX6_of 63 = .ok (.ireturn, 1) := by decide +kernel
theorem dX6_of_64 : decode cX6_of 64 = .ok (.aload_n 0, 1) := by decide +kernel
theorem dX6_of_65 : decode cX6_of 65 = .ok (.getfield 10, 3) := by decide +kernel
theorem dX6_of_68 : decode cX6_of 68 = .ok (.getfield 85, 3) := by decide +kernel
theorem dX6_of_71 : decode cX6_of 71 = .ok (.iload_n 1, 1) := by decide +kernel
theorem dX6_of_72 : decode cX6_of 72 = .ok (.iaload, 1) := by decide +kernel
theorem dX6_of_73 : decode cX6_of 73 = .ok (.ireturn, 1) := by decide +kernel
theorem dX6_of_74 : decode cX6_of 74 = .ok (.aload_n 0, 1) := by decide +kernel
theorem dX6_of_75 : decode cX6_of 75 = .ok (.getfield 10, 3) := by decide +kernel
theorem dX6_of_78 : decode cX6_of 78 = .ok (.getfield 88, 3) := by decide +kernel
theorem dX6_of_81 : decode cX6_of 81 = .ok (.iload_n 1, 1) := by decide +kernel
theorem dX6_of_82 : decode cX6_of 82 = .ok (.iaload, 1) := by decide +kernel
theorem dX6_of_83 : decode cX6_of 83 = .ok (.ireturn, 1) := by decide +kernel
theorem dX6_of_84 : decode cX6_of 84 = .ok (.iconst (-1), 1) := by decide +kernel
theorem dX6_of_85 : decode cX6_of 85 = .ok (.ireturn, 1) := by decide +kernel
theorem dX6_line_0 : decode cX6_line 0 = .ok (.iload_n 1, 1) := by decide +kernel
theorem dX6_line_1 : decode cX6_line 1 = .ok (.ifCond .lt 17, 3) := by decide +kernel
theorem dX6_line_4 : decode cX6_line 4 = .ok (.iload_n 1, 1) := by decide +kernel
theorem dX6_line_5 : decode cX6_line 5 = .ok (.aload_n 0, 1) := by decide +kernel
theorem dX6_line_6 : decode cX6_line 6 = .ok (.getfield 10, 3) := by decide +kernel
theorem dX6_line_9 : decode cX6_line 9 = .ok (.getfield 38, 3) := by decide +kernel
theorem dX6_line_12 : decode cX6_line 12 = .ok (.getfield 58, 3) := by decide +kernel
theorem dX6_line_15 : decode cX6_line 15 = .ok (.if_icmp .lt 6, 3) := by decide +kernel
theorem dX6_line_18 : decode cX6_line 18 = .ok (.bipush (-4), 2) := by decide +kernel
theorem dX6_line_20 : decode cX6_line 20 = .ok (.ireturn, 1) := by decide +kernel
theorem dX6_line_21 : decode cX6_line 21 = .ok (.aload_n 0, 1) := by decide +kernel
theorem dX6_line_22 : decode cX6_line 22 = .ok (.getfield 10, 3) := by decide +kernel
theorem dX6_line_25 : decode cX6_line 25 = .ok (.getfield 38, 3) := by decide +kernel
theorem dX6_line_28 : decode cX6_line 28 = .ok (.getfield 91, 3) := by decide +kernel
theorem dX6_line_31 : decode cX6_line 31 = .ok (.iload_n 1, 1) := by decide +kernel
theorem dX6_line_32 : decode cX6_line 32 = .ok (.iaload, 1) := by decide +kernel
theorem dX6_line_33 : decode cX6_line 33 = .ok (.ireturn, 1) := by decide +kernel
set_option maxRecDepth 20000 in
theorem ggX6_told_X1_hasRider : GoodIn wsX6_told wsX1_hasRider := goodIn_r _ [10, 11, 57, 58, 59, 60, 61, 62, 63, 64, 65, 66, 67] (by decide +kernel) (by decide +kernel)
set_option maxRecDepth 20000 in
theorem gX6_told_X1_hasRider : GoodIn wsX6_told (wsV RX6 34 RX1 yX1_hasRider wsX1_hasRider) := goodIn_app (goodIn_of _ (by decide +kernel)) ggX6_told_X1_hasRider
set_option maxRecDepth 20000 in
theorem ggX6_told_X1_tally : GoodIn wsX6_told wsX1_tally := goodIn_r _ [15, 16, 17, 18, 19, 20, 21, 22, 23, 24, 25, 26, 27, 28, 29, 30, 31, 32, 33, 34, 57, 58, 59, 60, 61, 62, 63, 64, 65, 66, 67, 68, 69, 70, 71] (by decide +kernel) (by decide +kernel)
set_option maxRecDepth 20000 in
theorem gX6_told_X1_tally : GoodIn wsX6_told (wsV RX6 94 RX1 yX1_tally wsX1_tally) := goodIn_app (goodIn_of _ (by decide +kernel)) ggX6_told_X1_tally
set_option maxRecDepth 20000 in
theorem ggX6_told_X1_ridesBy : GoodIn wsX6_told wsX1_ridesBy := goodIn_r _ [38, 17, 18, 57, 58, 59, 60, 61, 62, 63, 64, 65, 66, 67] (by decide +kernel) (by decide +kernel)
set_option maxRecDepth 20000 in
theorem gX6_told_X1_ridesBy : GoodIn wsX6_told (wsV RX6 97 RX1 yX1_ridesBy wsX1_ridesBy) := goodIn_app (goodIn_of _ (by decide +kernel)) ggX6_told_X1_ridesBy
set_option maxRecDepth 20000 in
theorem ggX6_told_X0_total : GoodIn wsX6_told wsX0_total := goodIn_r _ [42, 43, 29, 30, 68, 69, 70, 71] (by decide +kernel) (by decide +kernel)
set_option maxRecDepth 20000 in
theorem gX6_told_X0_total : GoodIn wsX6_told (wsV RX6 116 RX0 yX0_total wsX0_total) := goodIn_app (goodIn_of _ (by decide +kernel)) ggX6_told_X0_total
set_option maxRecDepth 20000 in
theorem ggX6_told_X0_placeOf : GoodIn wsX6_told wsX0_placeOf := goodIn_r _ [47, 48, 49, 50, 51, 23, 52, 29, 53, 40, 41, 42, 43, 30, 68, 69, 70, 71] (by decide +kernel) (by decide +kernel)
set_option maxRecDepth 20000 in
theorem gX6_told_X0_placeOf : GoodIn wsX6_told (wsV RX6 119 RX0 yX0_placeOf wsX0_placeOf) := goodIn_app (goodIn_of _ (by decide +kernel)) ggX6_told_X0_placeOf
theorem dX6_told_0 : decode cX6_told 0 = .ok (.aload_n 0, 1) := by decide +kernel
theorem dX6_told_1 : decode cX6_told 1 = .ok (.getfield 10, 3) := by decide +kernel
theorem dX6_told_4 : decode cX6_told 4 = .ok (.iload_n 1, 1) := by decide +kernel
theorem dX6_told_5 : decode cX6_told 5 = .ok (.invokevirtual 34, 3) := by decide +kernel
theorem dX6_told_8 : decode cX6_told 8 = .ok (.ifCond .ne 5, 3) := by decide +kernel
theorem dX6_told_11 : decode cX6_told 11 = .ok (.iconst (-1), 1) := by decide +kernel
theorem dX6_told_12 : decode cX6_told 12 = .ok (.ireturn, 1) := by decide +kernel
theorem dX6_told_13 : decode cX6_told 13 = .ok (.aload_n 0, 1) := by decide +kernel
theorem dX6_told_14 : decode cX6_told 14 = .ok (.getfield 10, 3) := by decide +kernel
theorem dX6_told_17 : decode cX6_told 17 = .ok (.invokevirtual 94, 3) := by decide +kernel
theorem dX6_told_20 : decode cX6_told 20 = .ok (.iload_n 2, 1) := by decide +kernel
theorem dX6_told_21 : decode cX6_told 21 = .ok (.tableswitch 111 0 5 #[39, 48, 61, 74, 87, 99], 39) := by decide +kernel
theorem dX6_told_60 : decode cX6_told 60 = .ok (.aload_n 0, 1) := by decide +kernel
theorem dX6_told_61 : decode cX6_told 61 = .ok (.getfield 10, 3) := by decide +kernel
theorem dX6_told_64 : decode cX6_told 64 = .ok (.iload_n 1, 1) := by decide +kernel
theorem dX6_told_65 : decode cX6_told 65 = .ok (.invokevirtual 97, 3) := by decide +kernel
theorem dX6_told_68 : decode cX6_told 68 = .ok (.ireturn, 1) := by decide +kernel
theorem dX6_told_69 : decode cX6_told 69 = .ok (.aload_n 0, 1) := by decide +kernel
theorem dX6_told_70 : decode cX6_told 70 = .ok (.getfield 10, 3) := by decide +kernel
theorem dX6_told_73 : decode cX6_told 73 = .ok (.getfield 101, 3) := by decide +kernel
theorem dX6_told_76 : decode cX6_told 76 = .ok (.getfield 105, 3) := by decide +kernel
theorem dX6_told_79 : decode cX6_told 79 = .ok (.iload_n 1, 1) := by decide +kernel
theorem dX6_told_80 : decode cX6_told 80 = .ok (.iaload, 1) := by decide +kernel
theorem dX6_told_81 : decode cX6_told 81 = .ok (.ireturn, 1) := by decide +kernel
theorem dX6_told_82 : decode cX6_told 82 = .ok (.aload_n 0, 1) := by decide +kernel
theorem dX6_told_83 : decode cX6_told 83 = .ok (.getfield 10, 3) := by decide +kernel
theorem dX6_told_86 : decode cX6_told 86 = .ok (.getfield 101, 3) := by decide +kernel
theorem dX6_told_89 : decode cX6_told 89 = .ok (.getfield 110, 3) := by decide +kernel
theorem dX6_told_92 : decode cX6_told 92 = .ok (.iload_n 1, 1) := by decide +kernel
theorem dX6_told_93 : decode cX6_told 93 = .ok (.iaload, 1) := by decide +kernel
theorem dX6_told_94 : decode cX6_told 94 = .ok (.ireturn, 1) := by decide +kernel
theorem dX6_told_95 : decode cX6_told 95 = .ok (.aload_n 0, 1) := by decide +kernel
theorem dX6_told_96 : decode cX6_told 96 = .ok (.getfield 10, 3) := by decide +kernel
theorem dX6_told_99 : decode cX6_told 99 = .ok (.getfield 101, 3) := by decide +kernel
theorem dX6_told_102 : decode cX6_told 102 = .ok (.getfield 113, 3) := by decide +kernel
theorem dX6_told_105 : decode cX6_told 105 = .ok (.iload_n 1, 1) := by decide +kernel
theorem dX6_told_106 : decode cX6_told 106 = .ok (.iaload, 1) := by decide +kernel
theorem dX6_told_107 : decode cX6_told 107 = .ok (.ireturn, 1) := by decide +kernel
theorem dX6_told_108 : decode cX6_told 108 = .ok (.aload_n 0, 1) := by decide +kernel
theorem dX6_told_109 : decode cX6_told 109 = .ok (.getfield 10, 3) := by decide +kernel
theorem dX6_told_112 : decode cX6_told 112 = .ok (.getfield 101, 3) := by decide +kernel
theorem dX6_told_115 : decode cX6_told 115 = .ok (.iload_n 1, 1) := by decide +kernel
theorem dX6_told_116 : decode cX6_told 116 = .ok (.invokevirtual 116, 3) := by decide +kernel
theorem dX6_told_119 : decode cX6_told 119 = .ok (.ireturn, 1) := by decide +kernel
theorem dX6_told_120 : decode cX6_told 120 = .ok (.aload_n 0, 1) := by decide +kernel
theorem dX6_told_121 : decode cX6_told 121 = .ok (.getfield 10, 3) := by decide +kernel
theorem dX6_told_124 : decode cX6_told 124 = .ok (.getfield 101, 3) := by decide +kernel
theorem dX6_told_127 : decode cX6_told 127 = .ok (.iload_n 1, 1) := by decide +kernel
theorem dX6_told_128 : decode cX6_told 128 = .ok (.invokevirtual 119, 3) := by decide +kernel
theorem dX6_told_131 : decode cX6_told 131 = .ok (.ireturn, 1) := by decide +kernel
theorem dX6_told_132 : decode cX6_told 132 = .ok (.iconst (-1), 1) := by decide +kernel
theorem dX6_told_133 : decode cX6_told 133 = .ok (.ireturn, 1) := by decide +kernel
set_option maxRecDepth 20000 in
theorem ggX6_need_X1_hasRider : GoodIn wsX6_need wsX1_hasRider := goodIn_r _ [6, 7, 55, 56, 57, 58, 59, 60, 61, 62, 63, 64, 65] (by decide +kernel) (by decide +kernel)
set_option maxRecDepth 20000 in
theorem gX6_need_X1_hasRider : GoodIn wsX6_need (wsV RX6 34 RX1 yX1_hasRider wsX1_hasRider) := goodIn_app (goodIn_of _ (by decide +kernel)) ggX6_need_X1_hasRider
set_option maxRecDepth 20000 in
theorem ggX6_need_X1_leastScoreFor : GoodIn wsX6_need wsX1_leastScoreFor := goodIn_r _ [11, 12, 13, 14, 15, 16, 17, 5, 18, 19, 20, 21, 22, 23, 24, 25, 26, 27, 28, 29, 30, 31, 32, 33, 34, 35, 36, 37, 38, 39, 40, 41, 42, 43, 44, 45, 46, 47, 48, 49, 50, 51, 55, 56, 57, 58, 59, 60, 61, 62, 63, 64, 65, 66, 67, 68, 69] (by decide +kernel) (by decide +kernel)
set_option maxRecDepth 20000 in
theorem gX6_need_X1_leastScoreFor : GoodIn wsX6_need (wsV RX6 122 RX1 yX1_leastScoreFor wsX1_leastScoreFor) := goodIn_app (goodIn_of _ (by decide +kernel)) ggX6_need_X1_leastScoreFor
theorem dX6_need_0 : decode cX6_need 0 = .ok (.aload_n 0, 1) := by decide +kernel
theorem dX6_need_1 : decode cX6_need 1 = .ok (.getfield 10, 3) := by decide +kernel
theorem dX6_need_4 : decode cX6_need 4 = .ok (.iload_n 1, 1) := by decide +kernel
theorem dX6_need_5 : decode cX6_need 5 = .ok (.invokevirtual 34, 3) := by decide +kernel
theorem dX6_need_8 : decode cX6_need 8 = .ok (.ifCond .eq 12, 3) := by decide +kernel
theorem dX6_need_11 : decode cX6_need 11 = .ok (.iload_n 2, 1) := by decide +kernel
theorem dX6_need_12 : decode cX6_need 12 = .ok (.ifCond .lt 8, 3) := by decide +kernel
theorem dX6_need_15 : decode cX6_need 15 = .ok (.iload_n 2, 1) := by decide +kernel
theorem dX6_need_16 : decode cX6_need 16 = .ok (.iconst 4, 1) := by decide +kernel
theorem dX6_need_17 : decode cX6_need 17 = .ok (.if_icmp .lt 5, 3) := by decide +kernel
theorem dX6_need_20 : decode cX6_need 20 = .ok (.iconst (-1), 1) := by decide +kernel
theorem dX6_need_21 : decode cX6_need 21 = .ok (.ireturn, 1) := by decide +kernel
theorem dX6_need_22 : decode cX6_need 22 = .ok (.aload_n 0, 1) := by decide +kernel
theorem dX6_need_23 : decode cX6_need 23 = .ok (.getfield 10, 3) := by decide +kernel
theorem dX6_need_26 : decode cX6_need 26 = .ok (.iload_n 1, 1) := by decide +kernel
theorem dX6_need_27 : decode cX6_need 27 = .ok (.iload_n 2, 1) := by decide +kernel
theorem dX6_need_28 : decode cX6_need 28 = .ok (.invokevirtual 122, 3) := by decide +kernel
theorem dX6_need_31 : decode cX6_need 31 = .ok (.ireturn, 1) := by decide +kernel
set_option maxRecDepth 20000 in
theorem ggX6_past_X3_add : GoodIn wsX6_past wsX3_add := goodIn_r _ [7, 8, 9, 13, 14] (by decide +kernel) (by decide +kernel)
set_option maxRecDepth 20000 in
theorem gX6_past_X3_add : GoodIn wsX6_past (wsV RX6 126 RX3 yX3_add wsX3_add) := goodIn_app (goodIn_of _ (by decide +kernel)) ggX6_past_X3_add
theorem dX6_past_0 : decode cX6_past 0 = .ok (.iload_n 1, 1) := by decide +kernel
theorem dX6_past_1 : decode cX6_past 1 = .ok (.ifCond .lt 10, 3) := by decide +kernel
theorem dX6_past_4 : decode cX6_past 4 = .ok (.iload_n 1, 1) := by decide +kernel
theorem dX6_past_5 : decode cX6_past 5 = .ok (.sipush 300, 3) := by decide +kernel
theorem dX6_past_8 : decode cX6_past 8 = .ok (.if_icmp .le 5, 3) := by decide +kernel
theorem dX6_past_11 : decode cX6_past 11 = .ok (.iconst (-1), 1) := by decide +kernel
theorem dX6_past_12 : decode cX6_past 12 = .ok (.ireturn, 1) := by decide +kernel
theorem dX6_past_13 : decode cX6_past 13 = .ok (.aload_n 0, 1) := by decide +kernel
theorem dX6_past_14 : decode cX6_past 14 = .ok (.getfield 19, 3) := by decide +kernel
theorem dX6_past_17 : decode cX6_past 17 = .ok (.getfield 125, 3) := by decide +kernel
theorem dX6_past_20 : decode cX6_past 20 = .ok (.bipush 40, 2) := by decide +kernel
theorem dX6_past_22 : decode cX6_past 22 = .ok (.if_icmp .lt 6, 3) := by decide +kernel
theorem dX6_past_25 : decode cX6_past 25 = .ok (.bipush (-2), 2) := by decide +kernel
theorem dX6_past_27 : decode cX6_past 27 = .ok (.ireturn, 1) := by decide +kernel
theorem dX6_past_28 : decode cX6_past 28 = .ok (.aload_n 0, 1) := by decide +kernel
theorem dX6_past_29 : decode cX6_past 29 = .ok (.getfield 19, 3) := by decide +kernel
theorem dX6_past_32 : decode cX6_past 32 = .ok (.iload_n 1, 1) := by decide +kernel
theorem dX6_past_33 : decode cX6_past 33 = .ok (.invokevirtual 126, 3) := by decide +kernel
theorem dX6_past_36 : decode cX6_past 36 = .ok (.aload_n 0, 1) := by decide +kernel
theorem dX6_past_37 : decode cX6_past 37 = .ok (.getfield 19, 3) := by decide +kernel
theorem dX6_past_40 : decode cX6_past 40 = .ok (.getfield 125, 3) := by decide +kernel
theorem dX6_past_43 : decode cX6_past 43 = .ok (.ireturn, 1) := by decide +kernel
set_option maxRecDepth 20000 in
theorem ggX6_keep_X1_markedRides : GoodIn wsX6_keep wsX1_markedRides := goodIn_r _ [11, 12, 13, 26, 27, 28, 29, 30, 31, 32, 33, 34, 35, 36] (by decide +kernel) (by decide +kernel)
set_option maxRecDepth 20000 in
theorem gX6_keep_X1_markedRides : GoodIn wsX6_keep (wsV RX6 129 RX1 yX1_markedRides wsX1_markedRides) := goodIn_app (goodIn_of _ (by decide +kernel)) ggX6_keep_X1_markedRides
set_option maxRecDepth 20000 in
theorem ggX6_keep_X3_add : GoodIn wsX6_keep wsX3_add := goodIn_r _ [18, 19, 20, 24, 25] (by decide +kernel) (by decide +kernel)
set_option maxRecDepth 20000 in
theorem gX6_keep_X3_add : GoodIn wsX6_keep (wsV RX6 126 RX3 yX3_add wsX3_add) := goodIn_app (goodIn_of _ (by decide +kernel)) ggX6_keep_X3_add
theorem dX6_keep_0 : decode cX6_keep 0 = .ok (.aload_n 0, 1) := by decide +kernel
theorem dX6_keep_1 : decode cX6_keep 1 = .ok (.getfield 10, 3) := by decide +kernel
theorem dX6_keep_4 : decode cX6_keep 4 = .ok (.invokevirtual 129, 3) := by decide +kernel
theorem dX6_keep_7 : decode cX6_keep 7 = .ok (.istore_n 1, 1) := by decide +kernel
theorem dX6_keep_8 : decode cX6_keep 8 = .ok (.aload_n 0, 1) := by decide +kernel
theorem dX6_keep_9 : decode cX6_keep 9 = .ok (.getfield 19, 3) := by decide +kernel
theorem dX6_keep_12 : decode cX6_keep 12 = .ok (.getfield 125, 3) := by decide +kernel
theorem dX6_keep_15 : decode cX6_keep 15 = .ok (.iload_n 1, 1) := by decide +kernel
theorem dX6_keep_16 : decode cX6_keep 16 = .ok (.iadd, 1) := by decide +kernel
theorem dX6_keep_17 : decode cX6_keep 17 = .ok (.bipush 40, 2) := by decide +kernel
theorem dX6_keep_19 : decode cX6_keep 19 = .ok (.if_icmp .le 6, 3) := by decide +kernel
theorem dX6_keep_22 : decode cX6_keep 22 = .ok (.bipush (-2), 2) := by decide +kernel
theorem dX6_keep_24 : decode cX6_keep 24 = .ok (.ireturn, 1) := by decide +kernel
theorem dX6_keep_25 : decode cX6_keep 25 = .ok (.iconst 0, 1) := by decide +kernel
theorem dX6_keep_26 : decode cX6_keep 26 = .ok (.istore_n 2, 1) := by decide +kernel
theorem dX6_keep_27 : decode cX6_keep 27 = .ok (.iload_n 2, 1) := by decide +kernel
theorem dX6_keep_28 : decode cX6_keep 28 = .ok (.aload_n 0, 1) := by decide +kernel
theorem dX6_keep_29 : decode cX6_keep 29 = .ok (.getfield 10, 3) := by decide +kernel
theorem dX6_keep_32 : decode cX6_keep 32 = .ok (.getfield 47, 3) := by decide +kernel
theorem dX6_keep_35 : decode cX6_keep 35 = .ok (.if_icmp .ge 37, 3) := by decide +kernel
theorem dX6_keep_38 : decode cX6_keep 38 = .ok (.aload_n 0, 1) := by decide +kernel
theorem dX6_keep_39 : decode cX6_keep 39 = .ok (.getfield 10, 3) := by decide +kernel
theorem dX6_keep_42 : decode cX6_keep 42 = .ok (.getfield 85, 3) := by decide +kernel
theorem dX6_keep_45 : decode cX6_keep 45 = .ok (.iload_n 2, 1) := by decide +kernel
theorem dX6_keep_46 : decode cX6_keep 46 = .ok (.iaload, 1) := by decide +kernel
theorem dX6_keep_47 : decode cX6_keep 47 = .ok (.ifCond .le 19, 3) := by decide +kernel
theorem dX6_keep_50 : decode cX6_keep 50 = .ok (.aload_n 0, 1) := by decide +kernel
theorem dX6_keep_51 : decode cX6_keep 51 = .ok (.getfield 19, 3) := by decide +kernel
theorem dX6_keep_54 : decode cX6_keep 54 = .ok (.aload_n 0, 1) := by decide +kernel
theorem dX6_keep_55 : decode cX6_keep 55 = .ok (.getfield 10, 3) := by decide +kernel
theorem dX6_keep_58 : decode cX6_keep 58 = .ok (.getfield 88, 3) := by decide +kernel
theorem dX6_keep_61 : decode cX6_keep 61 = .ok (.iload_n 2, 1) := by decide +kernel
theorem dX6_keep_62 : decode cX6_keep 62 = .ok (.iaload, 1) := by decide +kernel
theorem dX6_keep_63 : decode cX6_keep 63 = .ok (.invokevirtual 126, 3) := by decide +kernel
theorem dX6_keep_66 : decode cX6_keep 66 = .ok (.iinc 2 1, 3) := by decide +kernel
theorem dX6_keep_69 : decode cX6_keep 69 = .ok (.goto (-42), 3) := by decide +kernel
theorem dX6_keep_72 : decode cX6_keep 72 = .ok (.iload_n 1, 1) := by decide +kernel
theorem dX6_keep_73 : decode cX6_keep 73 = .ok (.ireturn, 1) := by decide +kernel
theorem dX6_forget_0 : decode cX6_forget 0 = .ok (.aload_n 0, 1) := by decide +kernel
theorem dX6_forget_1 : decode cX6_forget 1 = .ok (.getfield 19, 3) := by decide +kernel
theorem dX6_forget_4 : decode cX6_forget 4 = .ok (.getfield 125, 3) := by decide +kernel
theorem dX6_forget_7 : decode cX6_forget 7 = .ok (.istore_n 1, 1) := by decide +kernel
theorem dX6_forget_8 : decode cX6_forget 8 = .ok (.aload_n 0, 1) := by decide +kernel
theorem dX6_forget_9 : decode cX6_forget 9 = .ok (.getfield 19, 3) := by decide +kernel
theorem dX6_forget_12 : decode cX6_forget 12 = .ok (.iconst 0, 1) := by decide +kernel
theorem dX6_forget_13 : decode cX6_forget 13 = .ok (.putfield 125, 3) := by decide +kernel
theorem dX6_forget_16 : decode cX6_forget 16 = .ok (.iload_n 1, 1) := by decide +kernel
theorem dX6_forget_17 : decode cX6_forget 17 = .ok (.ireturn, 1) := by decide +kernel
set_option maxRecDepth 20000 in
theorem ggX6_chance_X6_isAboveOrBelow : GoodIn wsX6_chance wsX6_isAboveOrBelow := goodIn_r _ [6] (by decide +kernel) (by decide +kernel)
