theorem dX4_goWith_16 : decode cX4_goWith 16 = .ok (.iload_n 3, 1) := by decide +kernel
theorem dX4_goWith_17 : decode cX4_goWith 17 = .ok (.iaload, 1) := by decide +kernel
theorem dX4_goWith_18 : decode cX4_goWith 18 = .ok (.iload_n 1, 1) := by decide +kernel
theorem dX4_goWith_19 : decode cX4_goWith 19 = .ok (.if_icmp .ne 25, 3) := by decide +kernel
theorem dX4_goWith_22 : decode cX4_goWith 22 = .ok (.iload_n 2, 1) := by decide +kernel
theorem dX4_goWith_23 : decode cX4_goWith 23 = .ok (.aload_n 0, 1) := by decide +kernel
theorem dX4_goWith_24 : decode cX4_goWith 24 = .ok (.iload_n 3, 1) := by decide +kernel
theorem dX4_goWith_25 : decode cX4_goWith 25 = .ok (.invokevirtual 35, 3) := by decide +kernel
theorem dX4_goWith_28 : decode cX4_goWith 28 = .ok (.iadd, 1) := by decide +kernel
theorem dX4_goWith_29 : decode cX4_goWith 29 = .ok (.istore_n 2, 1) := by decide +kernel
theorem dX4_goWith_30 : decode cX4_goWith 30 = .ok (.aload_n 0, 1) := by decide +kernel
theorem dX4_goWith_31 : decode cX4_goWith 31 = .ok (.getfield 25, 3) := by decide +kernel
theorem dX4_goWith_34 : decode cX4_goWith 34 = .ok (.iload_n 3, 1) := by decide +kernel
theorem dX4_goWith_35 : decode cX4_goWith 35 = .ok (.iconst 3, 1) := by decide +kernel
theorem dX4_goWith_36 : decode cX4_goWith 36 = .ok (.iastore, 1) := by decide +kernel
theorem dX4_goWith_37 : decode cX4_goWith 37 = .ok (.aload_n 0, 1) := by decide +kernel
theorem dX4_goWith_38 : decode cX4_goWith 38 = .ok (.getfield 28, 3) := by decide +kernel
theorem dX4_goWith_41 : decode cX4_goWith 41 = .ok (.iload_n 3, 1) := by decide +kernel
theorem dX4_goWith_42 : decode cX4_goWith 42 = .ok (.iconst (-1), 1) := by decide +kernel
theorem dX4_goWith_43 : decode cX4_goWith 43 = .ok (.iastore, 1) := by decide +kernel
theorem dX4_goWith_44 : decode cX4_goWith 44 = .ok (.iinc 3 1, 3) := by decide +kernel
theorem dX4_goWith_47 : decode cX4_goWith 47 = .ok (.goto (-43), 3) := by decide +kernel
theorem dX4_goWith_50 : decode cX4_goWith 50 = .ok (.iload_n 2, 1) := by decide +kernel
theorem dX4_goWith_51 : decode cX4_goWith 51 = .ok (.ireturn, 1) := by decide +kernel
theorem dX4_numberOn_0 : decode cX4_numberOn 0 = .ok (.iconst 0, 1) := by decide +kernel
theorem dX4_numberOn_1 : decode cX4_numberOn 1 = .ok (.istore_n 2, 1) := by decide +kernel
theorem dX4_numberOn_2 : decode cX4_numberOn 2 = .ok (.iconst 0, 1) := by decide +kernel
theorem dX4_numberOn_3 : decode cX4_numberOn 3 = .ok (.istore_n 3, 1) := by decide +kernel
theorem dX4_numberOn_4 : decode cX4_numberOn 4 = .ok (.iload_n 3, 1) := by decide +kernel
theorem dX4_numberOn_5 : decode cX4_numberOn 5 = .ok (.aload_n 0, 1) := by decide +kernel
theorem dX4_numberOn_6 : decode cX4_numberOn 6 = .ok (.getfield 31, 3) := by decide +kernel
theorem dX4_numberOn_9 : decode cX4_numberOn 9 = .ok (.if_icmp .ge 22, 3) := by decide +kernel
theorem dX4_numberOn_12 : decode cX4_numberOn 12 = .ok (.aload_n 0, 1) := by decide +kernel
theorem dX4_numberOn_13 : decode cX4_numberOn 13 = .ok (.getfield 28, 3) := by decide +kernel
theorem dX4_numberOn_16 : decode cX4_numberOn 16 = .ok (.iload_n 3, 1) := by decide +kernel
theorem dX4_numberOn_17 : decode cX4_numberOn 17 = .ok (.iaload, 1) := by decide +kernel
theorem dX4_numberOn_18 : decode cX4_numberOn 18 = .ok (.iload_n 1, 1) := by decide +kernel
theorem dX4_numberOn_19 : decode cX4_numberOn 19 = .ok (.if_icmp .ne 6, 3) := by decide +kernel
theorem dX4_numberOn_22 : decode cX4_numberOn 22 = .ok (.iinc 2 1, 3) := by decide +kernel
theorem dX4_numberOn_25 : decode cX4_numberOn 25 = .ok (.iinc 3 1, 3) := by decide +kernel
theorem dX4_numberOn_28 : decode cX4_numberOn 28 = .ok (.goto (-24), 3) := by decide +kernel
theorem dX4_numberOn_31 : decode cX4_numberOn 31 = .ok (.iload_n 2, 1) := by decide +kernel
theorem dX4_numberOn_32 : decode cX4_numberOn 32 = .ok (.ireturn, 1) := by decide +kernel
set_option maxRecDepth 20000 in
theorem ggX4_weightOn_X4_weight : GoodIn wsX4_weightOn wsX4_weight := goodIn_r _ [7, 8, 9, 10, 11, 12, 13, 14, 15] (by decide +kernel) (by decide +kernel)
set_option maxRecDepth 20000 in
theorem gX4_weightOn_X4_weight : GoodIn wsX4_weightOn (wsV RX4 39 RX4 yX4_weight wsX4_weight) := goodIn_app (goodIn_of _ (by decide +kernel)) ggX4_weightOn_X4_weight
theorem dX4_weightOn_0 : decode cX4_weightOn 0 = .ok (.iconst 0, 1) := by decide +kernel
theorem dX4_weightOn_1 : decode cX4_weightOn 1 = .ok (.istore_n 2, 1) := by decide +kernel
theorem dX4_weightOn_2 : decode cX4_weightOn 2 = .ok (.iconst 0, 1) := by decide +kernel
theorem dX4_weightOn_3 : decode cX4_weightOn 3 = .ok (.istore_n 3, 1) := by decide +kernel
theorem dX4_weightOn_4 : decode cX4_weightOn 4 = .ok (.iload_n 3, 1) := by decide +kernel
theorem dX4_weightOn_5 : decode cX4_weightOn 5 = .ok (.aload_n 0, 1) := by decide +kernel
theorem dX4_weightOn_6 : decode cX4_weightOn 6 = .ok (.getfield 31, 3) := by decide +kernel
theorem dX4_weightOn_9 : decode cX4_weightOn 9 = .ok (.if_icmp .ge 27, 3) := by decide +kernel
theorem dX4_weightOn_12 : decode cX4_weightOn 12 = .ok (.aload_n 0, 1) := by decide +kernel
theorem dX4_weightOn_13 : decode cX4_weightOn 13 = .ok (.getfield 28, 3) := by decide +kernel
theorem dX4_weightOn_16 : decode cX4_weightOn 16 = .ok (.iload_n 3, 1) := by decide +kernel
theorem dX4_weightOn_17 : decode cX4_weightOn 17 = .ok (.iaload, 1) := by decide +kernel
theorem dX4_weightOn_18 : decode cX4_weightOn 18 = .ok (.iload_n 1, 1) := by decide +kernel
theorem dX4_weightOn_19 : decode cX4_weightOn 19 = .ok (.if_icmp .ne 11, 3) := by decide +kernel
theorem dX4_weightOn_22 : decode cX4_weightOn 22 = .ok (.iload_n 2, 1) := by decide +kernel
theorem dX4_weightOn_23 : decode cX4_weightOn 23 = .ok (.aload_n 0, 1) := by decide +kernel
theorem dX4_weightOn_24 : decode cX4_weightOn 24 = .ok (.iload_n 3, 1) := by decide +kernel
theorem dX4_weightOn_25 : decode cX4_weightOn 25 = .ok (.invokevirtual 39, 3) := by decide +kernel
theorem dX4_weightOn_28 : decode cX4_weightOn 28 = .ok (.iadd, 1) := by decide +kernel
theorem dX4_weightOn_29 : decode cX4_weightOn 29 = .ok (.istore_n 2, 1) := by decide +kernel
theorem dX4_weightOn_30 : decode cX4_weightOn 30 = .ok (.iinc 3 1, 3) := by decide +kernel
theorem dX4_weightOn_33 : decode cX4_weightOn 33 = .ok (.goto (-29), 3) := by decide +kernel
theorem dX4_weightOn_36 : decode cX4_weightOn 36 = .ok (.iload_n 2, 1) := by decide +kernel
theorem dX4_weightOn_37 : decode cX4_weightOn 37 = .ok (.ireturn, 1) := by decide +kernel
theorem dX4_numberThatAre_0 : decode cX4_numberThatAre 0 = .ok (.iconst 0, 1) := by decide +kernel
theorem dX4_numberThatAre_1 : decode cX4_numberThatAre 1 = .ok (.istore_n 2, 1) := by decide +kernel
theorem dX4_numberThatAre_2 : decode cX4_numberThatAre 2 = .ok (.iconst 0, 1) := by decide +kernel
theorem dX4_numberThatAre_3 : decode cX4_numberThatAre 3 = .ok (.istore_n 3, 1) := by decide +kernel
theorem dX4_numberThatAre_4 : decode cX4_numberThatAre 4 = .ok (.iload_n 3, 1) := by decide +kernel
theorem dX4_numberThatAre_5 : decode cX4_numberThatAre 5 = .ok (.aload_n 0, 1) := by decide +kernel
theorem dX4_numberThatAre_6 : decode cX4_numberThatAre 6 = .ok (.getfield 31, 3) := by decide +kernel
theorem dX4_numberThatAre_9 : decode cX4_numberThatAre 9 = .ok (.if_icmp .ge 22, 3) := by decide +kernel
theorem dX4_numberThatAre_12 : decode cX4_numberThatAre 12 = .ok (.aload_n 0, 1) := by decide +kernel
theorem dX4_numberThatAre_13 : decode cX4_numberThatAre 13 = .ok (.getfield 25, 3) := by decide +kernel
theorem dX4_numberThatAre_16 : decode cX4_numberThatAre 16 = .ok (.iload_n 3, 1) := by decide +kernel
theorem dX4_numberThatAre_17 : decode cX4_numberThatAre 17 = .ok (.iaload, 1) := by decide +kernel
theorem dX4_numberThatAre_18 : decode cX4_numberThatAre 18 = .ok (.iload_n 1, 1) := by decide +kernel
theorem dX4_numberThatAre_19 : decode cX4_numberThatAre 19 = .ok (.if_icmp .ne 6, 3) := by decide +kernel
theorem dX4_numberThatAre_22 : decode cX4_numberThatAre 22 = .ok (.iinc 2 1, 3) := by decide +kernel
theorem dX4_numberThatAre_25 : decode cX4_numberThatAre 25 = .ok (.iinc 3 1, 3) := by decide +kernel
theorem dX4_numberThatAre_28 : decode cX4_numberThatAre 28 = .ok (.goto (-24), 3) := by decide +kernel
theorem dX4_numberThatAre_31 : decode cX4_numberThatAre 31 = .ok (.iload_n 2, 1) := by decide +kernel
theorem dX4_numberThatAre_32 : decode cX4_numberThatAre 32 = .ok (.ireturn, 1) := by decide +kernel
theorem dX4_numberSound_0 : decode cX4_numberSound 0 = .ok (.iconst 0, 1) := by decide +kernel
theorem dX4_numberSound_1 : decode cX4_numberSound 1 = .ok (.istore_n 1, 1) := by decide +kernel
theorem dX4_numberSound_2 : decode cX4_numberSound 2 = .ok (.iconst 0, 1) := by decide +kernel
theorem dX4_numberSound_3 : decode cX4_numberSound 3 = .ok (.istore_n 2, 1) := by decide +kernel
theorem dX4_numberSound_4 : decode cX4_numberSound 4 = .ok (.iload_n 2, 1) := by decide +kernel
theorem dX4_numberSound_5 : decode cX4_numberSound 5 = .ok (.aload_n 0, 1) := by decide +kernel
theorem dX4_numberSound_6 : decode cX4_numberSound 6 = .ok (.getfield 31, 3) := by decide +kernel
theorem dX4_numberSound_9 : decode cX4_numberSound 9 = .ok (.if_icmp .ge 21, 3) := by decide +kernel
theorem dX4_numberSound_12 : decode cX4_numberSound 12 = .ok (.aload_n 0, 1) := by decide +kernel
theorem dX4_numberSound_13 : decode cX4_numberSound 13 = .ok (.getfield 21, 3) := by decide +kernel
theorem dX4_numberSound_16 : decode cX4_numberSound 16 = .ok (.iload_n 2, 1) := by decide +kernel
theorem dX4_numberSound_17 : decode cX4_numberSound 17 = .ok (.baload, 1) := by decide +kernel
theorem dX4_numberSound_18 : decode cX4_numberSound 18 = .ok (.ifCond .ne 6, 3) := by decide +kernel
theorem dX4_numberSound_21 : decode cX4_numberSound 21 = .ok (.iinc 1 1, 3) := by decide +kernel
theorem dX4_numberSound_24 : decode cX4_numberSound 24 = .ok (.iinc 2 1, 3) := by decide +kernel
theorem dX4_numberSound_27 : decode cX4_numberSound 27 = .ok (.goto (-23), 3) := by decide +kernel
theorem dX4_numberSound_30 : decode cX4_numberSound 30 = .ok (.iload_n 1, 1) := by decide +kernel
theorem dX4_numberSound_31 : decode cX4_numberSound 31 = .ok (.ireturn, 1) := by decide +kernel
theorem dX4_numberSoundOf_0 : decode cX4_numberSoundOf 0 = .ok (.iconst 0, 1) := by decide +kernel
theorem dX4_numberSoundOf_1 : decode cX4_numberSoundOf 1 = .ok (.istore_n 2, 1) := by decide +kernel
theorem dX4_numberSoundOf_2 : decode cX4_numberSoundOf 2 = .ok (.iconst 0, 1) := by decide +kernel
theorem dX4_numberSoundOf_3 : decode cX4_numberSoundOf 3 = .ok (.istore_n 3, 1) := by decide +kernel
theorem dX4_numberSoundOf_4 : decode cX4_numberSoundOf 4 = .ok (.iload_n 3, 1) := by decide +kernel
theorem dX4_numberSoundOf_5 : decode cX4_numberSoundOf 5 = .ok (.aload_n 0, 1) := by decide +kernel
theorem dX4_numberSoundOf_6 : decode cX4_numberSoundOf 6 = .ok (.getfield 31, 3) := by decide +kernel
theorem dX4_numberSoundOf_9 : decode cX4_numberSoundOf 9 = .ok (.if_icmp .ge 31, 3) := by decide +kernel
theorem dX4_numberSoundOf_12 : decode cX4_numberSoundOf 12 = .ok (.aload_n 0, 1) := by decide +kernel
theorem dX4_numberSoundOf_13 : decode cX4_numberSoundOf 13 = .ok (.getfield 9, 3) := by decide +kernel
theorem dX4_numberSoundOf_16 : decode cX4_numberSoundOf 16 = .ok (.iload_n 3, 1) := by decide +kernel
theorem dX4_numberSoundOf_17 : decode cX4_numberSoundOf 17 = .ok (.iaload, 1) := by decide +kernel
theorem dX4_numberSoundOf_18 : decode cX4_numberSoundOf 18 = .ok (.iload_n 1, 1) := by decide +kernel
theorem dX4_numberSoundOf_19 : decode cX4_numberSoundOf 19 = .ok (.if_icmp .ne 15, 3) := by decide +kernel
theorem dX4_numberSoundOf_22 : decode cX4_numberSoundOf 22 = .ok (.aload_n 0, 1) := by decide +kernel
theorem dX4_numberSoundOf_23 : decode cX4_numberSoundOf 23 = .ok (.getfield 21, 3) := by decide +kernel
theorem dX4_numberSoundOf_26 : decode cX4_numberSoundOf 26 = .ok (.iload_n 3, 1) := by decide +kernel
theorem dX4_numberSoundOf_27 : decode cX4_numberSoundOf 27 = .ok (.baload, 1) := by decide +kernel
theorem dX4_numberSoundOf_28 : decode cX4_numberSoundOf 28 = .ok (.ifCond .ne 6, 3) := by decide +kernel
theorem dX4_numberSoundOf_31 : decode cX4_numberSoundOf 31 = .ok (.iinc 2 1, 3) := by decide +kernel
theorem dX4_numberSoundOf_34 : decode cX4_numberSoundOf 34 = .ok (.iinc 3 1, 3) := by decide +kernel
theorem dX4_numberSoundOf_37 : decode cX4_numberSoundOf 37 = .ok (.goto (-33), 3) := by decide +kernel
theorem dX4_numberSoundOf_40 : decode cX4_numberSoundOf 40 = .ok (.iload_n 2, 1) := by decide +kernel
theorem dX4_numberSoundOf_41 : decode cX4_numberSoundOf 41 = .ok (.ireturn, 1) := by decide +kernel
set_option maxRecDepth 20000 in
theorem ggX4_fact_X4_weight : GoodIn wsX4_fact wsX4_weight := goodIn_r _ [9, 2, 16, 17, 18, 19, 20, 21, 22] (by decide +kernel) (by decide +kernel)
set_option maxRecDepth 20000 in
theorem gX4_fact_X4_weight : GoodIn wsX4_fact (wsV RX4 39 RX4 yX4_weight wsX4_weight) := goodIn_app (goodIn_of _ (by decide +kernel)) ggX4_fact_X4_weight
set_option maxRecDepth 20000 in
theorem ggX4_fact_X4_worth : GoodIn wsX4_fact wsX4_worth := goodIn_r _ [13, 3, 2, 14, 15, 16, 17, 18, 19, 20, 21, 22] (by decide +kernel) (by decide +kernel)
set_option maxRecDepth 20000 in
theorem gX4_fact_X4_worth : GoodIn wsX4_fact (wsV RX4 35 RX4 yX4_worth wsX4_worth) := goodIn_app (goodIn_of _ (by decide +kernel)) ggX4_fact_X4_worth
theorem dX4_fact_0 : decode cX4_fact 0 = .ok (.iload_n 2, 1) := by decide +kernel
theorem dX4_fact_1 : decode cX4_fact 1 = .ok (.tableswitch 68 0 4 #[35, 42, 49, 55, 62], 35) := by decide +kernel
theorem dX4_fact_36 : decode cX4_fact 36 = .ok (.aload_n 0, 1) := by decide +kernel
theorem dX4_fact_37 : decode cX4_fact 37 = .ok (.getfield 9, 3) := by decide +kernel
theorem dX4_fact_40 : decode cX4_fact 40 = .ok (.iload_n 1, 1) := by decide +kernel
theorem dX4_fact_41 : decode cX4_fact 41 = .ok (.iaload, 1) := by decide +kernel
theorem dX4_fact_42 : decode cX4_fact 42 = .ok (.ireturn, 1) := by decide +kernel
theorem dX4_fact_43 : decode cX4_fact 43 = .ok (.aload_n 0, 1) := by decide +kernel
theorem dX4_fact_44 : decode cX4_fact 44 = .ok (.getfield 18, 3) := by decide +kernel
theorem dX4_fact_47 : decode cX4_fact 47 = .ok (.iload_n 1, 1) := by decide +kernel
theorem dX4_fact_48 : decode cX4_fact 48 = .ok (.iaload, 1) := by decide +kernel
theorem dX4_fact_49 : decode cX4_fact 49 = .ok (.ireturn, 1) := by decide +kernel
theorem dX4_fact_50 : decode cX4_fact 50 = .ok (.aload_n 0, 1) := by decide +kernel
theorem dX4_fact_51 : decode cX4_fact 51 = .ok (.iload_n 1, 1) := by decide +kernel
theorem dX4_fact_52 : decode cX4_fact 52 = .ok (.invokevirtual 39, 3) := by decide +kernel
theorem dX4_fact_55 : decode cX4_fact 55 = .ok (.ireturn, 1) := by decide +kernel
theorem dX4_fact_56 : decode cX4_fact 56 = .ok (.aload_n 0, 1) := by decide +kernel
theorem dX4_fact_57 : decode cX4_fact 57 = .ok (.getfield 25, 3) := by decide +kernel
theorem dX4_fact_60 : decode cX4_fact 60 = .ok (.iload_n 1, 1) := by decide +kernel
theorem dX4_fact_61 : decode cX4_fact 61 = .ok (.iaload, 1) := by decide +kernel
theorem dX4_fact_62 : decode cX4_fact 62 = .ok (.ireturn, 1) := by decide +kernel
theorem dX4_fact_63 : decode cX4_fact 63 = .ok (.aload_n 0, 1) := by decide +kernel
theorem dX4_fact_64 : decode cX4_fact 64 = .ok (.iload_n 1, 1) := by decide +kernel
theorem dX4_fact_65 : decode cX4_fact 65 = .ok (.invokevirtual 35, 3) := by decide +kernel
theorem dX4_fact_68 : decode cX4_fact 68 = .ok (.ireturn, 1) := by decide +kernel
theorem dX4_fact_69 : decode cX4_fact 69 = .ok (.aload_n 0, 1) := by decide +kernel
theorem dX4_fact_70 : decode cX4_fact 70 = .ok (.getfield 28, 3) := by decide +kernel
theorem dX4_fact_73 : decode cX4_fact 73 = .ok (.iload_n 1, 1) := by decide +kernel
theorem dX4_fact_74 : decode cX4_fact 74 = .ok (.iaload, 1) := by decide +kernel
theorem dX4_fact_75 : decode cX4_fact 75 = .ok (.ireturn, 1) := by decide +kernel
set_option maxRecDepth 20000 in
theorem ggX5_init_X2_init : GoodIn wsX5_init wsX2_init := goodIn_r _ [15, 16, 2, 3, 17, 18, 19, 20, 21, 22, 23, 24, 25, 26, 27, 28, 29, 30, 31, 32, 33, 34, 35, 36, 37, 38, 39, 40, 41, 42, 43, 44, 45, 46, 47, 48, 49, 50, 51, 52, 53, 54, 55, 56, 57, 58, 59, 60, 61, 68, 69, 70, 71, 72, 80, 81, 82, 83, 84, 85, 86, 87, 88, 89, 90, 91, 92, 93, 94, 95, 96] (by decide +kernel) (by decide +kernel)
set_option maxRecDepth 20000 in
theorem gX5_init_X2_init : GoodIn wsX5_init (wsX2_init) := ggX5_init_X2_init
set_option maxRecDepth 20000 in
theorem ggX5_init_X3_init : GoodIn wsX5_init wsX3_init := goodIn_r _ [64, 65, 2, 3, 17, 66, 67, 77, 78, 79] (by decide +kernel) (by decide +kernel)
set_option maxRecDepth 20000 in
theorem gX5_init_X3_init : GoodIn wsX5_init (wsX3_init) := ggX5_init_X3_init
theorem dX5_init_0 : decode cX5_init 0 = .ok (.aload_n 0, 1) := by decide +kernel
theorem dX5_init_1 : decode cX5_init 1 = .ok (.invokespecial 1, 3) := by decide +kernel
theorem dX5_init_4 : decode cX5_init 4 = .ok (.aload_n 0, 1) := by decide +kernel
theorem dX5_init_5 : decode cX5_init 5 = .ok (.new 7, 3) := by decide +kernel
theorem dX5_init_8 : decode cX5_init 8 = .ok (.dup, 1) := by decide +kernel
theorem dX5_init_9 : decode cX5_init 9 = .ok (.invokespecial 9, 3) := by decide +kernel
theorem dX5_init_12 : decode cX5_init 12 = .ok (.putfield 10, 3) := by decide +kernel
theorem dX5_init_15 : decode cX5_init 15 = .ok (.aload_n 0, 1) := by decide +kernel
theorem dX5_init_16 : decode cX5_init 16 = .ok (.new 7, 3) := by decide +kernel
theorem dX5_init_19 : decode cX5_init 19 = .ok (.dup, 1) := by decide +kernel
theorem dX5_init_20 : decode cX5_init 20 = .ok (.invokespecial 9, 3) := by decide +kernel
theorem dX5_init_23 : decode cX5_init 23 = .ok (.putfield 16, 3) := by decide +kernel
theorem dX5_init_26 : decode cX5_init 26 = .ok (.aload_n 0, 1) := by decide +kernel
theorem dX5_init_27 : decode cX5_init 27 = .ok (.new 19, 3) := by decide +kernel
theorem dX5_init_30 : decode cX5_init 30 = .ok (.dup, 1) := by decide +kernel
theorem dX5_init_31 : decode cX5_init 31 = .ok (.invokespecial 21, 3) := by decide +kernel
theorem dX5_init_34 : decode cX5_init 34 = .ok (.putfield 22, 3) := by decide +kernel
theorem dX5_init_37 : decode cX5_init 37 = .ok (.return_, 1) := by decide +kernel
set_option maxRecDepth 20000 in
theorem ggX5_setFall_X5_isWithin : GoodIn wsX5_setFall wsX5_isWithin := goodIn_r _ [10] (by decide +kernel) (by decide +kernel)
set_option maxRecDepth 20000 in
theorem gX5_setFall_X5_isWithin : GoodIn wsX5_setFall (va_wsS RX5 26 yX5_isWithin wsX5_isWithin) := goodIn_app (goodIn_of _ (by decide +kernel)) ggX5_setFall_X5_isWithin
theorem dX5_setFall_0 : decode cX5_setFall 0 = .ok (.iload_n 1, 1) := by decide +kernel
theorem dX5_setFall_1 : decode cX5_setFall 1 = .ok (.iconst 0, 1) := by decide +kernel
theorem dX5_setFall_2 : decode cX5_setFall 2 = .ok (.bipush 8, 2) := by decide +kernel
theorem dX5_setFall_4 : decode cX5_setFall 4 = .ok (.invokestatic 26, 3) := by decide +kernel
theorem dX5_setFall_7 : decode cX5_setFall 7 = .ok (.ifCond .ne 13, 3) := by decide +kernel
theorem dX5_setFall_10 : decode cX5_setFall 10 = .ok (.new 30, 3) := by decide +kernel
theorem dX5_setFall_13 : decode cX5_setFall 13 = .ok (.dup, 1) := by decide +kernel
theorem dX5_setFall_14 : decode cX5_setFall 14 = .ok (.ldc 32, 2) := by decide +kernel
theorem dX5_setFall_16 : decode cX5_setFall 16 = .ok (.invokespecial 34, 3) := by decide +kernel
theorem dX5_setFall_19 : decode cX5_setFall 19 = .ok (.athrow, 1) := by decide +kernel
theorem dX5_setFall_20 : decode cX5_setFall 20 = .ok (.iload_n 2, 1) := by decide +kernel
theorem dX5_setFall_21 : decode cX5_setFall 21 = .ok (.iconst 0, 1) := by decide +kernel
theorem dX5_setFall_22 : decode cX5_setFall 22 = .ok (.bipush 9, 2) := by decide +kernel
theorem dX5_setFall_24 : decode cX5_setFall 24 = .ok (.invokestatic 26, 3) := by decide +kernel
theorem dX5_setFall_27 : decode cX5_setFall 27 = .ok (.ifCond .ne 13, 3) := by decide +kernel
theorem dX5_setFall_30 : decode cX5_setFall 30 = .ok (.new 37, 3) := by decide +kernel
theorem dX5_setFall_33 : decode cX5_setFall 33 = .ok (.dup, 1) := by decide +kernel
theorem dX5_setFall_34 : decode cX5_setFall 34 = .ok (.ldc 39, 2) := by decide +kernel
theorem dX5_setFall_36 : decode cX5_setFall 36 = .ok (.invokespecial 41, 3) := by decide +kernel
theorem dX5_setFall_39 : decode cX5_setFall 39 = .ok (.athrow, 1) := by decide +kernel
theorem dX5_setFall_40 : decode cX5_setFall 40 = .ok (.aload_n 0, 1) := by decide +kernel
theorem dX5_setFall_41 : decode cX5_setFall 41 = .ok (.getfield 10, 3) := by decide +kernel
theorem dX5_setFall_44 : decode cX5_setFall 44 = .ok (.getfield 42, 3) := by decide +kernel
theorem dX5_setFall_47 : decode cX5_setFall 47 = .ok (.iload_n 1, 1) := by decide +kernel
theorem dX5_setFall_48 : decode cX5_setFall 48 = .ok (.iaload, 1) := by decide +kernel
theorem dX5_setFall_49 : decode cX5_setFall 49 = .ok (.istore_n 3, 1) := by decide +kernel
theorem dX5_setFall_50 : decode cX5_setFall 50 = .ok (.aload_n 0, 1) := by decide +kernel
theorem dX5_setFall_51 : decode cX5_setFall 51 = .ok (.getfield 10, 3) := by decide +kernel
theorem dX5_setFall_54 : decode cX5_setFall 54 = .ok (.getfield 42, 3) := by decide +kernel
theorem dX5_setFall_57 : decode cX5_setFall 57 = .ok (.iload_n 1, 1) := by decide +kernel
theorem dX5_setFall_58 : decode cX5_setFall 58 = .ok (.iload_n 2, 1) := by decide +kernel
theorem dX5_setFall_59 : decode cX5_setFall 59 = .ok (.iastore, 1) := by decide +kernel
theorem dX5_setFall_60 : decode cX5_setFall 60 = .ok (.iload_n 3, 1) := by decide +kernel
theorem dX5_setFall_61 : decode cX5_setFall 61 = .ok (.ireturn, 1) := by decide +kernel
set_option maxRecDepth 20000 in
theorem ggX5_open_X5_isWithin : GoodIn wsX5_open wsX5_isWithin := goodIn_r _ [11] (by decide +kernel) (by decide +kernel)
set_option maxRecDepth 20000 in
theorem gX5_open_X5_isWithin : GoodIn wsX5_open (va_wsS RX5 26 yX5_isWithin wsX5_isWithin) := goodIn_app (goodIn_of _ (by decide +kernel)) ggX5_open_X5_isWithin
set_option maxRecDepth 20000 in
theorem ggX5_open_X0_add : GoodIn wsX5_open wsX0_add := goodIn_r _ [16, 17, 18, 19, 20, 30, 31, 32, 33, 34] (by decide +kernel) (by decide +kernel)
set_option maxRecDepth 20000 in
theorem gX5_open_X0_add : GoodIn wsX5_open (wsV RX5 63 RX0 yX0_add wsX0_add) := goodIn_app (goodIn_of _ (by decide +kernel)) ggX5_open_X0_add
theorem dX5_open_0 : decode cX5_open 0 = .ok (.iload_n 1, 1) := by decide +kernel
theorem dX5_open_1 : decode cX5_open 1 = .ok (.iconst 1, 1) := by decide +kernel
theorem dX5_open_2 : decode cX5_open 2 = .ok (.bipush 9, 2) := by decide +kernel
theorem dX5_open_4 : decode cX5_open 4 = .ok (.invokestatic 26, 3) := by decide +kernel
theorem dX5_open_7 : decode cX5_open 7 = .ok (.ifCond .eq 24, 3) := by decide +kernel
theorem dX5_open_10 : decode cX5_open 10 = .ok (.iload_n 2, 1) := by decide +kernel
theorem dX5_open_11 : decode cX5_open 11 = .ok (.iconst 0, 1) := by decide +kernel
theorem dX5_open_12 : decode cX5_open 12 = .ok (.bipush 9, 2) := by decide +kernel
theorem dX5_open_14 : decode cX5_open 14 = .ok (.invokestatic 26, 3) := by decide +kernel
theorem dX5_open_17 : decode cX5_open 17 = .ok (.ifCond .eq 14, 3) := by decide +kernel
theorem dX5_open_20 : decode cX5_open 20 = .ok (.iload_n 3, 1) := by decide +kernel
theorem dX5_open_21 : decode cX5_open 21 = .ok (.iconst 0, 1) := by decide +kernel
theorem dX5_open_22 : decode cX5_open 22 = .ok (.sipush 200, 3) := by decide +kernel
theorem dX5_open_25 : decode cX5_open 25 = .ok (.invokestatic 26, 3) := by decide +kernel
theorem dX5_open_28 : decode cX5_open 28 = .ok (.ifCond .ne 13, 3) := by decide +kernel
theorem dX5_open_31 : decode cX5_open 31 = .ok (.new 37, 3) := by decide +kernel
theorem dX5_open_34 : decode cX5_open 34 = .ok (.dup, 1) := by decide +kernel
theorem dX5_open_35 : decode cX5_open 35 = .ok (.ldc 46, 2) := by decide +kernel
theorem dX5_open_37 : decode cX5_open 37 = .ok (.invokespecial 41, 3) := by decide +kernel
theorem dX5_open_40 : decode cX5_open 40 = .ok (.athrow, 1) := by decide +kernel
theorem dX5_open_41 : decode cX5_open 41 = .ok (.aload_n 0, 1) := by decide +kernel
theorem dX5_open_42 : decode cX5_open 42 = .ok (.getfield 10, 3) := by decide +kernel
theorem dX5_open_45 : decode cX5_open 45 = .ok (.getfield 48, 3) := by decide +kernel
theorem dX5_open_48 : decode cX5_open 48 = .ok (.getfield 52, 3) := by decide +kernel
theorem dX5_open_51 : decode cX5_open 51 = .ok (.iconst 5, 1) := by decide +kernel
theorem dX5_open_52 : decode cX5_open 52 = .ok (.if_icmp .lt 13, 3) := by decide +kernel
theorem dX5_open_55 : decode cX5_open 55 = .ok (.new 58, 3) := by decide +kernel
theorem dX5_open_58 : decode cX5_open 58 = .ok (.dup, 1) := by decide +kernel
theorem dX5_open_59 : decode cX5_open 59 = .ok (.ldc 60, 2) := by decide +kernel
theorem dX5_open_61 : decode cX5_open 61 = .ok (.invokespecial 62, 3) := by decide +kernel
theorem dX5_open_64 : decode cX5_open 64 = .ok (.athrow, 1) := by decide +kernel
theorem dX5_open_65 : decode cX5_open 65 = .ok (.aload_n 0, 1) := by decide +kernel
theorem dX5_open_66 : decode cX5_open 66 = .ok (.getfield 10, 3) := by decide +kernel
theorem dX5_open_69 : decode cX5_open 69 = .ok (.getfield 48, 3) := by decide +kernel
theorem dX5_open_72 : decode cX5_open 72 = .ok (.iload_n 1, 1) := by decide +kernel
theorem dX5_open_73 : decode cX5_open 73 = .ok (.iload_n 2, 1) := by decide +kernel
theorem dX5_open_74 : decode cX5_open 74 = .ok (.iload_n 3, 1) := by decide +kernel
theorem dX5_open_75 : decode cX5_open 75 = .ok (.invokevirtual 63, 3) := by decide +kernel
theorem dX5_open_78 : decode cX5_open 78 = .ok (.ireturn, 1) := by decide +kernel
set_option maxRecDepth 20000 in
theorem ggX5_hire_X5_isWithin : GoodIn wsX5_hire wsX5_isWithin := goodIn_r _ [11] (by decide +kernel) (by decide +kernel)
set_option maxRecDepth 20000 in
theorem gX5_hire_X5_isWithin : GoodIn wsX5_hire (va_wsS RX5 26 yX5_isWithin wsX5_isWithin) := goodIn_app (goodIn_of _ (by decide +kernel)) ggX5_hire_X5_isWithin
set_option maxRecDepth 20000 in
theorem ggX5_hire_X1_add : GoodIn wsX5_hire wsX1_add := goodIn_r _ [16, 17, 18, 19, 29, 30, 31, 32, 33] (by decide +kernel) (by decide +kernel)
set_option maxRecDepth 20000 in
theorem gX5_hire_X1_add : GoodIn wsX5_hire (wsV RX5 78 RX1 yX1_add wsX1_add) := goodIn_app (goodIn_of _ (by decide +kernel)) ggX5_hire_X1_add
theorem dX5_hire_0 : decode cX5_hire 0 = .ok (.iload_n 1, 1) := by decide +kernel
theorem dX5_hire_1 : decode cX5_hire 1 = .ok (.iconst 1, 1) := by decide +kernel
theorem dX5_hire_2 : decode cX5_hire 2 = .ok (.bipush 9, 2) := by decide +kernel
theorem dX5_hire_4 : decode cX5_hire 4 = .ok (.invokestatic 26, 3) := by decide +kernel
theorem dX5_hire_7 : decode cX5_hire 7 = .ok (.ifCond .ne 13, 3) := by decide +kernel
theorem dX5_hire_10 : decode cX5_hire 10 = .ok (.new 37, 3) := by decide +kernel
theorem dX5_hire_13 : decode cX5_hire 13 = .ok (.dup, 1) := by decide +kernel
theorem dX5_hire_14 : decode cX5_hire 14 = .ok (.ldc 67, 2) := by decide +kernel
theorem dX5_hire_16 : decode cX5_hire 16 = .ok (.invokespecial 41, 3) := by decide +kernel
theorem dX5_hire_19 : decode cX5_hire 19 = .ok (.athrow, 1) := by decide +kernel
theorem dX5_hire_20 : decode cX5_hire 20 = .ok (.aload_n 0, 1) := by decide +kernel
theorem dX5_hire_21 : decode cX5_hire 21 = .ok (.getfield 10, 3) := by decide +kernel
theorem dX5_hire_24 : decode cX5_hire 24 = .ok (.getfield 69, 3) := by decide +kernel
theorem dX5_hire_27 : decode cX5_hire 27 = .ok (.getfield 73, 3) := by decide +kernel
theorem dX5_hire_30 : decode cX5_hire 30 = .ok (.bipush 6, 2) := by decide +kernel
theorem dX5_hire_32 : decode cX5_hire 32 = .ok (.if_icmp .lt 13, 3) := by decide +kernel
theorem dX5_hire_35 : decode cX5_hire 35 = .ok (.new 58, 3) := by decide +kernel
theorem dX5_hire_38 : decode cX5_hire 38 = .ok (.dup, 1) := by decide +kernel
theorem dX5_hire_39 : decode cX5_hire 39 = .ok (.ldc 76, 2) := by decide +kernel
theorem dX5_hire_41 : decode cX5_hire 41 = .ok (.invokespecial 62, 3) := by decide +kernel
theorem dX5_hire_44 : decode cX5_hire 44 = .ok (.athrow, 1) := by decide +kernel
theorem dX5_hire_45 : decode cX5_hire 45 = .ok (.aload_n 0, 1) := by decide +kernel
theorem dX5_hire_46 : decode cX5_hire 46 = .ok (.getfield 10, 3) := by decide +kernel
theorem dX5_hire_49 : decode cX5_hire 49 = .ok (.getfield 69, 3) := by decide +kernel
theorem dX5_hire_52 : decode cX5_hire 52 = .ok (.iload_n 1, 1) := by decide +kernel
theorem dX5_hire_53 : decode cX5_hire 53 = .ok (.invokevirtual 78, 3) := by decide +kernel
theorem dX5_hire_56 : decode cX5_hire 56 = .ok (.ireturn, 1) := by decide +kernel
set_option maxRecDepth 20000 in
theorem ggX5_send_X1_has : GoodIn wsX5_send wsX1_has := goodIn_r _ [11, 12, 28, 29, 30, 31, 32] (by decide +kernel) (by decide +kernel)
set_option maxRecDepth 20000 in
theorem gX5_send_X1_has : GoodIn wsX5_send (wsV RX5 81 RX1 yX1_has wsX1_has) := goodIn_app (goodIn_of _ (by decide +kernel)) ggX5_send_X1_has
set_option maxRecDepth 20000 in
theorem ggX5_send_X0_has : GoodIn wsX5_send wsX0_has := goodIn_r _ [17, 18, 33, 34, 35, 36, 37] (by decide +kernel) (by decide +kernel)
set_option maxRecDepth 20000 in
theorem gX5_send_X0_has : GoodIn wsX5_send (wsV RX5 87 RX0 yX0_has wsX0_has) := goodIn_app (goodIn_of _ (by decide +kernel)) ggX5_send_X0_has
theorem dX5_send_0 : decode cX5_send 0 = .ok (.aload_n 0, 1) := by decide +kernel
theorem dX5_send_1 : decode cX5_send 1 = .ok (.getfield 10, 3) := by decide +kernel
theorem dX5_send_4 : decode cX5_send 4 = .ok (.getfield 69, 3) := by decide +kernel
theorem dX5_send_7 : decode cX5_send 7 = .ok (.iload_n 1, 1) := by decide +kernel
theorem dX5_send_8 : decode cX5_send 8 = .ok (.invokevirtual 81, 3) := by decide +kernel
theorem dX5_send_11 : decode cX5_send 11 = .ok (.ifCond .ne 13, 3) := by decide +kernel
theorem dX5_send_14 : decode cX5_send 14 = .ok (.new 30, 3) := by decide +kernel
theorem dX5_send_17 : decode cX5_send 17 = .ok (.dup, 1) := by decide +kernel
theorem dX5_send_18 : decode cX5_send 18 = .ok (.ldc 85, 2) := by decide +kernel
theorem dX5_send_20 : decode cX5_send 20 = .ok (.invokespecial 34, 3) := by decide +kernel
theorem dX5_send_23 : decode cX5_send 23 = .ok (.athrow, 1) := by decide +kernel
theorem dX5_send_24 : decode cX5_send 24 = .ok (.iload_n 2, 1) := by decide +kernel
theorem dX5_send_25 : decode cX5_send 25 = .ok (.iconst (-1), 1) := by decide +kernel
theorem dX5_send_26 : decode cX5_send 26 = .ok (.if_icmp .eq 27, 3) := by decide +kernel
theorem dX5_send_29 : decode cX5_send 29 = .ok (.aload_n 0, 1) := by decide +kernel
theorem dX5_send_30 : decode cX5_send 30 = .ok (.getfield 10, 3) := by decide +kernel
theorem dX5_send_33 : decode cX5_send 33 = .ok (.getfield 48, 3) := by decide +kernel
theorem dX5_send_36 : decode cX5_send 36 = .ok (.iload_n 2, 1) := by decide +kernel
theorem dX5_send_37 : decode cX5_send 37 = .ok (.invokevirtual 87, 3) := by decide +kernel
theorem dX5_send_40 : decode cX5_send 40 = .ok (.ifCond .ne 13, 3) := by decide +kernel
theorem dX5_send_43 : decode cX5_send 43 = .ok (.new 30, 3) := by decide +kernel
theorem dX5_send_46 : decode cX5_send 46 = .ok (.dup, 1) := by decide +kernel
theorem dX5_send_47 : decode cX5_send 47 = .ok (.ldc 88, 2) := by decide +kernel
theorem dX5_send_49 : decode cX5_send 49 = .ok (.invokespecial 34, 3) := by decide +kernel
theorem dX5_send_52 : decode cX5_send 52 = .ok (.athrow, 1) := by decide +kernel
theorem dX5_send_53 : decode cX5_send 53 = .ok (.aload_n 0, 1) := by decide +kernel
theorem dX5_send_54 : decode cX5_send 54 = .ok (.getfield 10, 3) := by decide +kernel
theorem dX5_send_57 : decode cX5_send 57 = .ok (.getfield 69, 3) := by decide +kernel
theorem dX5_send_60 : decode cX5_send 60 = .ok (.getfield 90, 3) := by decide +kernel
theorem dX5_send_63 : decode cX5_send 63 = .ok (.iload_n 1, 1) := by decide +kernel
theorem dX5_send_64 : decode cX5_send 64 = .ok (.iaload, 1) := by decide +kernel
theorem dX5_send_65 : decode cX5_send 65 = .ok (.istore_n 3, 1) := by decide +kernel
theorem dX5_send_66 : decode cX5_send 66 = .ok (.aload_n 0, 1) := by decide +kernel
theorem dX5_send_67 : decode cX5_send 67 = .ok (.getfield 10, 3) := by decide +kernel
theorem dX5_send_70 : decode cX5_send 70 = .ok (.getfield 69, 3) := by decide +kernel
theorem dX5_send_73 : decode cX5_send 73 = .ok (.getfield 90, 3) := by decide +kernel
theorem dX5_send_76 : decode cX5_send 76 = .ok (.iload_n 1, 1) := by decide +kernel
theorem dX5_send_77 : decode cX5_send 77 = .ok (.iload_n 2, 1) := by decide +kernel
theorem dX5_send_78 : decode cX5_send 78 = .ok (.iastore, 1) := by decide +kernel
theorem dX5_send_79 : decode cX5_send 79 = .ok (.iload_n 3, 1) := by decide +kernel
theorem dX5_send_80 : decode cX5_send 80 = .ok (.ireturn, 1) := by decide +kernel
set_option maxRecDepth 20000 in
theorem ggX5_ring_X4_has : GoodIn wsX5_ring wsX4_has := goodIn_r _ [12, 13, 30, 31, 32, 33, 34, 35, 36] (by decide +kernel) (by decide +kernel)
set_option maxRecDepth 20000 in
theorem gX5_ring_X4_has : GoodIn wsX5_ring (wsV RX5 97 RX4 yX4_has wsX4_has) := goodIn_app (goodIn_of _ (by decide +kernel)) ggX5_ring_X4_has
set_option maxRecDepth 20000 in
theorem ggX5_ring_X4_tone : GoodIn wsX5_ring wsX4_tone := goodIn_r _ [17, 18, 19, 20, 30, 31, 32, 33, 34, 35, 36] (by decide +kernel) (by decide +kernel)
set_option maxRecDepth 20000 in
theorem gX5_ring_X4_tone : GoodIn wsX5_ring (wsV RX5 107 RX4 yX4_tone wsX4_tone) := goodIn_app (goodIn_of _ (by decide +kernel)) ggX5_ring_X4_tone
theorem dX5_ring_0 : decode cX5_ring 0 = .ok (.aload_n 0, 1) := by decide +kernel
theorem dX5_ring_1 : decode cX5_ring 1 = .ok (.getfield 10, 3) := by decide +kernel
theorem dX5_ring_4 : decode cX5_ring 4 = .ok (.getfield 93, 3) := by decide +kernel
theorem dX5_ring_7 : decode cX5_ring 7 = .ok (.iload_n 1, 1) := by decide +kernel
theorem dX5_ring_8 : decode cX5_ring 8 = .ok (.invokevirtual 97, 3) := by decide +kernel
theorem dX5_ring_11 : decode cX5_ring 11 = .ok (.ifCond .ne 13, 3) := by decide +kernel
theorem dX5_ring_14 : decode cX5_ring 14 = .ok (.new 30, 3) := by decide +kernel
theorem dX5_ring_17 : decode cX5_ring 17 = .ok (.dup, 1) := by decide +kernel
theorem dX5_ring_18 : decode cX5_ring 18 = .ok (.ldc 100, 2) := by decide +kernel
theorem dX5_ring_20 : decode cX5_ring 20 = .ok (.invokespecial 34, 3) := by decide +kernel
theorem dX5_ring_23 : decode cX5_ring 23 = .ok (.athrow, 1) := by decide +kernel
theorem dX5_ring_24 : decode cX5_ring 24 = .ok (.aload_n 0, 1) := by decide +kernel
theorem dX5_ring_25 : decode cX5_ring 25 = .ok (.getfield 10, 3) := by decide +kernel
theorem dX5_ring_28 : decode cX5_ring 28 = .ok (.getfield 93, 3) := by decide +kernel
theorem dX5_ring_31 : decode cX5_ring 31 = .ok (.getfield 102, 3) := by decide +kernel
theorem dX5_ring_34 : decode cX5_ring 34 = .ok (.iload_n 1, 1) := by decide +kernel
theorem dX5_ring_35 : decode cX5_ring 35 = .ok (.iaload, 1) := by decide +kernel
theorem dX5_ring_36 : decode cX5_ring 36 = .ok (.iconst 3, 1) := by decide +kernel
theorem dX5_ring_37 : decode cX5_ring 37 = .ok (.if_icmp .lt 13, 3) := by decide +kernel
theorem dX5_ring_40 : decode cX5_ring 40 = .ok (.new 58, 3) := by decide +kernel
theorem dX5_ring_43 : decode cX5_ring 43 = .ok (.dup, 1) := by decide +kernel
theorem dX5_ring_44 : decode cX5_ring 44 = .ok (.ldc 105, 2) := by decide +kernel
theorem dX5_ring_46 : decode cX5_ring 46 = .ok (.invokespecial 62, 3) := by decide +kernel
theorem dX5_ring_49 : decode cX5_ring 49 = .ok (.athrow, 1) := by decide +kernel
theorem dX5_ring_50 : decode cX5_ring 50 = .ok (.aload_n 0, 1) := by decide +kernel
theorem dX5_ring_51 : decode cX5_ring 51 = .ok (.getfield 10, 3) := by decide +kernel
theorem dX5_ring_54 : decode cX5_ring 54 = .ok (.getfield 93, 3) := by decide +kernel
theorem dX5_ring_57 : decode cX5_ring 57 = .ok (.iload_n 1, 1) := by decide +kernel
theorem dX5_ring_58 : decode cX5_ring 58 = .ok (.invokevirtual 107, 3) := by decide +kernel
theorem dX5_ring_61 : decode cX5_ring 61 = .ok (.ireturn, 1) := by decide +kernel
set_option maxRecDepth 20000 in
theorem ggX5_smash_X4_has : GoodIn wsX5_smash wsX4_has := goodIn_r _ [15, 16, 41, 42, 43, 44, 45, 46, 47] (by decide +kernel) (by decide +kernel)
set_option maxRecDepth 20000 in
theorem gX5_smash_X4_has : GoodIn wsX5_smash (wsV RX5 97 RX4 yX4_has wsX4_has) := goodIn_app (goodIn_of _ (by decide +kernel)) ggX5_smash_X4_has
set_option maxRecDepth 20000 in
theorem ggX5_smash_X0_giveBack : GoodIn wsX5_smash wsX0_giveBack := goodIn_r _ [21, 22, 23, 24, 25, 26, 27, 28, 29, 20, 30, 31, 48, 49, 50, 51, 52] (by decide +kernel) (by decide +kernel)
set_option maxRecDepth 20000 in
theorem gX5_smash_X0_giveBack : GoodIn wsX5_smash (wsV RX5 118 RX0 yX0_giveBack wsX0_giveBack) := goodIn_app (goodIn_of _ (by decide +kernel)) ggX5_smash_X0_giveBack
theorem dX5_smash_0 : decode cX5_smash 0 = .ok (.aload_n 0, 1) := by decide +kernel
theorem dX5_smash_1 : decode cX5_smash 1 = .ok (.getfield 10, 3) := by decide +kernel
theorem dX5_smash_4 : decode cX5_smash 4 = .ok (.getfield 93, 3) := by decide +kernel
theorem dX5_smash_7 : decode cX5_smash 7 = .ok (.iload_n 1, 1) := by decide +kernel
theorem dX5_smash_8 : decode cX5_smash 8 = .ok (.invokevirtual 97, 3) := by decide +kernel
theorem dX5_smash_11 : decode cX5_smash 11 = .ok (.ifCond .ne 13, 3) := by decide +kernel
theorem dX5_smash_14 : decode cX5_smash 14 = .ok (.new 30, 3) := by decide +kernel
theorem dX5_smash_17 : decode cX5_smash 17 = .ok (.dup, 1) := by decide +kernel
theorem dX5_smash_18 : decode cX5_smash 18 = .ok (.ldc 100, 2) := by decide +kernel
theorem dX5_smash_20 : decode cX5_smash 20 = .ok (.invokespecial 34, 3) := by decide +kernel
theorem dX5_smash_23 : decode cX5_smash 23 = .ok (.athrow, 1) := by decide +kernel
theorem dX5_smash_24 : decode cX5_smash 24 = .ok (.aload_n 0, 1) := by decide +kernel
theorem dX5_smash_25 : decode cX5_smash 25 = .ok (.getfield 10, 3) := by decide +kernel
theorem dX5_smash_28 : decode cX5_smash 28 = .ok (.getfield 93, 3) := by decide +kernel
theorem dX5_smash_31 : decode cX5_smash 31 = .ok (.getfield 102, 3) := by decide +kernel
theorem dX5_smash_34 : decode cX5_smash 34 = .ok (.iload_n 1, 1) := by decide +kernel
theorem dX5_smash_35 : decode cX5_smash 35 = .ok (.iaload, 1) := by decide +kernel
theorem dX5_smash_36 : decode cX5_smash 36 = .ok (.iconst 2, 1) := by decide +kernel
theorem dX5_smash_37 : decode cX5_smash 37 = .ok (.if_icmp .lt 13, 3) := by decide +kernel
theorem dX5_smash_40 : decode cX5_smash 40 = .ok (.new 58, 3) := by decide +kernel
theorem dX5_smash_43 : decode cX5_smash 43 = .ok (.dup, 1) := by decide +kernel
theorem dX5_smash_44 : decode cX5_smash 44 = .ok (.ldc 110, 2) := by decide +kernel
theorem dX5_smash_46 : decode cX5_smash 46 = .ok (.invokespecial 62, 3) := by decide +kernel
theorem dX5_smash_49 : decode cX5_smash 49 = .ok (.athrow, 1) := by decide +kernel
theorem dX5_smash_50 : decode cX5_smash 50 = .ok (.aload_n 0, 1) := by decide +kernel
theorem dX5_smash_51 : decode cX5_smash 51 = .ok (.getfield 10, 3) := by decide +kernel
theorem dX5_smash_54 : decode cX5_smash 54 = .ok (.getfield 93, 3) := by decide +kernel
theorem dX5_smash_57 : decode cX5_smash 57 = .ok (.getfield 102, 3) := by decide +kernel
theorem dX5_smash_60 : decode cX5_smash 60 = .ok (.iload_n 1, 1) := by decide +kernel
theorem dX5_smash_61 : decode cX5_smash 61 = .ok (.iconst 4, 1) := by decide +kernel
theorem dX5_smash_62 : decode cX5_smash 62 = .ok (.iastore, 1) := by decide +kernel
theorem dX5_smash_63 : decode cX5_smash 63 = .ok (.aload_n 0, 1) := by decide +kernel
theorem dX5_smash_64 : decode cX5_smash 64 = .ok (.getfield 10, 3) := by decide +kernel
theorem dX5_smash_67 : decode cX5_smash 67 = .ok (.getfield 48, 3) := by decide +kernel
theorem dX5_smash_70 : decode cX5_smash 70 = .ok (.aload_n 0, 1) := by decide +kernel
theorem dX5_smash_71 : decode cX5_smash 71 = .ok (.getfield 10, 3) := by decide +kernel
theorem dX5_smash_74 : decode cX5_smash 74 = .ok (.getfield 93, 3) := by decide +kernel
theorem dX5_smash_77 : decode cX5_smash 77 = .ok (.getfield 112, 3) := by decide +kernel
theorem dX5_smash_80 : decode cX5_smash 80 = .ok (.iload_n 1, 1) := by decide +kernel
theorem dX5_smash_81 : decode cX5_smash 81 = .ok (.iaload, 1) := by decide +kernel
theorem dX5_smash_82 : decode cX5_smash 82 = .ok (.aload_n 0, 1) := by decide +kernel
theorem dX5_smash_83 : decode cX5_smash 83 = .ok (.getfield 10, 3) := by decide +kernel
theorem dX5_smash_86 : decode cX5_smash 86 = .ok (.getfield 93, 3) := by decide +kernel
theorem dX5_smash_89 : decode cX5_smash 89 = .ok (.getfield 115, 3) := by decide +kernel
theorem dX5_smash_92 : decode cX5_smash 92 = .ok (.iload_n 1, 1) := by decide +kernel
theorem dX5_smash_93 : decode cX5_smash 93 = .ok (.iaload, 1) := by decide +kernel
theorem dX5_smash_94 : decode cX5_smash 94 = .ok (.iconst 2, 1) := by decide +kernel
theorem dX5_smash_95 : decode cX5_smash 95 = .ok (.idiv, 1) := by decide +kernel
theorem dX5_smash_96 : decode cX5_smash 96 = .ok (.invokevirtual 118, 3) := by decide +kernel
theorem dX5_smash_99 : decode cX5_smash 99 = .ok (.ireturn, 1) := by decide +kernel
set_option maxRecDepth 20000 in
theorem ggX5_build_X5_isWithin : GoodIn wsX5_build wsX5_isWithin := goodIn_r _ [10] (by decide +kernel) (by decide +kernel)
set_option maxRecDepth 20000 in
theorem gX5_build_X5_isWithin : GoodIn wsX5_build (va_wsS RX5 26 yX5_isWithin wsX5_isWithin) := goodIn_app (goodIn_of _ (by decide +kernel)) ggX5_build_X5_isWithin
set_option maxRecDepth 20000 in
theorem ggX5_build_X3_add : GoodIn wsX5_build wsX3_add := goodIn_r _ [15, 16, 17, 22, 23, 24] (by decide +kernel) (by decide +kernel)
set_option maxRecDepth 20000 in
theorem gX5_build_X3_add : GoodIn wsX5_build (wsV RX5 127 RX3 yX3_add wsX3_add) := goodIn_app (goodIn_of _ (by decide +kernel)) ggX5_build_X3_add
theorem dX5_build_0 : decode cX5_build 0 = .ok (.iload_n 1, 1) := by decide +kernel
theorem dX5_build_1 : decode cX5_build 1 = .ok (.bipush 20, 2) := by decide +kernel
theorem dX5_build_3 : decode cX5_build 3 = .ok (.sipush 400, 3) := by decide +kernel
theorem dX5_build_6 : decode cX5_build 6 = .ok (.invokestatic 26, 3) := by decide +kernel
theorem dX5_build_9 : decode cX5_build 9 = .ok (.ifCond .ne 13, 3) := by decide +kernel
theorem dX5_build_12 : decode cX5_build 12 = .ok (.new 37, 3) := by decide +kernel
theorem dX5_build_15 : decode cX5_build 15 = .ok (.dup, 1) := by decide +kernel
theorem dX5_build_16 : decode cX5_build 16 = .ok (.ldc 122, 2) := by decide +kernel
theorem dX5_build_18 : decode cX5_build 18 = .ok (.invokespecial 41, 3) := by decide +kernel
theorem dX5_build_21 : decode cX5_build 21 = .ok (.athrow, 1) := by decide +kernel
theorem dX5_build_22 : decode cX5_build 22 = .ok (.aload_n 0, 1) := by decide +kernel
theorem dX5_build_23 : decode cX5_build 23 = .ok (.getfield 22, 3) := by decide +kernel
theorem dX5_build_26 : decode cX5_build 26 = .ok (.getfield 124, 3) := by decide +kernel
theorem dX5_build_29 : decode cX5_build 29 = .ok (.iconst 3, 1) := by decide +kernel
theorem dX5_build_30 : decode cX5_build 30 = .ok (.if_icmp .lt 13, 3) := by decide +kernel
theorem dX5_build_33 : decode cX5_build 33 = .ok (.new 58, 3) := by decide +kernel
theorem dX5_build_36 : decode cX5_build 36 = .ok (.dup, 1) := by decide +kernel
theorem dX5_build_37 : decode cX5_build 37 = .ok (.ldc 125, 2) := by decide +kernel
theorem dX5_build_39 : decode cX5_build 39 = .ok (.invokespecial 62, 3) := by decide +kernel
theorem dX5_build_42 : decode cX5_build 42 = .ok (.athrow, 1) := by decide +kernel
theorem dX5_build_43 : decode cX5_build 43 = .ok (.aload_n 0, 1) := by decide +kernel
theorem dX5_build_44 : decode cX5_build 44 = .ok (.getfield 22, 3) := by decide +kernel
theorem dX5_build_47 : decode cX5_build 47 = .ok (.iload_n 1, 1) := by decide +kernel
theorem dX5_build_48 : decode cX5_build 48 = .ok (.invokevirtual 127, 3) := by decide +kernel
theorem dX5_build_51 : decode cX5_build 51 = .ok (.ireturn, 1) := by decide +kernel
set_option maxRecDepth 20000 in
theorem ggX5_load_X4_has : GoodIn wsX5_load wsX4_has := goodIn_r _ [14, 15, 58, 59, 60, 61, 62, 63, 64] (by decide +kernel) (by decide +kernel)
set_option maxRecDepth 20000 in
theorem gX5_load_X4_has : GoodIn wsX5_load (wsV RX5 97 RX4 yX4_has wsX4_has) := goodIn_app (goodIn_of _ (by decide +kernel)) ggX5_load_X4_has
set_option maxRecDepth 20000 in
theorem ggX5_load_X3_has : GoodIn wsX5_load wsX3_has := goodIn_r _ [20, 21, 65, 66, 67] (by decide +kernel) (by decide +kernel)
set_option maxRecDepth 20000 in
theorem gX5_load_X3_has : GoodIn wsX5_load (wsV RX5 128 RX3 yX3_has wsX3_has) := goodIn_app (goodIn_of _ (by decide +kernel)) ggX5_load_X3_has
set_option maxRecDepth 20000 in
theorem ggX5_load_X3_isAway : GoodIn wsX5_load wsX3_isAway := goodIn_r _ [25, 26, 65, 66, 67] (by decide +kernel) (by decide +kernel)
set_option maxRecDepth 20000 in
theorem gX5_load_X3_isAway : GoodIn wsX5_load (wsV RX5 136 RX3 yX3_isAway wsX3_isAway) := goodIn_app (goodIn_of _ (by decide +kernel)) ggX5_load_X3_isAway
set_option maxRecDepth 20000 in
theorem ggX5_load_X4_weight : GoodIn wsX5_load wsX4_weight := goodIn_r _ [30, 31, 58, 59, 60, 61, 62, 63, 64] (by decide +kernel) (by decide +kernel)
set_option maxRecDepth 20000 in
theorem gX5_load_X4_weight : GoodIn wsX5_load (wsV RX5 142 RX4 yX4_weight wsX4_weight) := goodIn_app (goodIn_of _ (by decide +kernel)) ggX5_load_X4_weight
set_option maxRecDepth 20000 in
theorem ggX5_load_X5_stillCarried : GoodIn wsX5_load wsX5_stillCarried := goodIn_r _ [36, 7, 37, 5, 6, 38, 39, 40, 13, 41, 15, 42, 43, 28, 29, 30, 31, 49, 50, 51, 52, 65, 66, 67, 53, 54, 55, 56, 57, 58, 59, 60, 61, 62, 63, 64] (by decide +kernel) (by decide +kernel)
set_option maxRecDepth 20000 in
theorem gX5_load_X5_stillCarried : GoodIn wsX5_load (wsV RX5 145 RX5 yX5_stillCarried wsX5_stillCarried) := goodIn_app (goodIn_of _ (by decide +kernel)) ggX5_load_X5_stillCarried
set_option maxRecDepth 20000 in
theorem ggX5_load_X4_putOn : GoodIn wsX5_load wsX4_putOn := goodIn_r _ [47, 48, 42, 58, 59, 60, 61, 62, 63, 64] (by decide +kernel) (by decide +kernel)
set_option maxRecDepth 20000 in
theorem gX5_load_X4_putOn : GoodIn wsX5_load (wsV RX5 150 RX4 yX4_putOn wsX4_putOn) := goodIn_app (goodIn_of _ (by decide +kernel)) ggX5_load_X4_putOn
theorem dX5_load_0 : decode cX5_load 0 = .ok (.aload_n 0, 1) := by decide +kernel
theorem dX5_load_1 : decode cX5_load 1 = .ok (.getfield 10, 3) := by decide +kernel
theorem dX5_load_4 : decode cX5_load 4 = .ok (.getfield 93, 3) := by decide +kernel
theorem dX5_load_7 : decode cX5_load 7 = .ok (.iload_n 1, 1) := by decide +kernel
theorem dX5_load_8 : decode cX5_load 8 = .ok (.invokevirtual 97, 3) := by decide +kernel
theorem dX5_load_11 : decode cX5_load 11 = .ok (.ifCond .eq 14, 3) := by decide +kernel
theorem dX5_load_14 : decode cX5_load 14 = .ok (.aload_n 0, 1) := by decide +kernel
theorem dX5_load_15 : decode cX5_load 15 = .ok (.getfield 22, 3) := by decide +kernel
theorem dX5_load_18 : decode cX5_load 18 = .ok (.iload_n 2, 1) := by decide +kernel
theorem dX5_load_19 : decode cX5_load 19 = .ok (.invokevirtual 128, 3) := by decide +kernel
theorem dX5_load_22 : decode cX5_load 22 = .ok (.ifCond .ne 13, 3) := by decide +kernel
theorem dX5_load_25 : decode cX5_load 25 = .ok (.new 30, 3) := by decide +kernel
theorem dX5_load_28 : decode cX5_load 28 = .ok (.dup, 1) := by decide +kernel
theorem dX5_load_29 : decode cX5_load 29 = .ok (.ldc 129, 2) := by decide +kernel
theorem dX5_load_31 : decode cX5_load 31 = .ok (.invokespecial 34, 3) := by decide +kernel
theorem dX5_load_34 : decode cX5_load 34 = .ok (.athrow, 1) := by decide +kernel
theorem dX5_load_35 : decode cX5_load 35 = .ok (.aload_n 0, 1) := by decide +kernel
theorem dX5_load_36 : decode cX5_load 36 = .ok (.getfield 10, 3) := by decide +kernel
theorem dX5_load_39 : decode cX5_load 39 = .ok (.getfield 93, 3) := by decide +kernel
theorem dX5_load_42 : decode cX5_load 42 = .ok (.getfield 102, 3) := by decide +kernel
theorem dX5_load_45 : decode cX5_load 45 = .ok (.iload_n 1, 1) := by decide +kernel
theorem dX5_load_46 : decode cX5_load 46 = .ok (.iaload, 1) := by decide +kernel
theorem dX5_load_47 : decode cX5_load 47 = .ok (.iconst 1, 1) := by decide +kernel
theorem dX5_load_48 : decode cX5_load 48 = .ok (.if_icmp .eq 13, 3) := by decide +kernel
theorem dX5_load_51 : decode cX5_load 51 = .ok (.new 58, 3) := by decide +kernel
theorem dX5_load_54 : decode cX5_load 54 = .ok (.dup, 1) := by decide +kernel
theorem dX5_load_55 : decode cX5_load 55 = .ok (.ldc 131, 2) := by decide +kernel
theorem dX5_load_57 : decode cX5_load 57 = .ok (.invokespecial 62, 3) := by decide +kernel
theorem dX5_load_60 : decode cX5_load 60 = .ok (.athrow, 1) := by decide +kernel
theorem dX5_load_61 : decode cX5_load 61 = .ok (.aload_n 0, 1) := by decide +kernel
theorem dX5_load_62 : decode cX5_load 62 = .ok (.getfield 22, 3) := by decide +kernel
theorem dX5_load_65 : decode cX5_load 65 = .ok (.iload_n 2, 1) := by decide +kernel
theorem dX5_load_66 : decode cX5_load 66 = .ok (.aload_n 0, 1) := by decide +kernel
theorem dX5_load_67 : decode cX5_load 67 = .ok (.getfield 10, 3) := by decide +kernel
theorem dX5_load_70 : decode cX5_load 70 = .ok (.getfield 133, 3) := by decide +kernel
theorem dX5_load_73 : decode cX5_load 73 = .ok (.invokevirtual 136, 3) := by decide +kernel
theorem dX5_load_76 : decode cX5_load 76 = .ok (.ifCond .eq 13, 3) := by decide +kernel
theorem dX5_load_79 : decode cX5_load 79 = .ok (.new 58, 3) := by decide +kernel
theorem dX5_load_82 : decode cX5_load 82 = .ok (.dup, 1) := by decide +kernel
theorem dX5_load_83 : decode cX5_load 83 = .ok (.ldc 140, 2) := by decide +kernel
theorem dX5_load_85 : decode cX5_load 85 = .ok (.invokespecial 62, 3) := by decide +kernel
theorem dX5_load_88 : decode cX5_load 88 = .ok (.athrow, 1) := by decide +kernel
theorem dX5_load_89 : decode cX5_load 89 = .ok (.aload_n 0, 1) := by decide +kernel
theorem dX5_load_90 : decode cX5_load 90 = .ok (.getfield 10, 3) := by decide +kernel
theorem dX5_load_93 : decode cX5_load 93 = .ok (.getfield 93, 3) := by decide +kernel
theorem dX5_load_96 : decode cX5_load 96 = .ok (.iload_n 1, 1) := by decide +kernel
theorem dX5_load_97 : decode cX5_load 97 = .ok (.invokevirtual 142, 3) := by decide +kernel
theorem dX5_load_100 : decode cX5_load 100 = .ok (.aload_n 0, 1) := by decide +kernel
theorem dX5_load_101 : decode cX5_load 101 = .ok (.iload_n 2, 1) := by decide +kernel
theorem dX5_load_102 : decode cX5_load 102 = .ok (.invokevirtual 145, 3) := by decide +kernel
theorem dX5_load_105 : decode cX5_load 105 = .ok (.if_icmp .le 13, 3) := by decide +kernel
theorem dX5_load_108 : decode cX5_load 108 = .ok (.new 58, 3) := by decide +kernel
theorem dX5_load_111 : decode cX5_load 111 = .ok (.dup, 1) := by decide +kernel
theorem dX5_load_112 : decode cX5_load 112 = .ok (.ldc 148, 2) := by decide +kernel
theorem dX5_load_114 : decode cX5_load 114 = .ok (.invokespecial 62, 3) := by decide +kernel
theorem dX5_load_117 : decode cX5_load 117 = .ok (.athrow, 1) := by decide +kernel
theorem dX5_load_118 : decode cX5_load 118 = .ok (.aload_n 0, 1) := by decide +kernel
theorem dX5_load_119 : decode cX5_load 119 = .ok (.getfield 10, 3) := by decide +kernel
theorem dX5_load_122 : decode cX5_load 122 = .ok (.getfield 93, 3) := by decide +kernel
theorem dX5_load_125 : decode cX5_load 125 = .ok (.iload_n 1, 1) := by decide +kernel
theorem dX5_load_126 : decode cX5_load 126 = .ok (.iload_n 2, 1) := by decide +kernel
theorem dX5_load_127 : decode cX5_load 127 = .ok (.invokevirtual 150, 3) := by decide +kernel
theorem dX5_load_130 : decode cX5_load 130 = .ok (.aload_n 0, 1) := by decide +kernel
theorem dX5_load_131 : decode cX5_load 131 = .ok (.iload_n 2, 1) := by decide +kernel
theorem dX5_load_132 : decode cX5_load 132 = .ok (.invokevirtual 145, 3) := by decide +kernel
theorem dX5_load_135 : decode cX5_load 135 = .ok (.ireturn, 1) := by decide +kernel
set_option maxRecDepth 20000 in
theorem ggX5_ship_X3_has : GoodIn wsX5_ship wsX3_has := goodIn_r _ [14, 15, 64, 65, 66] (by decide +kernel) (by decide +kernel)
set_option maxRecDepth 20000 in
theorem gX5_ship_X3_has : GoodIn wsX5_ship (wsV RX5 128 RX3 yX3_has wsX3_has) := goodIn_app (goodIn_of _ (by decide +kernel)) ggX5_ship_X3_has
set_option maxRecDepth 20000 in
theorem ggX5_ship_X3_isAway : GoodIn wsX5_ship wsX3_isAway := goodIn_r _ [19, 20, 64, 65, 66] (by decide +kernel) (by decide +kernel)
set_option maxRecDepth 20000 in
theorem gX5_ship_X3_isAway : GoodIn wsX5_ship (wsV RX5 136 RX3 yX3_isAway wsX3_isAway) := goodIn_app (goodIn_of _ (by decide +kernel)) ggX5_ship_X3_isAway
set_option maxRecDepth 20000 in
theorem ggX5_ship_X4_numberOn : GoodIn wsX5_ship wsX4_numberOn := goodIn_r _ [25, 26, 27, 67, 68, 69, 70, 71, 72, 73] (by decide +kernel) (by decide +kernel)
set_option maxRecDepth 20000 in
theorem gX5_ship_X4_numberOn : GoodIn wsX5_ship (wsV RX5 156 RX4 yX4_numberOn wsX4_numberOn) := goodIn_app (goodIn_of _ (by decide +kernel)) ggX5_ship_X4_numberOn
set_option maxRecDepth 20000 in
theorem ggX5_ship_X2_water : GoodIn wsX5_ship wsX2_water := goodIn_r _ [32, 33, 34, 35, 36, 37, 38, 59, 60, 61, 62, 63] (by decide +kernel) (by decide +kernel)
set_option maxRecDepth 20000 in
theorem gX5_ship_X2_water : GoodIn wsX5_ship (wsV RX5 159 RX2 yX2_water wsX2_water) := goodIn_app (goodIn_of _ (by decide +kernel)) ggX5_ship_X2_water
set_option maxRecDepth 20000 in
theorem ggX5_ship_X4_goWith : GoodIn wsX5_ship wsX4_goWith := goodIn_r _ [42, 26, 27, 43, 44, 45, 46, 24, 47, 48, 49, 50, 67, 68, 69, 70, 71, 72, 73] (by decide +kernel) (by decide +kernel)
set_option maxRecDepth 20000 in
theorem gX5_ship_X4_goWith : GoodIn wsX5_ship (wsV RX5 165 RX4 yX4_goWith wsX4_goWith) := goodIn_app (goodIn_of _ (by decide +kernel)) ggX5_ship_X4_goWith
set_option maxRecDepth 20000 in
theorem ggX5_ship_X3_leave : GoodIn wsX5_ship wsX3_leave := goodIn_r _ [54, 20, 64, 65, 66] (by decide +kernel) (by decide +kernel)
set_option maxRecDepth 20000 in
theorem gX5_ship_X3_leave : GoodIn wsX5_ship (wsV RX5 171 RX3 yX3_leave wsX3_leave) := goodIn_app (goodIn_of _ (by decide +kernel)) ggX5_ship_X3_leave
theorem dX5_ship_0 : decode cX5_ship 0 = .ok (.aload_n 0, 1) := by decide +kernel
theorem dX5_ship_1 : decode cX5_ship 1 = .ok (.getfield 22, 3) := by decide +kernel
theorem dX5_ship_4 : decode cX5_ship 4 = .ok (.iload_n 1, 1) := by decide +kernel
theorem dX5_ship_5 : decode cX5_ship 5 = .ok (.invokevirtual 128, 3) := by decide +kernel
theorem dX5_ship_8 : decode cX5_ship 8 = .ok (.ifCond .ne 13, 3) := by decide +kernel
theorem dX5_ship_11 : decode cX5_ship 11 = .ok (.new 30, 3) := by decide +kernel
theorem dX5_ship_14 : decode cX5_ship 14 = .ok (.dup, 1) := by decide +kernel
theorem dX5_ship_15 : decode cX5_ship 15 = .ok (.ldc 154, 2) := by decide +kernel
theorem dX5_ship_17 : decode cX5_ship 17 = .ok (.invokespecial 34, 3) := by decide +kernel
theorem dX5_ship_20 : decode cX5_ship 20 = .ok (.athrow, 1) := by decide +kernel
theorem dX5_ship_21 : decode cX5_ship 21 = .ok (.aload_n 0, 1) := by decide +kernel
theorem dX5_ship_22 : decode cX5_ship 22 = .ok (.getfield 22, 3) := by decide +kernel
theorem dX5_ship_25 : decode cX5_ship 25 = .ok (.iload_n 1, 1) := by decide +kernel
theorem dX5_ship_26 : decode cX5_ship 26 = .ok (.aload_n 0, 1) := by decide +kernel
theorem dX5_ship_27 : decode cX5_ship 27 = .ok (.getfield 10, 3) := by decide +kernel
theorem dX5_ship_30 : decode cX5_ship 30 = .ok (.getfield 133, 3) := by decide +kernel
theorem dX5_ship_33 : decode cX5_ship 33 = .ok (.invokevirtual 136, 3) := by decide +kernel
theorem dX5_ship_36 : decode cX5_ship 36 = .ok (.ifCond .ne 28, 3) := by decide +kernel
theorem dX5_ship_39 : decode cX5_ship 39 = .ok (.aload_n 0, 1) := by decide +kernel
theorem dX5_ship_40 : decode cX5_ship 40 = .ok (.getfield 10, 3) := by decide +kernel
theorem dX5_ship_43 : decode cX5_ship 43 = .ok (.getfield 93, 3) := by decide +kernel
theorem dX5_ship_46 : decode cX5_ship 46 = .ok (.iload_n 1, 1) := by decide +kernel
theorem dX5_ship_47 : decode cX5_ship 47 = .ok (.invokevirtual 156, 3) := by decide +kernel
theorem dX5_ship_50 : decode cX5_ship 50 = .ok (.ifCond .eq 14, 3) := by decide +kernel
theorem dX5_ship_53 : decode cX5_ship 53 = .ok (.aload_n 0, 1) := by decide +kernel
theorem dX5_ship_54 : decode cX5_ship 54 = .ok (.getfield 10, 3) := by decide +kernel
theorem dX5_ship_57 : decode cX5_ship 57 = .ok (.invokevirtual 159, 3) := by decide +kernel
theorem dX5_ship_60 : decode cX5_ship 60 = .ok (.iconst 2, 1) := by decide +kernel
theorem dX5_ship_61 : decode cX5_ship 61 = .ok (.if_icmp .ge 13, 3) := by decide +kernel
theorem dX5_ship_64 : decode cX5_ship 64 = .ok (.new 58, 3) := by decide +kernel
theorem dX5_ship_67 : decode cX5_ship 67 = .ok (.dup, 1) := by decide +kernel
theorem dX5_ship_68 : decode cX5_ship 68 = .ok (.ldc 163, 2) := by decide +kernel
theorem dX5_ship_70 : decode cX5_ship 70 = .ok (.invokespecial 62, 3) := by decide +kernel
theorem dX5_ship_73 : decode cX5_ship 73 = .ok (.athrow, 1) := by decide +kernel
theorem dX5_ship_74 : decode cX5_ship 74 = .ok (.aload_n 0, 1) := by decide +kernel
theorem dX5_ship_75 : decode cX5_ship 75 = .ok (.getfield 10, 3) := by decide +kernel
theorem dX5_ship_78 : decode cX5_ship 78 = .ok (.getfield 93, 3) := by decide +kernel
theorem dX5_ship_81 : decode cX5_ship 81 = .ok (.iload_n 1, 1) := by decide +kernel
theorem dX5_ship_82 : decode cX5_ship 82 = .ok (.invokevirtual 165, 3) := by decide +kernel
theorem dX5_ship_85 : decode cX5_ship 85 = .ok (.istore_n 2, 1) := by decide +kernel
theorem dX5_ship_86 : decode cX5_ship 86 = .ok (.aload_n 0, 1) := by decide +kernel
theorem dX5_ship_87 : decode cX5_ship 87 = .ok (.dup, 1) := by decide +kernel
theorem dX5_ship_88 : decode cX5_ship 88 = .ok (.getfield 168, 3) := by decide +kernel
theorem dX5_ship_91 : decode cX5_ship 91 = .ok (.iload_n 2, 1) := by decide +kernel
theorem dX5_ship_92 : decode cX5_ship 92 = .ok (.iadd, 1) := by decide +kernel
theorem dX5_ship_93 : decode cX5_ship 93 = .ok (.putfield 168, 3) := by decide +kernel
theorem dX5_ship_96 : decode cX5_ship 96 = .ok (.aload_n 0, 1) := by decide +kernel
theorem dX5_ship_97 : decode cX5_ship 97 = .ok (.getfield 22, 3) := by decide +kernel
theorem dX5_ship_100 : decode cX5_ship 100 = .ok (.iload_n 1, 1) := by decide +kernel
theorem dX5_ship_101 : decode cX5_ship 101 = .ok (.aload_n 0, 1) := by decide +kernel
theorem dX5_ship_102 : decode cX5_ship 102 = .ok (.getfield 10, 3) := by decide +kernel
theorem dX5_ship_105 : decode cX5_ship 105 = .ok (.getfield 133, 3) := by decide +kernel
theorem dX5_ship_108 : decode cX5_ship 108 = .ok (.invokevirtual 171, 3) := by decide +kernel
theorem dX5_ship_111 : decode cX5_ship 111 = .ok (.iload_n 2, 1) := by decide +kernel
theorem dX5_ship_112 : decode cX5_ship 112 = .ok (.ireturn, 1) := by decide +kernel
set_option maxRecDepth 20000 in
theorem ggX5_bed_X0_has : GoodIn wsX5_bed wsX0_has := goodIn_r _ [9, 10, 51, 52, 53, 54, 55] (by decide +kernel) (by decide +kernel)
set_option maxRecDepth 20000 in
theorem gX5_bed_X0_has : GoodIn wsX5_bed (wsV RX5 87 RX0 yX0_has wsX0_has) := goodIn_app (goodIn_of _ (by decide +kernel)) ggX5_bed_X0_has
set_option maxRecDepth 20000 in
theorem ggX5_bed_X5_isWithin : GoodIn wsX5_bed wsX5_isWithin := goodIn_r _ [14] (by decide +kernel) (by decide +kernel)
set_option maxRecDepth 20000 in
theorem gX5_bed_X5_isWithin : GoodIn wsX5_bed (va_wsS RX5 26 yX5_isWithin wsX5_isWithin) := goodIn_app (goodIn_of _ (by decide +kernel)) ggX5_bed_X5_isWithin
set_option maxRecDepth 20000 in
theorem ggX5_bed_X2_bedFact : GoodIn wsX5_bed wsX2_bedFact := goodIn_r _ [19, 20, 21, 22, 23, 24, 25, 26, 27, 28, 29, 30, 31, 32, 33, 34, 35, 36, 37, 38, 39, 40, 41, 46, 47, 48, 49, 50, 51, 52, 53, 54, 55, 56, 57, 58, 59, 60, 61, 62, 63, 64, 65, 66, 67] (by decide +kernel) (by decide +kernel)
set_option maxRecDepth 20000 in
theorem gX5_bed_X2_bedFact : GoodIn wsX5_bed (wsV RX5 176 RX2 yX2_bedFact wsX2_bedFact) := goodIn_app (goodIn_of _ (by decide +kernel)) ggX5_bed_X2_bedFact
theorem dX5_bed_0 : decode cX5_bed 0 = .ok (.aload_n 0, 1) := by decide +kernel
theorem dX5_bed_1 : decode cX5_bed 1 = .ok (.getfield 10, 3) := by decide +kernel
theorem dX5_bed_4 : decode cX5_bed 4 = .ok (.getfield 48, 3) := by decide +kernel
theorem dX5_bed_7 : decode cX5_bed 7 = .ok (.iload_n 1, 1) := by decide +kernel
theorem dX5_bed_8 : decode cX5_bed 8 = .ok (.invokevirtual 87, 3) := by decide +kernel
theorem dX5_bed_11 : decode cX5_bed 11 = .ok (.ifCond .eq 12, 3) := by decide +kernel
theorem dX5_bed_14 : decode cX5_bed 14 = .ok (.iload_n 2, 1) := by decide +kernel
theorem dX5_bed_15 : decode cX5_bed 15 = .ok (.iconst 0, 1) := by decide +kernel
theorem dX5_bed_16 : decode cX5_bed 16 = .ok (.iconst 5, 1) := by decide +kernel
theorem dX5_bed_17 : decode cX5_bed 17 = .ok (.invokestatic 26, 3) := by decide +kernel
theorem dX5_bed_20 : decode cX5_bed 20 = .ok (.ifCond .ne 13, 3) := by decide +kernel
theorem dX5_bed_23 : decode cX5_bed 23 = .ok (.new 30, 3) := by decide +kernel
theorem dX5_bed_26 : decode cX5_bed 26 = .ok (.dup, 1) := by decide +kernel
theorem dX5_bed_27 : decode cX5_bed 27 = .ok (.ldc 174, 2) := by decide +kernel
theorem dX5_bed_29 : decode cX5_bed 29 = .ok (.invokespecial 34, 3) := by decide +kernel
theorem dX5_bed_32 : decode cX5_bed 32 = .ok (.athrow, 1) := by decide +kernel
theorem dX5_bed_33 : decode cX5_bed 33 = .ok (.aload_n 0, 1) := by decide +kernel
theorem dX5_bed_34 : decode cX5_bed 34 = .ok (.getfield 10, 3) := by decide +kernel
theorem dX5_bed_37 : decode cX5_bed 37 = .ok (.iload_n 1, 1) := by decide +kernel
theorem dX5_bed_38 : decode cX5_bed 38 = .ok (.iload_n 2, 1) := by decide +kernel
theorem dX5_bed_39 : decode cX5_bed 39 = .ok (.invokevirtual 176, 3) := by decide +kernel
theorem dX5_bed_42 : decode cX5_bed 42 = .ok (.ireturn, 1) := by decide +kernel
set_option maxRecDepth 20000 in
theorem ggX5_quarrier_X1_has : GoodIn wsX5_quarrier wsX1_has := goodIn_r _ [9, 10, 50, 51, 52, 53, 54] (by decide +kernel) (by decide +kernel)
set_option maxRecDepth 20000 in
theorem gX5_quarrier_X1_has : GoodIn wsX5_quarrier (wsV RX5 81 RX1 yX1_has wsX1_has) := goodIn_app (goodIn_of _ (by decide +kernel)) ggX5_quarrier_X1_has
set_option maxRecDepth 20000 in
theorem ggX5_quarrier_X5_isWithin : GoodIn wsX5_quarrier wsX5_isWithin := goodIn_r _ [14] (by decide +kernel) (by decide +kernel)
set_option maxRecDepth 20000 in
theorem gX5_quarrier_X5_isWithin : GoodIn wsX5_quarrier (va_wsS RX5 26 yX5_isWithin wsX5_isWithin) := goodIn_app (goodIn_of _ (by decide +kernel)) ggX5_quarrier_X5_isWithin
set_option maxRecDepth 20000 in
theorem ggX5_quarrier_X2_quarrierFact : GoodIn wsX5_quarrier wsX2_quarrierFact := goodIn_r _ [19, 20, 21, 22, 23, 24, 25, 26, 27, 18, 28, 29, 30, 31, 32, 33, 34, 35, 36, 37, 38, 39, 40, 45, 46, 47, 48, 49, 50, 51, 52, 53, 54, 55, 56, 57, 58, 59] (by decide +kernel) (by decide +kernel)
set_option maxRecDepth 20000 in
theorem gX5_quarrier_X2_quarrierFact : GoodIn wsX5_quarrier (wsV RX5 181 RX2 yX2_quarrierFact wsX2_quarrierFact) := goodIn_app (goodIn_of _ (by decide +kernel)) ggX5_quarrier_X2_quarrierFact
theorem dX5_quarrier_0 : decode cX5_quarrier 0 = .ok (.aload_n 0, 1) := by decide +kernel
theorem dX5_quarrier_1 : decode cX5_quarrier 1 = .ok (.getfield 10, 3) := by decide +kernel
theorem dX5_quarrier_4 : decode cX5_quarrier 4 = .ok (.getfield 69, 3) := by decide +kernel
theorem dX5_quarrier_7 : decode cX5_quarrier 7 = .ok (.iload_n 1, 1) := by decide +kernel
theorem dX5_quarrier_8 : decode cX5_quarrier 8 = .ok (.invokevirtual 81, 3) := by decide +kernel
theorem dX5_quarrier_11 : decode cX5_quarrier 11 = .ok (.ifCond .eq 12, 3) := by decide +kernel
theorem dX5_quarrier_14 : decode cX5_quarrier 14 = .ok (.iload_n 2, 1) := by decide +kernel
theorem dX5_quarrier_15 : decode cX5_quarrier 15 = .ok (.iconst 0, 1) := by decide +kernel
theorem dX5_quarrier_16 : decode cX5_quarrier 16 = .ok (.iconst 4, 1) := by decide +kernel
theorem dX5_quarrier_17 : decode cX5_quarrier 17 = .ok (.invokestatic 26, 3) := by decide +kernel
theorem dX5_quarrier_20 : decode cX5_quarrier 20 = .ok (.ifCond .ne 13, 3) := by decide +kernel
theorem dX5_quarrier_23 : decode cX5_quarrier 23 = .ok (.new 30, 3) := by decide +kernel
theorem dX5_quarrier_26 : decode cX5_quarrier 26 = .ok (.dup, 1) := by decide +kernel
theorem dX5_quarrier_27 : decode cX5_quarrier 27 = .ok (.ldc 179, 2) := by decide +kernel
theorem dX5_quarrier_29 : decode cX5_quarrier 29 = .ok (.invokespecial 34, 3) := by decide +kernel
theorem dX5_quarrier_32 : decode cX5_quarrier 32 = .ok (.athrow, 1) := by decide +kernel
theorem dX5_quarrier_33 : decode cX5_quarrier 33 = .ok (.aload_n 0, 1) := by decide +kernel
theorem dX5_quarrier_34 : decode cX5_quarrier 34 = .ok (.getfield 10, 3) := by decide +kernel
theorem dX5_quarrier_37 : decode cX5_quarrier 37 = .ok (.iload_n 1, 1) := by decide +kernel
theorem dX5_quarrier_38 : decode cX5_quarrier 38 = .ok (.iload_n 2, 1) := by decide +kernel
theorem dX5_quarrier_39 : decode cX5_quarrier 39 = .ok (.invokevirtual 181, 3) := by decide +kernel
theorem dX5_quarrier_42 : decode cX5_quarrier 42 = .ok (.ireturn, 1) := by decide +kernel
set_option maxRecDepth 20000 in
theorem ggX5_wheel_X4_has : GoodIn wsX5_wheel wsX4_has := goodIn_r _ [9, 10, 42, 43, 44, 45, 46, 47, 48] (by decide +kernel) (by decide +kernel)
set_option maxRecDepth 20000 in
theorem gX5_wheel_X4_has : GoodIn wsX5_wheel (wsV RX5 97 RX4 yX4_has wsX4_has) := goodIn_app (goodIn_of _ (by decide +kernel)) ggX5_wheel_X4_has
set_option maxRecDepth 20000 in
theorem ggX5_wheel_X5_isWithin : GoodIn wsX5_wheel wsX5_isWithin := goodIn_r _ [14] (by decide +kernel) (by decide +kernel)
set_option maxRecDepth 20000 in
theorem gX5_wheel_X5_isWithin : GoodIn wsX5_wheel (va_wsS RX5 26 yX5_isWithin wsX5_isWithin) := goodIn_app (goodIn_of _ (by decide +kernel)) ggX5_wheel_X5_isWithin
set_option maxRecDepth 20000 in
theorem ggX5_wheel_X4_fact : GoodIn wsX5_wheel wsX4_fact := goodIn_r _ [18, 19, 20, 21, 22, 23, 24, 25, 8, 26, 27, 28, 29, 30, 31, 32, 42, 43, 44, 45, 46, 47, 48] (by decide +kernel) (by decide +kernel)
set_option maxRecDepth 20000 in
theorem gX5_wheel_X4_fact : GoodIn wsX5_wheel (wsV RX5 186 RX4 yX4_fact wsX4_fact) := goodIn_app (goodIn_of _ (by decide +kernel)) ggX5_wheel_X4_fact
theorem dX5_wheel_0 : decode cX5_wheel 0 = .ok (.aload_n 0, 1) := by decide +kernel
theorem dX5_wheel_1 : decode cX5_wheel 1 = .ok (.getfield 10, 3) := by decide +kernel
theorem dX5_wheel_4 : decode cX5_wheel 4 = .ok (.getfield 93, 3) := by decide +kernel
theorem dX5_wheel_7 : decode cX5_wheel 7 = .ok (.iload_n 1, 1) := by decide +kernel
theorem dX5_wheel_8 : decode cX5_wheel 8 = .ok (.invokevirtual 97, 3) := by decide +kernel
theorem dX5_wheel_11 : decode cX5_wheel 11 = .ok (.ifCond .eq 12, 3) := by decide +kernel
theorem dX5_wheel_14 : decode cX5_wheel 14 = .ok (.iload_n 2, 1) := by decide +kernel
theorem dX5_wheel_15 : decode cX5_wheel 15 = .ok (.iconst 0, 1) := by decide +kernel
theorem dX5_wheel_16 : decode cX5_wheel 16 = .ok (.iconst 5, 1) := by decide +kernel
theorem dX5_wheel_17 : decode cX5_wheel 17 = .ok (.invokestatic 26, 3) := by decide +kernel
theorem dX5_wheel_20 : decode cX5_wheel 20 = .ok (.ifCond .ne 13, 3) := by decide +kernel
theorem dX5_wheel_23 : decode cX5_wheel 23 = .ok (.new 30, 3) := by decide +kernel
theorem dX5_wheel_26 : decode cX5_wheel 26 = .ok (.dup, 1) := by decide +kernel
theorem dX5_wheel_27 : decode cX5_wheel 27 = .ok (.ldc 184, 2) := by decide +kernel
theorem dX5_wheel_29 : decode cX5_wheel 29 = .ok (.invokespecial 34, 3) := by decide +kernel
theorem dX5_wheel_32 : decode cX5_wheel 32 = .ok (.athrow, 1) := by decide +kernel
theorem dX5_wheel_33 : decode cX5_wheel 33 = .ok (.aload_n 0, 1) := by decide +kernel
theorem dX5_wheel_34 : decode cX5_wheel 34 = .ok (.getfield 10, 3) := by decide +kernel
theorem dX5_wheel_37 : decode cX5_wheel 37 = .ok (.getfield 93, 3) := by decide +kernel
theorem dX5_wheel_40 : decode cX5_wheel 40 = .ok (.iload_n 1, 1) := by decide +kernel
theorem dX5_wheel_41 : decode cX5_wheel 41 = .ok (.iload_n 2, 1) := by decide +kernel
theorem dX5_wheel_42 : decode cX5_wheel 42 = .ok (.invokevirtual 186, 3) := by decide +kernel
theorem dX5_wheel_45 : decode cX5_wheel 45 = .ok (.ireturn, 1) := by decide +kernel
set_option maxRecDepth 20000 in
theorem ggX5_raft_X3_has : GoodIn wsX5_raft wsX3_has := goodIn_r _ [8, 9, 51, 52, 53] (by decide +kernel) (by decide +kernel)
set_option maxRecDepth 20000 in
theorem gX5_raft_X3_has : GoodIn wsX5_raft (wsV RX5 128 RX3 yX3_has wsX3_has) := goodIn_app (goodIn_of _ (by decide +kernel)) ggX5_raft_X3_has
set_option maxRecDepth 20000 in
theorem ggX5_raft_X5_isWithin : GoodIn wsX5_raft wsX5_isWithin := goodIn_r _ [13] (by decide +kernel) (by decide +kernel)
set_option maxRecDepth 20000 in
theorem gX5_raft_X5_isWithin : GoodIn wsX5_raft (va_wsS RX5 26 yX5_isWithin wsX5_isWithin) := goodIn_app (goodIn_of _ (by decide +kernel)) ggX5_raft_X5_isWithin
set_option maxRecDepth 20000 in
theorem ggX5_raft_X5_raftFact : GoodIn wsX5_raft wsX5_raftFact := goodIn_r _ [17, 3, 18, 19, 20, 21, 22, 23, 24, 12, 25, 26, 27, 28, 29, 30, 31, 32, 33, 34, 35, 36, 37, 38, 39, 40, 41, 42, 43, 44, 7, 45, 46, 47, 48, 49, 50, 51, 52, 53, 54, 55, 56, 57, 58, 59, 60, 61, 62, 63, 64, 65] (by decide +kernel) (by decide +kernel)
set_option maxRecDepth 20000 in
theorem gX5_raft_X5_raftFact : GoodIn wsX5_raft (wsV RX5 191 RX5 yX5_raftFact wsX5_raftFact) := goodIn_app (goodIn_of _ (by decide +kernel)) ggX5_raft_X5_raftFact
theorem dX5_raft_0 : decode cX5_raft 0 = .ok (.aload_n 0, 1) := by decide +kernel
theorem dX5_raft_1 : decode cX5_raft 1 = .ok (.getfield 22, 3) := by decide +kernel
theorem dX5_raft_4 : decode cX5_raft 4 = .ok (.iload_n 1, 1) := by decide +kernel
theorem dX5_raft_5 : decode cX5_raft 5 = .ok (.invokevirtual 128, 3) := by decide +kernel
theorem dX5_raft_8 : decode cX5_raft 8 = .ok (.ifCond .eq 12, 3) := by decide +kernel
theorem dX5_raft_11 : decode cX5_raft 11 = .ok (.iload_n 2, 1) := by decide +kernel
theorem dX5_raft_12 : decode cX5_raft 12 = .ok (.iconst 0, 1) := by decide +kernel
theorem dX5_raft_13 : decode cX5_raft 13 = .ok (.iconst 3, 1) := by decide +kernel
theorem dX5_raft_14 : decode cX5_raft 14 = .ok (.invokestatic 26, 3) := by decide +kernel
theorem dX5_raft_17 : decode cX5_raft 17 = .ok (.ifCond .ne 13, 3) := by decide +kernel
theorem dX5_raft_20 : decode cX5_raft 20 = .ok (.new 30, 3) := by decide +kernel
theorem dX5_raft_23 : decode cX5_raft 23 = .ok (.dup, 1) := by decide +kernel
theorem dX5_raft_24 : decode cX5_raft 24 = .ok (.ldc 189, 2) := by decide +kernel
theorem dX5_raft_26 : decode cX5_raft 26 = .ok (.invokespecial 34, 3) := by decide +kernel
theorem dX5_raft_29 : decode cX5_raft 29 = .ok (.athrow, 1) := by decide +kernel
theorem dX5_raft_30 : decode cX5_raft 30 = .ok (.aload_n 0, 1) := by decide +kernel
theorem dX5_raft_31 : decode cX5_raft 31 = .ok (.iload_n 1, 1) := by decide +kernel
theorem dX5_raft_32 : decode cX5_raft 32 = .ok (.iload_n 2, 1) := by decide +kernel
theorem dX5_raft_33 : decode cX5_raft 33 = .ok (.invokevirtual 191, 3) := by decide +kernel
theorem dX5_raft_36 : decode cX5_raft 36 = .ok (.ireturn, 1) := by decide +kernel
set_option maxRecDepth 20000 in
theorem ggX5_count_X5_isWithin : GoodIn wsX5_count wsX5_isWithin := goodIn_r _ [6] (by decide +kernel) (by decide +kernel)
set_option maxRecDepth 20000 in
theorem gX5_count_X5_isWithin : GoodIn wsX5_count (va_wsS RX5 26 yX5_isWithin wsX5_isWithin) := goodIn_app (goodIn_of _ (by decide +kernel)) ggX5_count_X5_isWithin
set_option maxRecDepth 20000 in
theorem ggX5_count_X5_countOf : GoodIn wsX5_count wsX5_countOf := goodIn_r _ [10, 11, 12, 13, 14, 15, 16, 17, 18, 19, 20, 21, 22, 23, 24, 25, 26, 27, 28, 29, 30, 31, 32, 33, 34, 35, 36, 37, 38, 39, 40, 41, 42, 43, 44, 45, 46, 47, 48, 49, 50, 51, 52, 53, 54, 55, 56, 57, 58, 59, 60, 61, 62, 63, 64, 65, 66, 67, 68, 69] (by decide +kernel) (by decide +kernel)
set_option maxRecDepth 20000 in
theorem gX5_count_X5_countOf : GoodIn wsX5_count (wsV RX5 196 RX5 yX5_countOf wsX5_countOf) := goodIn_app (goodIn_of _ (by decide +kernel)) ggX5_count_X5_countOf
theorem dX5_count_0 : decode cX5_count 0 = .ok (.iload_n 1, 1) := by decide +kernel
theorem dX5_count_1 : decode cX5_count 1 = .ok (.iconst 0, 1) := by decide +kernel
theorem dX5_count_2 : decode cX5_count 2 = .ok (.bipush 9, 2) := by decide +kernel
theorem dX5_count_4 : decode cX5_count 4 = .ok (.invokestatic 26, 3) := by decide +kernel
theorem dX5_count_7 : decode cX5_count 7 = .ok (.ifCond .ne 13, 3) := by decide +kernel
theorem dX5_count_10 : decode cX5_count 10 = .ok (.new 30, 3) := by decide +kernel
theorem dX5_count_13 : decode cX5_count 13 = .ok (.dup, 1) := by decide +kernel
theorem dX5_count_14 : decode cX5_count 14 = .ok (.ldc 194, 2) := by decide +kernel
theorem dX5_count_16 : decode cX5_count 16 = .ok (.invokespecial 34, 3) := by decide +kernel
theorem dX5_count_19 : decode cX5_count 19 = .ok (.athrow, 1) := by decide +kernel
theorem dX5_count_20 : decode cX5_count 20 = .ok (.aload_n 0, 1) := by decide +kernel
theorem dX5_count_21 : decode cX5_count 21 = .ok (.iload_n 1, 1) := by decide +kernel
theorem dX5_count_22 : decode cX5_count 22 = .ok (.invokevirtual 196, 3) := by decide +kernel
theorem dX5_count_25 : decode cX5_count 25 = .ok (.ireturn, 1) := by decide +kernel
set_option maxRecDepth 20000 in
theorem ggX5_pass_X5_isWithin : GoodIn wsX5_pass wsX5_isWithin := goodIn_r _ [9] (by decide +kernel) (by decide +kernel)
set_option maxRecDepth 20000 in
theorem gX5_pass_X5_isWithin : GoodIn wsX5_pass (va_wsS RX5 26 yX5_isWithin wsX5_isWithin) := goodIn_app (goodIn_of _ (by decide +kernel)) ggX5_pass_X5_isWithin
set_option maxRecDepth 20000 in
theorem ggX5_pass_X2_goOn : GoodIn wsX5_pass wsX2_goOn := goodIn_r _ [14, 15, 16, 17, 13, 18, 19, 20, 21, 22, 23, 24, 25, 26, 27, 28, 29, 30, 31, 32, 33, 34, 35, 36, 37, 38, 39, 40, 41, 42, 43, 44, 45, 46, 47, 48, 49, 50, 51, 52, 53, 54, 55, 56, 57, 58, 59, 60, 61, 62, 63, 64, 65, 66, 67, 68, 69, 70, 71, 72, 73, 74, 75, 76, 77, 78, 79, 80, 81, 82, 83, 84, 85, 86, 87, 88, 89, 90, 91, 92, 93, 94, 95, 96, 97, 98, 99, 100, 101, 102, 103, 104, 105, 106, 107, 108, 109, 110, 115, 116, 117, 118, 119, 127, 128, 129, 130, 131, 120, 121, 122, 123, 124, 125, 126, 132, 133, 134, 135, 136] (by decide +kernel) (by decide +kernel)
set_option maxRecDepth 20000 in
theorem gX5_pass_X2_goOn : GoodIn wsX5_pass (wsV RX5 202 RX2 yX2_goOn wsX2_goOn) := goodIn_app (goodIn_of _ (by decide +kernel)) ggX5_pass_X2_goOn
theorem dX5_pass_0 : decode cX5_pass 0 = .ok (.iload_n 1, 1) := by decide +kernel
theorem dX5_pass_1 : decode cX5_pass 1 = .ok (.iconst 1, 1) := by decide +kernel
theorem dX5_pass_2 : decode cX5_pass 2 = .ok (.bipush 40, 2) := by decide +kernel
theorem dX5_pass_4 : decode cX5_pass 4 = .ok (.invokestatic 26, 3) := by decide +kernel
theorem dX5_pass_7 : decode cX5_pass 7 = .ok (.ifCond .ne 13, 3) := by decide +kernel
theorem dX5_pass_10 : decode cX5_pass 10 = .ok (.new 37, 3) := by decide +kernel
theorem dX5_pass_13 : decode cX5_pass 13 = .ok (.dup, 1) := by decide +kernel
theorem dX5_pass_14 : decode cX5_pass 14 = .ok (.ldc 199, 2) := by decide +kernel
theorem dX5_pass_16 : decode cX5_pass 16 = .ok (.invokespecial 41, 3) := by decide +kernel
theorem dX5_pass_19 : decode cX5_pass 19 = .ok (.athrow, 1) := by decide +kernel
theorem dX5_pass_20 : decode cX5_pass 20 = .ok (.aload_n 0, 1) := by decide +kernel
theorem dX5_pass_21 : decode cX5_pass 21 = .ok (.getfield 10, 3) := by decide +kernel
theorem dX5_pass_24 : decode cX5_pass 24 = .ok (.getfield 93, 3) := by decide +kernel
theorem dX5_pass_27 : decode cX5_pass 27 = .ok (.getfield 201, 3) := by decide +kernel
theorem dX5_pass_30 : decode cX5_pass 30 = .ok (.istore_n 2, 1) := by decide +kernel
theorem dX5_pass_31 : decode cX5_pass 31 = .ok (.aload_n 0, 1) := by decide +kernel
theorem dX5_pass_32 : decode cX5_pass 32 = .ok (.getfield 10, 3) := by decide +kernel
theorem dX5_pass_35 : decode cX5_pass 35 = .ok (.iload_n 1, 1) := by decide +kernel
theorem dX5_pass_36 : decode cX5_pass 36 = .ok (.invokevirtual 202, 3) := by decide +kernel
theorem dX5_pass_39 : decode cX5_pass 39 = .ok (.aload_n 0, 1) := by decide +kernel
theorem dX5_pass_40 : decode cX5_pass 40 = .ok (.getfield 10, 3) := by decide +kernel
theorem dX5_pass_43 : decode cX5_pass 43 = .ok (.getfield 93, 3) := by decide +kernel
theorem dX5_pass_46 : decode cX5_pass 46 = .ok (.getfield 201, 3) := by decide +kernel
theorem dX5_pass_49 : decode cX5_pass 49 = .ok (.iload_n 2, 1) := by decide +kernel
theorem dX5_pass_50 : decode cX5_pass 50 = .ok (.isub, 1) := by decide +kernel
theorem dX5_pass_51 : decode cX5_pass 51 = .ok (.ireturn, 1) := by decide +kernel
set_option maxRecDepth 20000 in
theorem ggX5_foresee_X5_isWithin : GoodIn wsX5_foresee wsX5_isWithin := goodIn_r _ [10] (by decide +kernel) (by decide +kernel)
set_option maxRecDepth 20000 in
theorem gX5_foresee_X5_isWithin : GoodIn wsX5_foresee (va_wsS RX5 26 yX5_isWithin wsX5_isWithin) := goodIn_app (goodIn_of _ (by decide +kernel)) ggX5_foresee_X5_isWithin
set_option maxRecDepth 20000 in
theorem ggX5_foresee_X2_copyFrom : GoodIn wsX5_foresee wsX2_copyFrom := goodIn_r _ [15, 16, 17, 18, 19, 20, 21, 22, 23, 24, 25, 26, 27, 28, 29, 30, 31, 32, 33, 34, 35, 36, 37, 38, 39, 40, 41, 42, 43, 44, 45, 46, 47, 48, 49, 50, 51, 52, 147, 148, 149, 150, 151, 152, 153, 154, 155, 156, 157, 158, 159, 160, 161, 162, 163, 164, 165, 166, 167, 168] (by decide +kernel) (by decide +kernel)
set_option maxRecDepth 20000 in
theorem gX5_foresee_X2_copyFrom : GoodIn wsX5_foresee (wsV RX5 208 RX2 yX2_copyFrom wsX2_copyFrom) := goodIn_app (goodIn_of _ (by decide +kernel)) ggX5_foresee_X2_copyFrom
set_option maxRecDepth 20000 in
theorem ggX5_foresee_X2_goOn : GoodIn wsX5_foresee wsX2_goOn := goodIn_r _ [56, 57, 58, 59, 14, 60, 19, 61, 20, 16, 62, 63, 64, 65, 66, 18, 67, 68, 69, 70, 71, 72, 73, 24, 74, 26, 75, 76, 77, 34, 78, 39, 79, 80, 81, 82, 27, 83, 84, 85, 86, 40, 37, 87, 88, 89, 90, 91, 92, 93, 94, 95, 96, 97, 98, 99, 100, 101, 102, 103, 104, 105, 106, 107, 44, 108, 46, 47, 48, 49, 50, 51, 52, 109, 110, 111, 112, 36, 38, 113, 114, 115, 116, 117, 118, 119, 120, 121, 122, 17, 123, 124, 125, 126, 127, 128, 129, 130, 147, 148, 149, 150, 151, 157, 158, 159, 160, 161, 162, 163, 164, 165, 166, 167, 168, 152, 153, 154, 155, 156] (by decide +kernel) (by decide +kernel)
set_option maxRecDepth 20000 in
theorem gX5_foresee_X2_goOn : GoodIn wsX5_foresee (wsV RX5 202 RX2 yX2_goOn wsX2_goOn) := goodIn_app (goodIn_of _ (by decide +kernel)) ggX5_foresee_X2_goOn
set_option maxRecDepth 20000 in
theorem ggX5_foresee_X2_countOf : GoodIn wsX5_foresee wsX2_countOf := goodIn_r _ [134, 16, 20, 68, 19, 119, 120, 121, 14, 122, 17, 123, 124, 125, 126, 115, 116, 117, 118, 135, 136, 137, 44, 138, 46, 51, 139, 140, 141, 34, 142, 36, 39, 147, 148, 149, 150, 151, 162, 163, 164, 165, 166, 167, 168, 157, 158, 159, 160, 161] (by decide +kernel) (by decide +kernel)
set_option maxRecDepth 20000 in
theorem gX5_foresee_X2_countOf : GoodIn wsX5_foresee (wsV RX5 212 RX2 yX2_countOf wsX2_countOf) := goodIn_app (goodIn_of _ (by decide +kernel)) ggX5_foresee_X2_countOf
theorem dX5_foresee_0 : decode cX5_foresee 0 = .ok (.iload_n 1, 1) := by decide +kernel
theorem dX5_foresee_1 : decode cX5_foresee 1 = .ok (.iconst 1, 1) := by decide +kernel
theorem dX5_foresee_2 : decode cX5_foresee 2 = .ok (.bipush 40, 2) := by decide +kernel
theorem dX5_foresee_4 : decode cX5_foresee 4 = .ok (.invokestatic 26, 3) := by decide +kernel
theorem dX5_foresee_7 : decode cX5_foresee 7 = .ok (.ifCond .ne 13, 3) := by decide +kernel
theorem dX5_foresee_10 : decode cX5_foresee 10 = .ok (.new 37, 3) := by decide +kernel
theorem dX5_foresee_13 : decode cX5_foresee 13 = .ok (.dup, 1) := by decide +kernel
theorem dX5_foresee_14 : decode cX5_foresee 14 = .ok (.ldc 199, 2) := by decide +kernel
theorem dX5_foresee_16 : decode cX5_foresee 16 = .ok (.invokespecial 41, 3) := by decide +kernel
theorem dX5_foresee_19 : decode cX5_foresee 19 = .ok (.athrow, 1) := by decide +kernel
theorem dX5_foresee_20 : decode cX5_foresee 20 = .ok (.iload_n 2, 1) := by decide +kernel
theorem dX5_foresee_21 : decode cX5_foresee 21 = .ok (.iconst 3, 1) := by decide +kernel
theorem dX5_foresee_22 : decode cX5_foresee 22 = .ok (.iconst 5, 1) := by decide +kernel
theorem dX5_foresee_23 : decode cX5_foresee 23 = .ok (.invokestatic 26, 3) := by decide +kernel
theorem dX5_foresee_26 : decode cX5_foresee 26 = .ok (.ifCond .ne 19, 3) := by decide +kernel
theorem dX5_foresee_29 : decode cX5_foresee 29 = .ok (.iload_n 2, 1) := by decide +kernel
theorem dX5_foresee_30 : decode cX5_foresee 30 = .ok (.bipush 9, 2) := by decide +kernel
theorem dX5_foresee_32 : decode cX5_foresee 32 = .ok (.if_icmp .eq 13, 3) := by decide +kernel
theorem dX5_foresee_35 : decode cX5_foresee 35 = .ok (.new 30, 3) := by decide +kernel
theorem dX5_foresee_38 : decode cX5_foresee 38 = .ok (.dup, 1) := by decide +kernel
theorem dX5_foresee_39 : decode cX5_foresee 39 = .ok (.ldc 206, 2) := by decide +kernel
theorem dX5_foresee_41 : decode cX5_foresee 41 = .ok (.invokespecial 34, 3) := by decide +kernel
theorem dX5_foresee_44 : decode cX5_foresee 44 = .ok (.athrow, 1) := by decide +kernel
theorem dX5_foresee_45 : decode cX5_foresee 45 = .ok (.aload_n 0, 1) := by decide +kernel
theorem dX5_foresee_46 : decode cX5_foresee 46 = .ok (.getfield 16, 3) := by decide +kernel
theorem dX5_foresee_49 : decode cX5_foresee 49 = .ok (.aload_n 0, 1) := by decide +kernel
theorem dX5_foresee_50 : decode cX5_foresee 50 = .ok (.getfield 10, 3) := by decide +kernel
