theorem dX5_foresee_53 : decode cX5_foresee 53 = .ok (.invokevirtual 208, 3) := by decide +kernel
theorem dX5_foresee_56 : decode cX5_foresee 56 = .ok (.aload_n 0, 1) := by decide +kernel
theorem dX5_foresee_57 : decode cX5_foresee 57 = .ok (.getfield 16, 3) := by decide +kernel
theorem dX5_foresee_60 : decode cX5_foresee 60 = .ok (.iload_n 1, 1) := by decide +kernel
theorem dX5_foresee_61 : decode cX5_foresee 61 = .ok (.invokevirtual 202, 3) := by decide +kernel
theorem dX5_foresee_64 : decode cX5_foresee 64 = .ok (.aload_n 0, 1) := by decide +kernel
theorem dX5_foresee_65 : decode cX5_foresee 65 = .ok (.getfield 16, 3) := by decide +kernel
theorem dX5_foresee_68 : decode cX5_foresee 68 = .ok (.iload_n 2, 1) := by decide +kernel
theorem dX5_foresee_69 : decode cX5_foresee 69 = .ok (.invokevirtual 212, 3) := by decide +kernel
theorem dX5_foresee_72 : decode cX5_foresee 72 = .ok (.ireturn, 1) := by decide +kernel
set_option maxRecDepth 20000 in
theorem ggX5_share_X4_numberSound : GoodIn wsX5_share wsX4_numberSound := goodIn_r _ [8, 9, 10, 20, 21, 22, 23, 24, 25, 26] (by decide +kernel) (by decide +kernel)
set_option maxRecDepth 20000 in
theorem gX5_share_X4_numberSound : GoodIn wsX5_share (wsV RX5 218 RX4 yX4_numberSound wsX4_numberSound) := goodIn_app (goodIn_of _ (by decide +kernel)) ggX5_share_X4_numberSound
theorem dX5_share_0 : decode cX5_share 0 = .ok (.aload_n 0, 1) := by decide +kernel
theorem dX5_share_1 : decode cX5_share 1 = .ok (.getfield 10, 3) := by decide +kernel
theorem dX5_share_4 : decode cX5_share 4 = .ok (.getfield 93, 3) := by decide +kernel
theorem dX5_share_7 : decode cX5_share 7 = .ok (.getfield 201, 3) := by decide +kernel
theorem dX5_share_10 : decode cX5_share 10 = .ok (.istore_n 1, 1) := by decide +kernel
theorem dX5_share_11 : decode cX5_share 11 = .ok (.iload_n 1, 1) := by decide +kernel
theorem dX5_share_12 : decode cX5_share 12 = .ok (.ifCond .ne 7, 3) := by decide +kernel
theorem dX5_share_15 : decode cX5_share 15 = .ok (.dconst 0, 1) := by decide +kernel
theorem dX5_share_16 : decode cX5_share 16 = .ok (.goto 17, 3) := by decide +kernel
theorem dX5_share_19 : decode cX5_share 19 = .ok (.aload_n 0, 1) := by decide +kernel
theorem dX5_share_20 : decode cX5_share 20 = .ok (.getfield 10, 3) := by decide +kernel
theorem dX5_share_23 : decode cX5_share 23 = .ok (.getfield 93, 3) := by decide +kernel
theorem dX5_share_26 : decode cX5_share 26 = .ok (.invokevirtual 218, 3) := by decide +kernel
theorem dX5_share_29 : decode cX5_share 29 = .ok (.i2d, 1) := by decide +kernel
theorem dX5_share_30 : decode cX5_share 30 = .ok (.iload_n 1, 1) := by decide +kernel
theorem dX5_share_31 : decode cX5_share 31 = .ok (.i2d, 1) := by decide +kernel
theorem dX5_share_32 : decode cX5_share 32 = .ok (.ddiv, 1) := by decide +kernel
theorem dX5_share_33 : decode cX5_share 33 = .ok (.dreturn, 1) := by decide +kernel
theorem dX5_isWithin_0 : decode cX5_isWithin 0 = .ok (.iload_n 0, 1) := by decide +kernel
theorem dX5_isWithin_1 : decode cX5_isWithin 1 = .ok (.iload_n 1, 1) := by decide +kernel
theorem dX5_isWithin_2 : decode cX5_isWithin 2 = .ok (.if_icmp .lt 12, 3) := by decide +kernel
theorem dX5_isWithin_5 : decode cX5_isWithin 5 = .ok (.iload_n 0, 1) := by decide +kernel
theorem dX5_isWithin_6 : decode cX5_isWithin 6 = .ok (.iload_n 2, 1) := by decide +kernel
theorem dX5_isWithin_7 : decode cX5_isWithin 7 = .ok (.if_icmp .gt 7, 3) := by decide +kernel
theorem dX5_isWithin_10 : decode cX5_isWithin 10 = .ok (.iconst 1, 1) := by decide +kernel
theorem dX5_isWithin_11 : decode cX5_isWithin 11 = .ok (.goto 4, 3) := by decide +kernel
theorem dX5_isWithin_14 : decode cX5_isWithin 14 = .ok (.iconst 0, 1) := by decide +kernel
theorem dX5_isWithin_15 : decode cX5_isWithin 15 = .ok (.ireturn, 1) := by decide +kernel
set_option maxRecDepth 20000 in
theorem ggX5_countOf_X2_countOf : GoodIn wsX5_countOf wsX2_countOf := goodIn_r _ [7, 8, 9, 10, 11, 12, 13, 14, 6, 15, 16, 17, 18, 19, 20, 21, 22, 23, 24, 25, 26, 27, 28, 29, 30, 31, 32, 33, 34, 35, 36, 37, 38, 43, 44, 45, 46, 47, 48, 49, 50, 51, 52, 53, 54, 55, 56, 57, 58, 59] (by decide +kernel) (by decide +kernel)
set_option maxRecDepth 20000 in
theorem gX5_countOf_X2_countOf : GoodIn wsX5_countOf (wsV RX5 212 RX2 yX2_countOf wsX2_countOf) := goodIn_app (goodIn_of _ (by decide +kernel)) ggX5_countOf_X2_countOf
theorem dX5_countOf_0 : decode cX5_countOf 0 = .ok (.iload_n 1, 1) := by decide +kernel
theorem dX5_countOf_1 : decode cX5_countOf 1 = .ok (.bipush 8, 2) := by decide +kernel
theorem dX5_countOf_3 : decode cX5_countOf 3 = .ok (.if_icmp .ne 10, 3) := by decide +kernel
theorem dX5_countOf_6 : decode cX5_countOf 6 = .ok (.aload_n 0, 1) := by decide +kernel
theorem dX5_countOf_7 : decode cX5_countOf 7 = .ok (.getfield 168, 3) := by decide +kernel
theorem dX5_countOf_10 : decode cX5_countOf 10 = .ok (.goto 11, 3) := by decide +kernel
theorem dX5_countOf_13 : decode cX5_countOf 13 = .ok (.aload_n 0, 1) := by decide +kernel
theorem dX5_countOf_14 : decode cX5_countOf 14 = .ok (.getfield 10, 3) := by decide +kernel
theorem dX5_countOf_17 : decode cX5_countOf 17 = .ok (.iload_n 1, 1) := by decide +kernel
theorem dX5_countOf_18 : decode cX5_countOf 18 = .ok (.invokevirtual 212, 3) := by decide +kernel
theorem dX5_countOf_21 : decode cX5_countOf 21 = .ok (.ireturn, 1) := by decide +kernel
set_option maxRecDepth 20000 in
theorem ggX5_stillCarried_X4_weightOn : GoodIn wsX5_stillCarried wsX4_weightOn := goodIn_r _ [9, 10, 11, 12, 13, 14, 8, 15, 16, 29, 30, 31, 32, 33, 34, 35] (by decide +kernel) (by decide +kernel)
set_option maxRecDepth 20000 in
theorem gX5_stillCarried_X4_weightOn : GoodIn wsX5_stillCarried (wsV RX5 232 RX4 yX4_weightOn wsX4_weightOn) := goodIn_app (goodIn_of _ (by decide +kernel)) ggX5_stillCarried_X4_weightOn
theorem dX5_stillCarried_0 : decode cX5_stillCarried 0 = .ok (.aload_n 0, 1) := by decide +kernel
theorem dX5_stillCarried_1 : decode cX5_stillCarried 1 = .ok (.getfield 22, 3) := by decide +kernel
theorem dX5_stillCarried_4 : decode cX5_stillCarried 4 = .ok (.getfield 229, 3) := by decide +kernel
theorem dX5_stillCarried_7 : decode cX5_stillCarried 7 = .ok (.iload_n 1, 1) := by decide +kernel
theorem dX5_stillCarried_8 : decode cX5_stillCarried 8 = .ok (.iaload, 1) := by decide +kernel
theorem dX5_stillCarried_9 : decode cX5_stillCarried 9 = .ok (.aload_n 0, 1) := by decide +kernel
theorem dX5_stillCarried_10 : decode cX5_stillCarried 10 = .ok (.getfield 10, 3) := by decide +kernel
theorem dX5_stillCarried_13 : decode cX5_stillCarried 13 = .ok (.getfield 93, 3) := by decide +kernel
theorem dX5_stillCarried_16 : decode cX5_stillCarried 16 = .ok (.iload_n 1, 1) := by decide +kernel
theorem dX5_stillCarried_17 : decode cX5_stillCarried 17 = .ok (.invokevirtual 232, 3) := by decide +kernel
theorem dX5_stillCarried_20 : decode cX5_stillCarried 20 = .ok (.isub, 1) := by decide +kernel
theorem dX5_stillCarried_21 : decode cX5_stillCarried 21 = .ok (.ireturn, 1) := by decide +kernel
set_option maxRecDepth 20000 in
theorem ggX5_raftFact_X5_stillCarried : GoodIn wsX5_raftFact wsX5_stillCarried := goodIn_r _ [10, 1, 2, 3, 4, 11, 12, 13, 14, 15, 16, 17, 18, 19, 20, 21, 22, 33, 34, 35, 36, 37, 38, 39, 40, 41, 42, 43, 44, 45, 46, 47, 48, 49, 50, 51] (by decide +kernel) (by decide +kernel)
set_option maxRecDepth 20000 in
theorem gX5_raftFact_X5_stillCarried : GoodIn wsX5_raftFact (wsV RX5 145 RX5 yX5_stillCarried wsX5_stillCarried) := goodIn_app (goodIn_of _ (by decide +kernel)) ggX5_raftFact_X5_stillCarried
set_option maxRecDepth 20000 in
theorem ggX5_raftFact_X4_numberOn : GoodIn wsX5_raftFact wsX4_numberOn := goodIn_r _ [26, 16, 17, 45, 46, 47, 48, 49, 50, 51] (by decide +kernel) (by decide +kernel)
set_option maxRecDepth 20000 in
theorem gX5_raftFact_X4_numberOn : GoodIn wsX5_raftFact (wsV RX5 156 RX4 yX4_numberOn wsX4_numberOn) := goodIn_app (goodIn_of _ (by decide +kernel)) ggX5_raftFact_X4_numberOn
set_option maxRecDepth 20000 in
theorem ggX5_raftFact_X3_isAway : GoodIn wsX5_raftFact wsX3_isAway := goodIn_r _ [31, 32, 37, 38, 39] (by decide +kernel) (by decide +kernel)
set_option maxRecDepth 20000 in
theorem gX5_raftFact_X3_isAway : GoodIn wsX5_raftFact (wsV RX5 136 RX3 yX3_isAway wsX3_isAway) := goodIn_app (goodIn_of _ (by decide +kernel)) ggX5_raftFact_X3_isAway
theorem dX5_raftFact_0 : decode cX5_raftFact 0 = .ok (.iload_n 2, 1) := by decide +kernel
theorem dX5_raftFact_1 : decode cX5_raftFact 1 = .ok (.tableswitch 55 0 2 #[27, 37, 43], 27) := by decide +kernel
theorem dX5_raftFact_28 : decode cX5_raftFact 28 = .ok (.aload_n 0, 1) := by decide +kernel
theorem dX5_raftFact_29 : decode cX5_raftFact 29 = .ok (.getfield 22, 3) := by decide +kernel
theorem dX5_raftFact_32 : decode cX5_raftFact 32 = .ok (.getfield 229, 3) := by decide +kernel
theorem dX5_raftFact_35 : decode cX5_raftFact 35 = .ok (.iload_n 1, 1) := by decide +kernel
theorem dX5_raftFact_36 : decode cX5_raftFact 36 = .ok (.iaload, 1) := by decide +kernel
theorem dX5_raftFact_37 : decode cX5_raftFact 37 = .ok (.ireturn, 1) := by decide +kernel
theorem dX5_raftFact_38 : decode cX5_raftFact 38 = .ok (.aload_n 0, 1) := by decide +kernel
theorem dX5_raftFact_39 : decode cX5_raftFact 39 = .ok (.iload_n 1, 1) := by decide +kernel
theorem dX5_raftFact_40 : decode cX5_raftFact 40 = .ok (.invokevirtual 145, 3) := by decide +kernel
theorem dX5_raftFact_43 : decode cX5_raftFact 43 = .ok (.ireturn, 1) := by decide +kernel
theorem dX5_raftFact_44 : decode cX5_raftFact 44 = .ok (.aload_n 0, 1) := by decide +kernel
theorem dX5_raftFact_45 : decode cX5_raftFact 45 = .ok (.getfield 10, 3) := by decide +kernel
theorem dX5_raftFact_48 : decode cX5_raftFact 48 = .ok (.getfield 93, 3) := by decide +kernel
theorem dX5_raftFact_51 : decode cX5_raftFact 51 = .ok (.iload_n 1, 1) := by decide +kernel
theorem dX5_raftFact_52 : decode cX5_raftFact 52 = .ok (.invokevirtual 156, 3) := by decide +kernel
theorem dX5_raftFact_55 : decode cX5_raftFact 55 = .ok (.ireturn, 1) := by decide +kernel
theorem dX5_raftFact_56 : decode cX5_raftFact 56 = .ok (.aload_n 0, 1) := by decide +kernel
theorem dX5_raftFact_57 : decode cX5_raftFact 57 = .ok (.getfield 22, 3) := by decide +kernel
theorem dX5_raftFact_60 : decode cX5_raftFact 60 = .ok (.iload_n 1, 1) := by decide +kernel
theorem dX5_raftFact_61 : decode cX5_raftFact 61 = .ok (.aload_n 0, 1) := by decide +kernel
theorem dX5_raftFact_62 : decode cX5_raftFact 62 = .ok (.getfield 10, 3) := by decide +kernel
theorem dX5_raftFact_65 : decode cX5_raftFact 65 = .ok (.getfield 133, 3) := by decide +kernel
theorem dX5_raftFact_68 : decode cX5_raftFact 68 = .ok (.invokevirtual 136, 3) := by decide +kernel
theorem dX5_raftFact_71 : decode cX5_raftFact 71 = .ok (.ifCond .eq 7, 3) := by decide +kernel
theorem dX5_raftFact_74 : decode cX5_raftFact 74 = .ok (.iconst 1, 1) := by decide +kernel
theorem dX5_raftFact_75 : decode cX5_raftFact 75 = .ok (.goto 4, 3) := by decide +kernel
theorem dX5_raftFact_78 : decode cX5_raftFact 78 = .ok (.iconst 0, 1) := by decide +kernel
theorem dX5_raftFact_79 : decode cX5_raftFact 79 = .ok (.ireturn, 1) := by decide +kernel
theorem dX6_init_0 : decode cX6_init 0 = .ok (.aload_n 0, 1) := by decide +kernel
theorem dX6_init_1 : decode cX6_init 1 = .ok (.invokespecial 1, 3) := by decide +kernel
theorem dX6_init_4 : decode cX6_init 4 = .ok (.aload_n 0, 1) := by decide +kernel
theorem dX6_init_5 : decode cX6_init 5 = .ok (.bipush 9, 2) := by decide +kernel
theorem dX6_init_7 : decode cX6_init 7 = .ok (.newarray .int, 2) := by decide +kernel
theorem dX6_init_9 : decode cX6_init 9 = .ok (.dup, 1) := by decide +kernel
theorem dX6_init_10 : decode cX6_init 10 = .ok (.iconst 0, 1) := by decide +kernel
theorem dX6_init_11 : decode cX6_init 11 = .ok (.iconst 5, 1) := by decide +kernel
theorem dX6_init_12 : decode cX6_init 12 = .ok (.iastore, 1) := by decide +kernel
theorem dX6_init_13 : decode cX6_init 13 = .ok (.dup, 1) := by decide +kernel
theorem dX6_init_14 : decode cX6_init 14 = .ok (.iconst 1, 1) := by decide +kernel
theorem dX6_init_15 : decode cX6_init 15 = .ok (.iconst 5, 1) := by decide +kernel
theorem dX6_init_16 : decode cX6_init 16 = .ok (.iastore, 1) := by decide +kernel
theorem dX6_init_17 : decode cX6_init 17 = .ok (.dup, 1) := by decide +kernel
theorem dX6_init_18 : decode cX6_init 18 = .ok (.iconst 2, 1) := by decide +kernel
theorem dX6_init_19 : decode cX6_init 19 = .ok (.iconst 5, 1) := by decide +kernel
theorem dX6_init_20 : decode cX6_init 20 = .ok (.iastore, 1) := by decide +kernel
theorem dX6_init_21 : decode cX6_init 21 = .ok (.dup, 1) := by decide +kernel
theorem dX6_init_22 : decode cX6_init 22 = .ok (.iconst 3, 1) := by decide +kernel
theorem dX6_init_23 : decode cX6_init 23 = .ok (.iconst 5, 1) := by decide +kernel
theorem dX6_init_24 : decode cX6_init 24 = .ok (.iastore, 1) := by decide +kernel
theorem dX6_init_25 : decode cX6_init 25 = .ok (.dup, 1) := by decide +kernel
theorem dX6_init_26 : decode cX6_init 26 = .ok (.iconst 4, 1) := by decide +kernel
theorem dX6_init_27 : decode cX6_init 27 = .ok (.iconst 5, 1) := by decide +kernel
theorem dX6_init_28 : decode cX6_init 28 = .ok (.iastore, 1) := by decide +kernel
theorem dX6_init_29 : decode cX6_init 29 = .ok (.dup, 1) := by decide +kernel
theorem dX6_init_30 : decode cX6_init 30 = .ok (.iconst 5, 1) := by decide +kernel
theorem dX6_init_31 : decode cX6_init 31 = .ok (.iconst 5, 1) := by decide +kernel
theorem dX6_init_32 : decode cX6_init 32 = .ok (.iastore, 1) := by decide +kernel
theorem dX6_init_33 : decode cX6_init 33 = .ok (.dup, 1) := by decide +kernel
theorem dX6_init_34 : decode cX6_init 34 = .ok (.bipush 6, 2) := by decide +kernel
theorem dX6_init_36 : decode cX6_init 36 = .ok (.iconst 5, 1) := by decide +kernel
theorem dX6_init_37 : decode cX6_init 37 = .ok (.iastore, 1) := by decide +kernel
theorem dX6_init_38 : decode cX6_init 38 = .ok (.dup, 1) := by decide +kernel
theorem dX6_init_39 : decode cX6_init 39 = .ok (.bipush 7, 2) := by decide +kernel
theorem dX6_init_41 : decode cX6_init 41 = .ok (.iconst 5, 1) := by decide +kernel
theorem dX6_init_42 : decode cX6_init 42 = .ok (.iastore, 1) := by decide +kernel
theorem dX6_init_43 : decode cX6_init 43 = .ok (.dup, 1) := by decide +kernel
theorem dX6_init_44 : decode cX6_init 44 = .ok (.bipush 8, 2) := by decide +kernel
theorem dX6_init_46 : decode cX6_init 46 = .ok (.iconst 5, 1) := by decide +kernel
theorem dX6_init_47 : decode cX6_init 47 = .ok (.iastore, 1) := by decide +kernel
theorem dX6_init_48 : decode cX6_init 48 = .ok (.putfield 7, 3) := by decide +kernel
theorem dX6_init_51 : decode cX6_init 51 = .ok (.aload_n 0, 1) := by decide +kernel
theorem dX6_init_52 : decode cX6_init 52 = .ok (.iconst 0, 1) := by decide +kernel
theorem dX6_init_53 : decode cX6_init 53 = .ok (.anewarray 13, 3) := by decide +kernel
theorem dX6_init_56 : decode cX6_init 56 = .ok (.putfield 14, 3) := by decide +kernel
theorem dX6_init_59 : decode cX6_init 59 = .ok (.aload_n 0, 1) := by decide +kernel
theorem dX6_init_60 : decode cX6_init 60 = .ok (.iconst 0, 1) := by decide +kernel
theorem dX6_init_61 : decode cX6_init 61 = .ok (.anewarray 13, 3) := by decide +kernel
theorem dX6_init_64 : decode cX6_init 64 = .ok (.putfield 18, 3) := by decide +kernel
theorem dX6_init_67 : decode cX6_init 67 = .ok (.aload_n 0, 1) := by decide +kernel
theorem dX6_init_68 : decode cX6_init 68 = .ok (.iconst 0, 1) := by decide +kernel
theorem dX6_init_69 : decode cX6_init 69 = .ok (.anewarray 13, 3) := by decide +kernel
theorem dX6_init_72 : decode cX6_init 72 = .ok (.putfield 21, 3) := by decide +kernel
theorem dX6_init_75 : decode cX6_init 75 = .ok (.aload_n 0, 1) := by decide +kernel
theorem dX6_init_76 : decode cX6_init 76 = .ok (.bipush 60, 2) := by decide +kernel
theorem dX6_init_78 : decode cX6_init 78 = .ok (.anewarray 24, 3) := by decide +kernel
theorem dX6_init_81 : decode cX6_init 81 = .ok (.putfield 26, 3) := by decide +kernel
theorem dX6_init_84 : decode cX6_init 84 = .ok (.return_, 1) := by decide +kernel
theorem dX6_more_0 : decode cX6_more 0 = .ok (.aload_n 0, 1) := by decide +kernel
theorem dX6_more_1 : decode cX6_more 1 = .ok (.arraylength, 1) := by decide +kernel
theorem dX6_more_2 : decode cX6_more 2 = .ok (.iconst 1, 1) := by decide +kernel
theorem dX6_more_3 : decode cX6_more 3 = .ok (.iadd, 1) := by decide +kernel
theorem dX6_more_4 : decode cX6_more 4 = .ok (.anewarray 13, 3) := by decide +kernel
theorem dX6_more_7 : decode cX6_more 7 = .ok (.astore_n 2, 1) := by decide +kernel
theorem dX6_more_8 : decode cX6_more 8 = .ok (.iconst 0, 1) := by decide +kernel
theorem dX6_more_9 : decode cX6_more 9 = .ok (.istore_n 3, 1) := by decide +kernel
theorem dX6_more_10 : decode cX6_more 10 = .ok (.iload_n 3, 1) := by decide +kernel
theorem dX6_more_11 : decode cX6_more 11 = .ok (.aload_n 0, 1) := by decide +kernel
theorem dX6_more_12 : decode cX6_more 12 = .ok (.arraylength, 1) := by decide +kernel
theorem dX6_more_13 : decode cX6_more 13 = .ok (.if_icmp .ge 15, 3) := by decide +kernel
theorem dX6_more_16 : decode cX6_more 16 = .ok (.aload_n 2, 1) := by decide +kernel
theorem dX6_more_17 : decode cX6_more 17 = .ok (.iload_n 3, 1) := by decide +kernel
theorem dX6_more_18 : decode cX6_more 18 = .ok (.aload_n 0, 1) := by decide +kernel
theorem dX6_more_19 : decode cX6_more 19 = .ok (.iload_n 3, 1) := by decide +kernel
theorem dX6_more_20 : decode cX6_more 20 = .ok (.aaload, 1) := by decide +kernel
theorem dX6_more_21 : decode cX6_more 21 = .ok (.aastore, 1) := by decide +kernel
theorem dX6_more_22 : decode cX6_more 22 = .ok (.iinc 3 1, 3) := by decide +kernel
theorem dX6_more_25 : decode cX6_more 25 = .ok (.goto (-15), 3) := by decide +kernel
theorem dX6_more_28 : decode cX6_more 28 = .ok (.aload_n 2, 1) := by decide +kernel
theorem dX6_more_29 : decode cX6_more 29 = .ok (.aload_n 0, 1) := by decide +kernel
theorem dX6_more_30 : decode cX6_more 30 = .ok (.arraylength, 1) := by decide +kernel
theorem dX6_more_31 : decode cX6_more 31 = .ok (.aload_n 1, 1) := by decide +kernel
theorem dX6_more_32 : decode cX6_more 32 = .ok (.aastore, 1) := by decide +kernel
theorem dX6_more_33 : decode cX6_more 33 = .ok (.aload_n 2, 1) := by decide +kernel
theorem dX6_more_34 : decode cX6_more 34 = .ok (.areturn, 1) := by decide +kernel
theorem dX6_water_0 : decode cX6_water 0 = .ok (.aload_n 0, 1) := by decide +kernel
theorem dX6_water_1 : decode cX6_water 1 = .ok (.getfield 7, 3) := by decide +kernel
theorem dX6_water_4 : decode cX6_water 4 = .ok (.aload_n 0, 1) := by decide +kernel
theorem dX6_water_5 : decode cX6_water 5 = .ok (.getfield 47, 3) := by decide +kernel
theorem dX6_water_8 : decode cX6_water 8 = .ok (.bipush 9, 2) := by decide +kernel
theorem dX6_water_10 : decode cX6_water 10 = .ok (.irem, 1) := by decide +kernel
theorem dX6_water_11 : decode cX6_water 11 = .ok (.iaload, 1) := by decide +kernel
theorem dX6_water_12 : decode cX6_water 12 = .ok (.ireturn, 1) := by decide +kernel
set_option maxRecDepth 20000 in
theorem ggX6_pass_X7_init : GoodIn wsX6_pass wsX7_init := goodIn_r _ [15, 16, 17, 18, 19, 34, 35, 36, 37, 38] (by decide +kernel) (by decide +kernel)
set_option maxRecDepth 20000 in
theorem gX6_pass_X7_init_n50 : GoodIn wsX6_pass (wsX7_init) := ggX6_pass_X7_init
set_option maxRecDepth 20000 in
theorem ggX6_pass_X6_water : GoodIn wsX6_pass wsX6_water := goodIn_r _ [24, 25, 8, 26, 27, 28, 29, 30, 31, 32, 33] (by decide +kernel) (by decide +kernel)
set_option maxRecDepth 20000 in
theorem gX6_pass_X6_water : GoodIn wsX6_pass (wsV RX6 61 RX6 yX6_water wsX6_water) := goodIn_app (goodIn_of _ (by decide +kernel)) ggX6_pass_X6_water
theorem dX6_pass_0 : decode cX6_pass 0 = .ok (.aload_n 0, 1) := by decide +kernel
theorem dX6_pass_1 : decode cX6_pass 1 = .ok (.getfield 39, 3) := by decide +kernel
theorem dX6_pass_4 : decode cX6_pass 4 = .ok (.istore_n 1, 1) := by decide +kernel
theorem dX6_pass_5 : decode cX6_pass 5 = .ok (.aload_n 0, 1) := by decide +kernel
theorem dX6_pass_6 : decode cX6_pass 6 = .ok (.getfield 18, 3) := by decide +kernel
theorem dX6_pass_9 : decode cX6_pass 9 = .ok (.astore_n 2, 1) := by decide +kernel
theorem dX6_pass_10 : decode cX6_pass 10 = .ok (.aload_n 2, 1) := by decide +kernel
theorem dX6_pass_11 : decode cX6_pass 11 = .ok (.arraylength, 1) := by decide +kernel
theorem dX6_pass_12 : decode cX6_pass 12 = .ok (.istore_n 3, 1) := by decide +kernel
theorem dX6_pass_13 : decode cX6_pass 13 = .ok (.iconst 0, 1) := by decide +kernel
theorem dX6_pass_14 : decode cX6_pass 14 = .ok (.istore 4, 2) := by decide +kernel
theorem dX6_pass_16 : decode cX6_pass 16 = .ok (.iload 4, 2) := by decide +kernel
theorem dX6_pass_18 : decode cX6_pass 18 = .ok (.iload_n 3, 1) := by decide +kernel
theorem dX6_pass_19 : decode cX6_pass 19 = .ok (.if_icmp .ge 267, 3) := by decide +kernel
theorem dX6_pass_22 : decode cX6_pass 22 = .ok (.aload_n 2, 1) := by decide +kernel
theorem dX6_pass_23 : decode cX6_pass 23 = .ok (.iload 4, 2) := by decide +kernel
theorem dX6_pass_25 : decode cX6_pass 25 = .ok (.aaload, 1) := by decide +kernel
theorem dX6_pass_26 : decode cX6_pass 26 = .ok (.astore 5, 2) := by decide +kernel
theorem dX6_pass_28 : decode cX6_pass 28 = .ok (.aload 5, 2) := by decide +kernel
theorem dX6_pass_30 : decode cX6_pass 30 = .ok (.iconst 1, 1) := by decide +kernel
theorem dX6_pass_31 : decode cX6_pass 31 = .ok (.iaload, 1) := by decide +kernel
theorem dX6_pass_32 : decode cX6_pass 32 = .ok (.ifCond .lt 248, 3) := by decide +kernel
theorem dX6_pass_35 : decode cX6_pass 35 = .ok (.aload 5, 2) := by decide +kernel
theorem dX6_pass_37 : decode cX6_pass 37 = .ok (.iconst 2, 1) := by decide +kernel
theorem dX6_pass_38 : decode cX6_pass 38 = .ok (.iaload, 1) := by decide +kernel
theorem dX6_pass_39 : decode cX6_pass 39 = .ok (.bipush 59, 2) := by decide +kernel
theorem dX6_pass_41 : decode cX6_pass 41 = .ok (.if_icmp .le 6, 3) := by decide +kernel
theorem dX6_pass_44 : decode cX6_pass 44 = .ok (.goto 236, 3) := by decide +kernel
theorem dX6_pass_47 : decode cX6_pass 47 = .ok (.aload_n 0, 1) := by decide +kernel
theorem dX6_pass_48 : decode cX6_pass 48 = .ok (.getfield 14, 3) := by decide +kernel
theorem dX6_pass_51 : decode cX6_pass 51 = .ok (.aload 5, 2) := by decide +kernel
theorem dX6_pass_53 : decode cX6_pass 53 = .ok (.iconst 1, 1) := by decide +kernel
theorem dX6_pass_54 : decode cX6_pass 54 = .ok (.iaload, 1) := by decide +kernel
theorem dX6_pass_55 : decode cX6_pass 55 = .ok (.aaload, 1) := by decide +kernel
theorem dX6_pass_56 : decode cX6_pass 56 = .ok (.astore 6, 2) := by decide +kernel
theorem dX6_pass_58 : decode cX6_pass 58 = .ok (.aload 5, 2) := by decide +kernel
theorem dX6_pass_60 : decode cX6_pass 60 = .ok (.iconst 3, 1) := by decide +kernel
theorem dX6_pass_61 : decode cX6_pass 61 = .ok (.dup2, 1) := by decide +kernel
theorem dX6_pass_62 : decode cX6_pass 62 = .ok (.iaload, 1) := by decide +kernel
theorem dX6_pass_63 : decode cX6_pass 63 = .ok (.aload 5, 2) := by decide +kernel
theorem dX6_pass_65 : decode cX6_pass 65 = .ok (.iconst 0, 1) := by decide +kernel
theorem dX6_pass_66 : decode cX6_pass 66 = .ok (.iaload, 1) := by decide +kernel
theorem dX6_pass_67 : decode cX6_pass 67 = .ok (.iadd, 1) := by decide +kernel
theorem dX6_pass_68 : decode cX6_pass 68 = .ok (.iastore, 1) := by decide +kernel
theorem dX6_pass_69 : decode cX6_pass 69 = .ok (.aload 5, 2) := by decide +kernel
theorem dX6_pass_71 : decode cX6_pass 71 = .ok (.iconst 2, 1) := by decide +kernel
theorem dX6_pass_72 : decode cX6_pass 72 = .ok (.aload 5, 2) := by decide +kernel
theorem dX6_pass_74 : decode cX6_pass 74 = .ok (.iconst 2, 1) := by decide +kernel
theorem dX6_pass_75 : decode cX6_pass 75 = .ok (.iaload, 1) := by decide +kernel
theorem dX6_pass_76 : decode cX6_pass 76 = .ok (.aload 6, 2) := by decide +kernel
theorem dX6_pass_78 : decode cX6_pass 78 = .ok (.iconst 0, 1) := by decide +kernel
theorem dX6_pass_79 : decode cX6_pass 79 = .ok (.iaload, 1) := by decide +kernel
theorem dX6_pass_80 : decode cX6_pass 80 = .ok (.iadd, 1) := by decide +kernel
theorem dX6_pass_81 : decode cX6_pass 81 = .ok (.iconst 1, 1) := by decide +kernel
theorem dX6_pass_82 : decode cX6_pass 82 = .ok (.iadd, 1) := by decide +kernel
theorem dX6_pass_83 : decode cX6_pass 83 = .ok (.bipush 100, 2) := by decide +kernel
theorem dX6_pass_85 : decode cX6_pass 85 = .ok (.if_icmp .le 8, 3) := by decide +kernel
theorem dX6_pass_88 : decode cX6_pass 88 = .ok (.bipush 100, 2) := by decide +kernel
theorem dX6_pass_90 : decode cX6_pass 90 = .ok (.goto 14, 3) := by decide +kernel
theorem dX6_pass_93 : decode cX6_pass 93 = .ok (.aload 5, 2) := by decide +kernel
theorem dX6_pass_95 : decode cX6_pass 95 = .ok (.iconst 2, 1) := by decide +kernel
theorem dX6_pass_96 : decode cX6_pass 96 = .ok (.iaload, 1) := by decide +kernel
theorem dX6_pass_97 : decode cX6_pass 97 = .ok (.aload 6, 2) := by decide +kernel
theorem dX6_pass_99 : decode cX6_pass 99 = .ok (.iconst 0, 1) := by decide +kernel
theorem dX6_pass_100 : decode cX6_pass 100 = .ok (.iaload, 1) := by decide +kernel
theorem dX6_pass_101 : decode cX6_pass 101 = .ok (.iadd, 1) := by decide +kernel
theorem dX6_pass_102 : decode cX6_pass 102 = .ok (.iconst 1, 1) := by decide +kernel
theorem dX6_pass_103 : decode cX6_pass 103 = .ok (.iadd, 1) := by decide +kernel
theorem dX6_pass_104 : decode cX6_pass 104 = .ok (.iastore, 1) := by decide +kernel
theorem dX6_pass_105 : decode cX6_pass 105 = .ok (.aload 5, 2) := by decide +kernel
theorem dX6_pass_107 : decode cX6_pass 107 = .ok (.iconst 3, 1) := by decide +kernel
theorem dX6_pass_108 : decode cX6_pass 108 = .ok (.iaload, 1) := by decide +kernel
theorem dX6_pass_109 : decode cX6_pass 109 = .ok (.bipush 9, 2) := by decide +kernel
theorem dX6_pass_111 : decode cX6_pass 111 = .ok (.if_icmp .le 169, 3) := by decide +kernel
theorem dX6_pass_114 : decode cX6_pass 114 = .ok (.aload 6, 2) := by decide +kernel
theorem dX6_pass_116 : decode cX6_pass 116 = .ok (.iconst 2, 1) := by decide +kernel
theorem dX6_pass_117 : decode cX6_pass 117 = .ok (.iaload, 1) := by decide +kernel
theorem dX6_pass_118 : decode cX6_pass 118 = .ok (.ifCond .le 162, 3) := by decide +kernel
theorem dX6_pass_121 : decode cX6_pass 121 = .ok (.aload_n 0, 1) := by decide +kernel
theorem dX6_pass_122 : decode cX6_pass 122 = .ok (.getfield 39, 3) := by decide +kernel
theorem dX6_pass_125 : decode cX6_pass 125 = .ok (.bipush 60, 2) := by decide +kernel
theorem dX6_pass_127 : decode cX6_pass 127 = .ok (.if_icmp .ge 153, 3) := by decide +kernel
theorem dX6_pass_130 : decode cX6_pass 130 = .ok (.new 24, 3) := by decide +kernel
theorem dX6_pass_133 : decode cX6_pass 133 = .ok (.dup, 1) := by decide +kernel
theorem dX6_pass_134 : decode cX6_pass 134 = .ok (.invokespecial 50, 3) := by decide +kernel
theorem dX6_pass_137 : decode cX6_pass 137 = .ok (.astore 7, 2) := by decide +kernel
theorem dX6_pass_139 : decode cX6_pass 139 = .ok (.aload 7, 2) := by decide +kernel
theorem dX6_pass_141 : decode cX6_pass 141 = .ok (.aload 5, 2) := by decide +kernel
theorem dX6_pass_143 : decode cX6_pass 143 = .ok (.iconst 1, 1) := by decide +kernel
theorem dX6_pass_144 : decode cX6_pass 144 = .ok (.iaload, 1) := by decide +kernel
theorem dX6_pass_145 : decode cX6_pass 145 = .ok (.putfield 51, 3) := by decide +kernel
theorem dX6_pass_148 : decode cX6_pass 148 = .ok (.aload 7, 2) := by decide +kernel
theorem dX6_pass_150 : decode cX6_pass 150 = .ok (.aload_n 0, 1) := by decide +kernel
theorem dX6_pass_151 : decode cX6_pass 151 = .ok (.getfield 47, 3) := by decide +kernel
theorem dX6_pass_154 : decode cX6_pass 154 = .ok (.iconst 3, 1) := by decide +kernel
theorem dX6_pass_155 : decode cX6_pass 155 = .ok (.irem, 1) := by decide +kernel
theorem dX6_pass_156 : decode cX6_pass 156 = .ok (.ifCond .ne 7, 3) := by decide +kernel
theorem dX6_pass_159 : decode cX6_pass 159 = .ok (.iconst 2, 1) := by decide +kernel
theorem dX6_pass_160 : decode cX6_pass 160 = .ok (.goto 4, 3) := by decide +kernel
theorem dX6_pass_163 : decode cX6_pass 163 = .ok (.iconst 1, 1) := by decide +kernel
theorem dX6_pass_164 : decode cX6_pass 164 = .ok (.aload 5, 2) := by decide +kernel
theorem dX6_pass_166 : decode cX6_pass 166 = .ok (.iconst 0, 1) := by decide +kernel
theorem dX6_pass_167 : decode cX6_pass 167 = .ok (.iaload, 1) := by decide +kernel
theorem dX6_pass_168 : decode cX6_pass 168 = .ok (.iconst 2, 1) := by decide +kernel
theorem dX6_pass_169 : decode cX6_pass 169 = .ok (.idiv, 1) := by decide +kernel
theorem dX6_pass_170 : decode cX6_pass 170 = .ok (.iadd, 1) := by decide +kernel
theorem dX6_pass_171 : decode cX6_pass 171 = .ok (.putfield 54, 3) := by decide +kernel
theorem dX6_pass_174 : decode cX6_pass 174 = .ok (.aload 7, 2) := by decide +kernel
theorem dX6_pass_176 : decode cX6_pass 176 = .ok (.bipush 7, 2) := by decide +kernel
theorem dX6_pass_178 : decode cX6_pass 178 = .ok (.aload 6, 2) := by decide +kernel
theorem dX6_pass_180 : decode cX6_pass 180 = .ok (.iconst 3, 1) := by decide +kernel
theorem dX6_pass_181 : decode cX6_pass 181 = .ok (.iaload, 1) := by decide +kernel
theorem dX6_pass_182 : decode cX6_pass 182 = .ok (.imul, 1) := by decide +kernel
theorem dX6_pass_183 : decode cX6_pass 183 = .ok (.iconst 3, 1) := by decide +kernel
theorem dX6_pass_184 : decode cX6_pass 184 = .ok (.aload 7, 2) := by decide +kernel
theorem dX6_pass_186 : decode cX6_pass 186 = .ok (.getfield 54, 3) := by decide +kernel
theorem dX6_pass_189 : decode cX6_pass 189 = .ok (.imul, 1) := by decide +kernel
theorem dX6_pass_190 : decode cX6_pass 190 = .ok (.iadd, 1) := by decide +kernel
theorem dX6_pass_191 : decode cX6_pass 191 = .ok (.bipush 10, 2) := by decide +kernel
theorem dX6_pass_193 : decode cX6_pass 193 = .ok (.irem, 1) := by decide +kernel
theorem dX6_pass_194 : decode cX6_pass 194 = .ok (.aload 6, 2) := by decide +kernel
theorem dX6_pass_196 : decode cX6_pass 196 = .ok (.iconst 1, 1) := by decide +kernel
theorem dX6_pass_197 : decode cX6_pass 197 = .ok (.iaload, 1) := by decide +kernel
theorem dX6_pass_198 : decode cX6_pass 198 = .ok (.if_icmp .ge 7, 3) := by decide +kernel
theorem dX6_pass_201 : decode cX6_pass 201 = .ok (.iconst 1, 1) := by decide +kernel
theorem dX6_pass_202 : decode cX6_pass 202 = .ok (.goto 4, 3) := by decide +kernel
theorem dX6_pass_205 : decode cX6_pass 205 = .ok (.iconst 0, 1) := by decide +kernel
theorem dX6_pass_206 : decode cX6_pass 206 = .ok (.putfield 57, 3) := by decide +kernel
theorem dX6_pass_209 : decode cX6_pass 209 = .ok (.aload_n 0, 1) := by decide +kernel
theorem dX6_pass_210 : decode cX6_pass 210 = .ok (.getfield 26, 3) := by decide +kernel
theorem dX6_pass_213 : decode cX6_pass 213 = .ok (.aload_n 0, 1) := by decide +kernel
theorem dX6_pass_214 : decode cX6_pass 214 = .ok (.getfield 39, 3) := by decide +kernel
theorem dX6_pass_217 : decode cX6_pass 217 = .ok (.aload 7, 2) := by decide +kernel
theorem dX6_pass_219 : decode cX6_pass 219 = .ok (.aastore, 1) := by decide +kernel
theorem dX6_pass_220 : decode cX6_pass 220 = .ok (.aload_n 0, 1) := by decide +kernel
theorem dX6_pass_221 : decode cX6_pass 221 = .ok (.dup, 1) := by decide +kernel
theorem dX6_pass_222 : decode cX6_pass 222 = .ok (.getfield 39, 3) := by decide +kernel
theorem dX6_pass_225 : decode cX6_pass 225 = .ok (.iconst 1, 1) := by decide +kernel
theorem dX6_pass_226 : decode cX6_pass 226 = .ok (.iadd, 1) := by decide +kernel
theorem dX6_pass_227 : decode cX6_pass 227 = .ok (.putfield 39, 3) := by decide +kernel
theorem dX6_pass_230 : decode cX6_pass 230 = .ok (.aload 6, 2) := by decide +kernel
theorem dX6_pass_232 : decode cX6_pass 232 = .ok (.iconst 3, 1) := by decide +kernel
theorem dX6_pass_233 : decode cX6_pass 233 = .ok (.dup2, 1) := by decide +kernel
theorem dX6_pass_234 : decode cX6_pass 234 = .ok (.iaload, 1) := by decide +kernel
theorem dX6_pass_235 : decode cX6_pass 235 = .ok (.iconst 1, 1) := by decide +kernel
theorem dX6_pass_236 : decode cX6_pass 236 = .ok (.iadd, 1) := by decide +kernel
theorem dX6_pass_237 : decode cX6_pass 237 = .ok (.iastore, 1) := by decide +kernel
theorem dX6_pass_238 : decode cX6_pass 238 = .ok (.aload 6, 2) := by decide +kernel
theorem dX6_pass_240 : decode cX6_pass 240 = .ok (.iconst 2, 1) := by decide +kernel
theorem dX6_pass_241 : decode cX6_pass 241 = .ok (.aload 6, 2) := by decide +kernel
theorem dX6_pass_243 : decode cX6_pass 243 = .ok (.iconst 2, 1) := by decide +kernel
theorem dX6_pass_244 : decode cX6_pass 244 = .ok (.iaload, 1) := by decide +kernel
theorem dX6_pass_245 : decode cX6_pass 245 = .ok (.aload 7, 2) := by decide +kernel
theorem dX6_pass_247 : decode cX6_pass 247 = .ok (.getfield 54, 3) := by decide +kernel
theorem dX6_pass_250 : decode cX6_pass 250 = .ok (.if_icmp .ge 7, 3) := by decide +kernel
theorem dX6_pass_253 : decode cX6_pass 253 = .ok (.iconst 0, 1) := by decide +kernel
theorem dX6_pass_254 : decode cX6_pass 254 = .ok (.goto 13, 3) := by decide +kernel
theorem dX6_pass_257 : decode cX6_pass 257 = .ok (.aload 6, 2) := by decide +kernel
theorem dX6_pass_259 : decode cX6_pass 259 = .ok (.iconst 2, 1) := by decide +kernel
theorem dX6_pass_260 : decode cX6_pass 260 = .ok (.iaload, 1) := by decide +kernel
theorem dX6_pass_261 : decode cX6_pass 261 = .ok (.aload 7, 2) := by decide +kernel
theorem dX6_pass_263 : decode cX6_pass 263 = .ok (.getfield 54, 3) := by decide +kernel
theorem dX6_pass_266 : decode cX6_pass 266 = .ok (.isub, 1) := by decide +kernel
theorem dX6_pass_267 : decode cX6_pass 267 = .ok (.iastore, 1) := by decide +kernel
theorem dX6_pass_268 : decode cX6_pass 268 = .ok (.aload 5, 2) := by decide +kernel
theorem dX6_pass_270 : decode cX6_pass 270 = .ok (.iconst 3, 1) := by decide +kernel
theorem dX6_pass_271 : decode cX6_pass 271 = .ok (.dup2, 1) := by decide +kernel
theorem dX6_pass_272 : decode cX6_pass 272 = .ok (.iaload, 1) := by decide +kernel
theorem dX6_pass_273 : decode cX6_pass 273 = .ok (.bipush 10, 2) := by decide +kernel
theorem dX6_pass_275 : decode cX6_pass 275 = .ok (.isub, 1) := by decide +kernel
theorem dX6_pass_276 : decode cX6_pass 276 = .ok (.iastore, 1) := by decide +kernel
theorem dX6_pass_277 : decode cX6_pass 277 = .ok (.goto (-172), 3) := by decide +kernel
theorem dX6_pass_280 : decode cX6_pass 280 = .ok (.iinc 4 1, 3) := by decide +kernel
theorem dX6_pass_283 : decode cX6_pass 283 = .ok (.goto (-267), 3) := by decide +kernel
theorem dX6_pass_286 : decode cX6_pass 286 = .ok (.aload_n 0, 1) := by decide +kernel
theorem dX6_pass_287 : decode cX6_pass 287 = .ok (.getfield 18, 3) := by decide +kernel
theorem dX6_pass_290 : decode cX6_pass 290 = .ok (.astore_n 2, 1) := by decide +kernel
theorem dX6_pass_291 : decode cX6_pass 291 = .ok (.aload_n 2, 1) := by decide +kernel
theorem dX6_pass_292 : decode cX6_pass 292 = .ok (.arraylength, 1) := by decide +kernel
theorem dX6_pass_293 : decode cX6_pass 293 = .ok (.istore_n 3, 1) := by decide +kernel
theorem dX6_pass_294 : decode cX6_pass 294 = .ok (.iconst 0, 1) := by decide +kernel
theorem dX6_pass_295 : decode cX6_pass 295 = .ok (.istore 4, 2) := by decide +kernel
theorem dX6_pass_297 : decode cX6_pass 297 = .ok (.iload 4, 2) := by decide +kernel
theorem dX6_pass_299 : decode cX6_pass 299 = .ok (.iload_n 3, 1) := by decide +kernel
theorem dX6_pass_300 : decode cX6_pass 300 = .ok (.if_icmp .ge 67, 3) := by decide +kernel
theorem dX6_pass_303 : decode cX6_pass 303 = .ok (.aload_n 2, 1) := by decide +kernel
theorem dX6_pass_304 : decode cX6_pass 304 = .ok (.iload 4, 2) := by decide +kernel
theorem dX6_pass_306 : decode cX6_pass 306 = .ok (.aaload, 1) := by decide +kernel
theorem dX6_pass_307 : decode cX6_pass 307 = .ok (.astore 5, 2) := by decide +kernel
theorem dX6_pass_309 : decode cX6_pass 309 = .ok (.aload 5, 2) := by decide +kernel
theorem dX6_pass_311 : decode cX6_pass 311 = .ok (.iconst 1, 1) := by decide +kernel
theorem dX6_pass_312 : decode cX6_pass 312 = .ok (.iaload, 1) := by decide +kernel
theorem dX6_pass_313 : decode cX6_pass 313 = .ok (.ifCond .ge 8, 3) := by decide +kernel
theorem dX6_pass_316 : decode cX6_pass 316 = .ok (.bipush 7, 2) := by decide +kernel
theorem dX6_pass_318 : decode cX6_pass 318 = .ok (.goto 17, 3) := by decide +kernel
theorem dX6_pass_321 : decode cX6_pass 321 = .ok (.aload 5, 2) := by decide +kernel
theorem dX6_pass_323 : decode cX6_pass 323 = .ok (.iconst 2, 1) := by decide +kernel
theorem dX6_pass_324 : decode cX6_pass 324 = .ok (.iaload, 1) := by decide +kernel
theorem dX6_pass_325 : decode cX6_pass 325 = .ok (.bipush 59, 2) := by decide +kernel
theorem dX6_pass_327 : decode cX6_pass 327 = .ok (.if_icmp .le 7, 3) := by decide +kernel
theorem dX6_pass_330 : decode cX6_pass 330 = .ok (.iconst 4, 1) := by decide +kernel
theorem dX6_pass_331 : decode cX6_pass 331 = .ok (.goto 4, 3) := by decide +kernel
theorem dX6_pass_334 : decode cX6_pass 334 = .ok (.iconst 0, 1) := by decide +kernel
theorem dX6_pass_335 : decode cX6_pass 335 = .ok (.istore 6, 2) := by decide +kernel
theorem dX6_pass_337 : decode cX6_pass 337 = .ok (.aload 5, 2) := by decide +kernel
theorem dX6_pass_339 : decode cX6_pass 339 = .ok (.iconst 2, 1) := by decide +kernel
theorem dX6_pass_340 : decode cX6_pass 340 = .ok (.aload 5, 2) := by decide +kernel
theorem dX6_pass_342 : decode cX6_pass 342 = .ok (.iconst 2, 1) := by decide +kernel
theorem dX6_pass_343 : decode cX6_pass 343 = .ok (.iaload, 1) := by decide +kernel
theorem dX6_pass_344 : decode cX6_pass 344 = .ok (.iload 6, 2) := by decide +kernel
theorem dX6_pass_346 : decode cX6_pass 346 = .ok (.if_icmp .ge 7, 3) := by decide +kernel
theorem dX6_pass_349 : decode cX6_pass 349 = .ok (.iconst 0, 1) := by decide +kernel
theorem dX6_pass_350 : decode cX6_pass 350 = .ok (.goto 10, 3) := by decide +kernel
theorem dX6_pass_353 : decode cX6_pass 353 = .ok (.aload 5, 2) := by decide +kernel
theorem dX6_pass_355 : decode cX6_pass 355 = .ok (.iconst 2, 1) := by decide +kernel
theorem dX6_pass_356 : decode cX6_pass 356 = .ok (.iaload, 1) := by decide +kernel
theorem dX6_pass_357 : decode cX6_pass 357 = .ok (.iload 6, 2) := by decide +kernel
theorem dX6_pass_359 : decode cX6_pass 359 = .ok (.isub, 1) := by decide +kernel
theorem dX6_pass_360 : decode cX6_pass 360 = .ok (.iastore, 1) := by decide +kernel
theorem dX6_pass_361 : decode cX6_pass 361 = .ok (.iinc 4 1, 3) := by decide +kernel
theorem dX6_pass_364 : decode cX6_pass 364 = .ok (.goto (-67), 3) := by decide +kernel
theorem dX6_pass_367 : decode cX6_pass 367 = .ok (.aload_n 0, 1) := by decide +kernel
theorem dX6_pass_368 : decode cX6_pass 368 = .ok (.invokevirtual 61, 3) := by decide +kernel
theorem dX6_pass_371 : decode cX6_pass 371 = .ok (.iconst 3, 1) := by decide +kernel
theorem dX6_pass_372 : decode cX6_pass 372 = .ok (.if_icmp .ge 7, 3) := by decide +kernel
theorem dX6_pass_375 : decode cX6_pass 375 = .ok (.iconst 0, 1) := by decide +kernel
theorem dX6_pass_376 : decode cX6_pass 376 = .ok (.goto 9, 3) := by decide +kernel
theorem dX6_pass_379 : decode cX6_pass 379 = .ok (.aload_n 0, 1) := by decide +kernel
theorem dX6_pass_380 : decode cX6_pass 380 = .ok (.invokevirtual 61, 3) := by decide +kernel
theorem dX6_pass_383 : decode cX6_pass 383 = .ok (.iconst 2, 1) := by decide +kernel
theorem dX6_pass_384 : decode cX6_pass 384 = .ok (.idiv, 1) := by decide +kernel
theorem dX6_pass_385 : decode cX6_pass 385 = .ok (.istore_n 2, 1) := by decide +kernel
theorem dX6_pass_386 : decode cX6_pass 386 = .ok (.iconst 0, 1) := by decide +kernel
theorem dX6_pass_387 : decode cX6_pass 387 = .ok (.istore_n 3, 1) := by decide +kernel
theorem dX6_pass_388 : decode cX6_pass 388 = .ok (.iload_n 3, 1) := by decide +kernel
theorem dX6_pass_389 : decode cX6_pass 389 = .ok (.aload_n 0, 1) := by decide +kernel
theorem dX6_pass_390 : decode cX6_pass 390 = .ok (.getfield 39, 3) := by decide +kernel
theorem dX6_pass_393 : decode cX6_pass 393 = .ok (.if_icmp .ge 41, 3) := by decide +kernel
theorem dX6_pass_396 : decode cX6_pass 396 = .ok (.iload_n 2, 1) := by decide +kernel
theorem dX6_pass_397 : decode cX6_pass 397 = .ok (.ifCond .eq 31, 3) := by decide +kernel
theorem dX6_pass_400 : decode cX6_pass 400 = .ok (.aload_n 0, 1) := by decide +kernel
theorem dX6_pass_401 : decode cX6_pass 401 = .ok (.getfield 26, 3) := by decide +kernel
theorem dX6_pass_404 : decode cX6_pass 404 = .ok (.iload_n 3, 1) := by decide +kernel
theorem dX6_pass_405 : decode cX6_pass 405 = .ok (.aaload, 1) := by decide +kernel
theorem dX6_pass_406 : decode cX6_pass 406 = .ok (.getfield 65, 3) := by decide +kernel
theorem dX6_pass_409 : decode cX6_pass 409 = .ok (.ifCond .eq 6, 3) := by decide +kernel
theorem dX6_pass_412 : decode cX6_pass 412 = .ok (.goto 16, 3) := by decide +kernel
theorem dX6_pass_415 : decode cX6_pass 415 = .ok (.aload_n 0, 1) := by decide +kernel
theorem dX6_pass_416 : decode cX6_pass 416 = .ok (.getfield 26, 3) := by decide +kernel
theorem dX6_pass_419 : decode cX6_pass 419 = .ok (.iload_n 3, 1) := by decide +kernel
theorem dX6_pass_420 : decode cX6_pass 420 = .ok (.aaload, 1) := by decide +kernel
theorem dX6_pass_421 : decode cX6_pass 421 = .ok (.iconst 1, 1) := by decide +kernel
theorem dX6_pass_422 : decode cX6_pass 422 = .ok (.putfield 65, 3) := by decide +kernel
theorem dX6_pass_425 : decode cX6_pass 425 = .ok (.iinc 2 (-1), 3) := by decide +kernel
theorem dX6_pass_428 : decode cX6_pass 428 = .ok (.iinc 3 1, 3) := by decide +kernel
theorem dX6_pass_431 : decode cX6_pass 431 = .ok (.goto (-43), 3) := by decide +kernel
theorem dX6_pass_434 : decode cX6_pass 434 = .ok (.aload_n 0, 1) := by decide +kernel
theorem dX6_pass_435 : decode cX6_pass 435 = .ok (.getfield 21, 3) := by decide +kernel
theorem dX6_pass_438 : decode cX6_pass 438 = .ok (.astore_n 3, 1) := by decide +kernel
theorem dX6_pass_439 : decode cX6_pass 439 = .ok (.aload_n 3, 1) := by decide +kernel
theorem dX6_pass_440 : decode cX6_pass 440 = .ok (.arraylength, 1) := by decide +kernel
theorem dX6_pass_441 : decode cX6_pass 441 = .ok (.istore 4, 2) := by decide +kernel
theorem dX6_pass_443 : decode cX6_pass 443 = .ok (.iconst 0, 1) := by decide +kernel
theorem dX6_pass_444 : decode cX6_pass 444 = .ok (.istore 5, 2) := by decide +kernel
theorem dX6_pass_446 : decode cX6_pass 446 = .ok (.iload 5, 2) := by decide +kernel
theorem dX6_pass_448 : decode cX6_pass 448 = .ok (.iload 4, 2) := by decide +kernel
theorem dX6_pass_450 : decode cX6_pass 450 = .ok (.if_icmp .ge 40, 3) := by decide +kernel
theorem dX6_pass_453 : decode cX6_pass 453 = .ok (.aload_n 3, 1) := by decide +kernel
theorem dX6_pass_454 : decode cX6_pass 454 = .ok (.iload 5, 2) := by decide +kernel
theorem dX6_pass_456 : decode cX6_pass 456 = .ok (.aaload, 1) := by decide +kernel
theorem dX6_pass_457 : decode cX6_pass 457 = .ok (.astore 6, 2) := by decide +kernel
theorem dX6_pass_459 : decode cX6_pass 459 = .ok (.aload 6, 2) := by decide +kernel
theorem dX6_pass_461 : decode cX6_pass 461 = .ok (.iconst 1, 1) := by decide +kernel
theorem dX6_pass_462 : decode cX6_pass 462 = .ok (.iaload, 1) := by decide +kernel
theorem dX6_pass_463 : decode cX6_pass 463 = .ok (.ifCond .lt 21, 3) := by decide +kernel
theorem dX6_pass_466 : decode cX6_pass 466 = .ok (.aload 6, 2) := by decide +kernel
theorem dX6_pass_468 : decode cX6_pass 468 = .ok (.iconst 1, 1) := by decide +kernel
theorem dX6_pass_469 : decode cX6_pass 469 = .ok (.iaload, 1) := by decide +kernel
theorem dX6_pass_470 : decode cX6_pass 470 = .ok (.iconst 3, 1) := by decide +kernel
theorem dX6_pass_471 : decode cX6_pass 471 = .ok (.iadd, 1) := by decide +kernel
theorem dX6_pass_472 : decode cX6_pass 472 = .ok (.aload_n 0, 1) := by decide +kernel
theorem dX6_pass_473 : decode cX6_pass 473 = .ok (.getfield 47, 3) := by decide +kernel
theorem dX6_pass_476 : decode cX6_pass 476 = .ok (.if_icmp .ne 8, 3) := by decide +kernel
theorem dX6_pass_479 : decode cX6_pass 479 = .ok (.aload 6, 2) := by decide +kernel
theorem dX6_pass_481 : decode cX6_pass 481 = .ok (.iconst 1, 1) := by decide +kernel
theorem dX6_pass_482 : decode cX6_pass 482 = .ok (.iconst (-1), 1) := by decide +kernel
theorem dX6_pass_483 : decode cX6_pass 483 = .ok (.iastore, 1) := by decide +kernel
theorem dX6_pass_484 : decode cX6_pass 484 = .ok (.iinc 5 1, 3) := by decide +kernel
theorem dX6_pass_487 : decode cX6_pass 487 = .ok (.goto (-41), 3) := by decide +kernel
theorem dX6_pass_490 : decode cX6_pass 490 = .ok (.aload_n 0, 1) := by decide +kernel
theorem dX6_pass_491 : decode cX6_pass 491 = .ok (.dup, 1) := by decide +kernel
theorem dX6_pass_492 : decode cX6_pass 492 = .ok (.getfield 47, 3) := by decide +kernel
theorem dX6_pass_495 : decode cX6_pass 495 = .ok (.iconst 1, 1) := by decide +kernel
theorem dX6_pass_496 : decode cX6_pass 496 = .ok (.iadd, 1) := by decide +kernel
theorem dX6_pass_497 : decode cX6_pass 497 = .ok (.putfield 47, 3) := by decide +kernel
theorem dX6_pass_500 : decode cX6_pass 500 = .ok (.aload_n 0, 1) := by decide +kernel
theorem dX6_pass_501 : decode cX6_pass 501 = .ok (.getfield 39, 3) := by decide +kernel
theorem dX6_pass_504 : decode cX6_pass 504 = .ok (.iload_n 1, 1) := by decide +kernel
theorem dX6_pass_505 : decode cX6_pass 505 = .ok (.isub, 1) := by decide +kernel
theorem dX6_pass_506 : decode cX6_pass 506 = .ok (.ireturn, 1) := by decide +kernel
theorem dX6_weight_0 : decode cX6_weight 0 = .ok (.aload_n 1, 1) := by decide +kernel
theorem dX6_weight_1 : decode cX6_weight 1 = .ok (.getfield 54, 3) := by decide +kernel
theorem dX6_weight_4 : decode cX6_weight 4 = .ok (.aload_n 1, 1) := by decide +kernel
theorem dX6_weight_5 : decode cX6_weight 5 = .ok (.getfield 54, 3) := by decide +kernel
theorem dX6_weight_8 : decode cX6_weight 8 = .ok (.imul, 1) := by decide +kernel
theorem dX6_weight_9 : decode cX6_weight 9 = .ok (.iconst 2, 1) := by decide +kernel
theorem dX6_weight_10 : decode cX6_weight 10 = .ok (.imul, 1) := by decide +kernel
theorem dX6_weight_11 : decode cX6_weight 11 = .ok (.ireturn, 1) := by decide +kernel
theorem dX6_worth_0 : decode cX6_worth 0 = .ok (.aload_n 1, 1) := by decide +kernel
theorem dX6_worth_1 : decode cX6_worth 1 = .ok (.getfield 65, 3) := by decide +kernel
theorem dX6_worth_4 : decode cX6_worth 4 = .ok (.iconst 4, 1) := by decide +kernel
theorem dX6_worth_5 : decode cX6_worth 5 = .ok (.if_icmp .ne 5, 3) := by decide +kernel
theorem dX6_worth_8 : decode cX6_worth 8 = .ok (.iconst 0, 1) := by decide +kernel
theorem dX6_worth_9 : decode cX6_worth 9 = .ok (.ireturn, 1) := by decide +kernel
theorem dX6_worth_10 : decode cX6_worth 10 = .ok (.bipush 10, 2) := by decide +kernel
theorem dX6_worth_12 : decode cX6_worth 12 = .ok (.aload_n 0, 1) := by decide +kernel
theorem dX6_worth_13 : decode cX6_worth 13 = .ok (.getfield 14, 3) := by decide +kernel
theorem dX6_worth_16 : decode cX6_worth 16 = .ok (.aload_n 1, 1) := by decide +kernel
theorem dX6_worth_17 : decode cX6_worth 17 = .ok (.getfield 51, 3) := by decide +kernel
theorem dX6_worth_20 : decode cX6_worth 20 = .ok (.aaload, 1) := by decide +kernel
theorem dX6_worth_21 : decode cX6_worth 21 = .ok (.iconst 0, 1) := by decide +kernel
theorem dX6_worth_22 : decode cX6_worth 22 = .ok (.iaload, 1) := by decide +kernel
theorem dX6_worth_23 : decode cX6_worth 23 = .ok (.isub, 1) := by decide +kernel
theorem dX6_worth_24 : decode cX6_worth 24 = .ok (.aload_n 1, 1) := by decide +kernel
theorem dX6_worth_25 : decode cX6_worth 25 = .ok (.getfield 54, 3) := by decide +kernel
theorem dX6_worth_28 : decode cX6_worth 28 = .ok (.imul, 1) := by decide +kernel
theorem dX6_worth_29 : decode cX6_worth 29 = .ok (.istore_n 2, 1) := by decide +kernel
theorem dX6_worth_30 : decode cX6_worth 30 = .ok (.aload_n 1, 1) := by decide +kernel
theorem dX6_worth_31 : decode cX6_worth 31 = .ok (.getfield 65, 3) := by decide +kernel
theorem dX6_worth_34 : decode cX6_worth 34 = .ok (.ifCond .le 7, 3) := by decide +kernel
theorem dX6_worth_37 : decode cX6_worth 37 = .ok (.iload_n 2, 1) := by decide +kernel
theorem dX6_worth_38 : decode cX6_worth 38 = .ok (.iconst 3, 1) := by decide +kernel
theorem dX6_worth_39 : decode cX6_worth 39 = .ok (.imul, 1) := by decide +kernel
theorem dX6_worth_40 : decode cX6_worth 40 = .ok (.istore_n 2, 1) := by decide +kernel
theorem dX6_worth_41 : decode cX6_worth 41 = .ok (.aload_n 1, 1) := by decide +kernel
theorem dX6_worth_42 : decode cX6_worth 42 = .ok (.getfield 57, 3) := by decide +kernel
theorem dX6_worth_45 : decode cX6_worth 45 = .ok (.ifCond .eq 9, 3) := by decide +kernel
theorem dX6_worth_48 : decode cX6_worth 48 = .ok (.iload_n 2, 1) := by decide +kernel
theorem dX6_worth_49 : decode cX6_worth 49 = .ok (.iconst 5, 1) := by decide +kernel
theorem dX6_worth_50 : decode cX6_worth 50 = .ok (.idiv, 1) := by decide +kernel
theorem dX6_worth_51 : decode cX6_worth 51 = .ok (.goto 4, 3) := by decide +kernel
theorem dX6_worth_54 : decode cX6_worth 54 = .ok (.iload_n 2, 1) := by decide +kernel
theorem dX6_worth_55 : decode cX6_worth 55 = .ok (.ireturn, 1) := by decide +kernel
set_option maxRecDepth 20000 in
theorem ggX6_left_X6_weight : GoodIn wsX6_left wsX6_weight := goodIn_r _ [10, 11, 20, 21, 22, 23, 24] (by decide +kernel) (by decide +kernel)
set_option maxRecDepth 20000 in
theorem gX6_left_X6_weight : GoodIn wsX6_left (wsV RX6 75 RX6 yX6_weight wsX6_weight) := goodIn_app (goodIn_of _ (by decide +kernel)) ggX6_left_X6_weight
theorem dX6_left_0 : decode cX6_left 0 = .ok (.aload_n 0, 1) := by decide +kernel
theorem dX6_left_1 : decode cX6_left 1 = .ok (.getfield 21, 3) := by decide +kernel
theorem dX6_left_4 : decode cX6_left 4 = .ok (.iload_n 1, 1) := by decide +kernel
theorem dX6_left_5 : decode cX6_left 5 = .ok (.aaload, 1) := by decide +kernel
theorem dX6_left_6 : decode cX6_left 6 = .ok (.iconst 0, 1) := by decide +kernel
theorem dX6_left_7 : decode cX6_left 7 = .ok (.iaload, 1) := by decide +kernel
theorem dX6_left_8 : decode cX6_left 8 = .ok (.istore_n 2, 1) := by decide +kernel
theorem dX6_left_9 : decode cX6_left 9 = .ok (.iconst 0, 1) := by decide +kernel
theorem dX6_left_10 : decode cX6_left 10 = .ok (.istore_n 3, 1) := by decide +kernel
theorem dX6_left_11 : decode cX6_left 11 = .ok (.iload_n 3, 1) := by decide +kernel
theorem dX6_left_12 : decode cX6_left 12 = .ok (.aload_n 0, 1) := by decide +kernel
theorem dX6_left_13 : decode cX6_left 13 = .ok (.getfield 39, 3) := by decide +kernel
theorem dX6_left_16 : decode cX6_left 16 = .ok (.if_icmp .ge 48, 3) := by decide +kernel
theorem dX6_left_19 : decode cX6_left 19 = .ok (.aload_n 0, 1) := by decide +kernel
theorem dX6_left_20 : decode cX6_left 20 = .ok (.getfield 26, 3) := by decide +kernel
theorem dX6_left_23 : decode cX6_left 23 = .ok (.iload_n 3, 1) := by decide +kernel
theorem dX6_left_24 : decode cX6_left 24 = .ok (.aaload, 1) := by decide +kernel
theorem dX6_left_25 : decode cX6_left 25 = .ok (.getfield 65, 3) := by decide +kernel
theorem dX6_left_28 : decode cX6_left 28 = .ok (.iconst 2, 1) := by decide +kernel
theorem dX6_left_29 : decode cX6_left 29 = .ok (.if_icmp .ne 29, 3) := by decide +kernel
theorem dX6_left_32 : decode cX6_left 32 = .ok (.aload_n 0, 1) := by decide +kernel
theorem dX6_left_33 : decode cX6_left 33 = .ok (.getfield 26, 3) := by decide +kernel
theorem dX6_left_36 : decode cX6_left 36 = .ok (.iload_n 3, 1) := by decide +kernel
theorem dX6_left_37 : decode cX6_left 37 = .ok (.aaload, 1) := by decide +kernel
theorem dX6_left_38 : decode cX6_left 38 = .ok (.getfield 72, 3) := by decide +kernel
theorem dX6_left_41 : decode cX6_left 41 = .ok (.iload_n 1, 1) := by decide +kernel
theorem dX6_left_42 : decode cX6_left 42 = .ok (.if_icmp .ne 16, 3) := by decide +kernel
theorem dX6_left_45 : decode cX6_left 45 = .ok (.iload_n 2, 1) := by decide +kernel
theorem dX6_left_46 : decode cX6_left 46 = .ok (.aload_n 0, 1) := by decide +kernel
theorem dX6_left_47 : decode cX6_left 47 = .ok (.aload_n 0, 1) := by decide +kernel
theorem dX6_left_48 : decode cX6_left 48 = .ok (.getfield 26, 3) := by decide +kernel
theorem dX6_left_51 : decode cX6_left 51 = .ok (.iload_n 3, 1) := by decide +kernel
theorem dX6_left_52 : decode cX6_left 52 = .ok (.aaload, 1) := by decide +kernel
theorem dX6_left_53 : decode cX6_left 53 = .ok (.invokevirtual 75, 3) := by decide +kernel
theorem dX6_left_56 : decode cX6_left 56 = .ok (.isub, 1) := by decide +kernel
theorem dX6_left_57 : decode cX6_left 57 = .ok (.istore_n 2, 1) := by decide +kernel
theorem dX6_left_58 : decode cX6_left 58 = .ok (.iinc 3 1, 3) := by decide +kernel
theorem dX6_left_61 : decode cX6_left 61 = .ok (.goto (-50), 3) := by decide +kernel
theorem dX6_left_64 : decode cX6_left 64 = .ok (.iload_n 2, 1) := by decide +kernel
theorem dX6_left_65 : decode cX6_left 65 = .ok (.ireturn, 1) := by decide +kernel
theorem dX6_in_0 : decode cX6_in 0 = .ok (.iconst 0, 1) := by decide +kernel
theorem dX6_in_1 : decode cX6_in 1 = .ok (.istore_n 2, 1) := by decide +kernel
theorem dX6_in_2 : decode cX6_in 2 = .ok (.iconst 0, 1) := by decide +kernel
theorem dX6_in_3 : decode cX6_in 3 = .ok (.istore_n 3, 1) := by decide +kernel
theorem dX6_in_4 : decode cX6_in 4 = .ok (.iload_n 3, 1) := by decide +kernel
theorem dX6_in_5 : decode cX6_in 5 = .ok (.aload_n 0, 1) := by decide +kernel
theorem dX6_in_6 : decode cX6_in 6 = .ok (.getfield 39, 3) := by decide +kernel
theorem dX6_in_9 : decode cX6_in 9 = .ok (.if_icmp .ge 30, 3) := by decide +kernel
theorem dX6_in_12 : decode cX6_in 12 = .ok (.iload_n 2, 1) := by decide +kernel
theorem dX6_in_13 : decode cX6_in 13 = .ok (.aload_n 0, 1) := by decide +kernel
theorem dX6_in_14 : decode cX6_in 14 = .ok (.getfield 26, 3) := by decide +kernel
theorem dX6_in_17 : decode cX6_in 17 = .ok (.iload_n 3, 1) := by decide +kernel
theorem dX6_in_18 : decode cX6_in 18 = .ok (.aaload, 1) := by decide +kernel
theorem dX6_in_19 : decode cX6_in 19 = .ok (.getfield 65, 3) := by decide +kernel
theorem dX6_in_22 : decode cX6_in 22 = .ok (.iload_n 1, 1) := by decide +kernel
theorem dX6_in_23 : decode cX6_in 23 = .ok (.if_icmp .ne 7, 3) := by decide +kernel
theorem dX6_in_26 : decode cX6_in 26 = .ok (.iconst 1, 1) := by decide +kernel
theorem dX6_in_27 : decode cX6_in 27 = .ok (.goto 4, 3) := by decide +kernel
theorem dX6_in_30 : decode cX6_in 30 = .ok (.iconst 0, 1) := by decide +kernel
theorem dX6_in_31 : decode cX6_in 31 = .ok (.iadd, 1) := by decide +kernel
theorem dX6_in_32 : decode cX6_in 32 = .ok (.istore_n 2, 1) := by decide +kernel
theorem dX6_in_33 : decode cX6_in 33 = .ok (.iinc 3 1, 3) := by decide +kernel
theorem dX6_in_36 : decode cX6_in 36 = .ok (.goto (-32), 3) := by decide +kernel
theorem dX6_in_39 : decode cX6_in 39 = .ok (.iload_n 2, 1) := by decide +kernel
theorem dX6_in_40 : decode cX6_in 40 = .ok (.ireturn, 1) := by decide +kernel
theorem dX6_dust_0 : decode cX6_dust 0 = .ok (.iconst 0, 1) := by decide +kernel
theorem dX6_dust_1 : decode cX6_dust 1 = .ok (.istore_n 1, 1) := by decide +kernel
theorem dX6_dust_2 : decode cX6_dust 2 = .ok (.aload_n 0, 1) := by decide +kernel
theorem dX6_dust_3 : decode cX6_dust 3 = .ok (.getfield 18, 3) := by decide +kernel
theorem dX6_dust_6 : decode cX6_dust 6 = .ok (.astore_n 2, 1) := by decide +kernel
theorem dX6_dust_7 : decode cX6_dust 7 = .ok (.aload_n 2, 1) := by decide +kernel
theorem dX6_dust_8 : decode cX6_dust 8 = .ok (.arraylength, 1) := by decide +kernel
theorem dX6_dust_9 : decode cX6_dust 9 = .ok (.istore_n 3, 1) := by decide +kernel
theorem dX6_dust_10 : decode cX6_dust 10 = .ok (.iconst 0, 1) := by decide +kernel
theorem dX6_dust_11 : decode cX6_dust 11 = .ok (.istore 4, 2) := by decide +kernel
theorem dX6_dust_13 : decode cX6_dust 13 = .ok (.iload 4, 2) := by decide +kernel
theorem dX6_dust_15 : decode cX6_dust 15 = .ok (.iload_n 3, 1) := by decide +kernel
theorem dX6_dust_16 : decode cX6_dust 16 = .ok (.if_icmp .ge 22, 3) := by decide +kernel
theorem dX6_dust_19 : decode cX6_dust 19 = .ok (.aload_n 2, 1) := by decide +kernel
theorem dX6_dust_20 : decode cX6_dust 20 = .ok (.iload 4, 2) := by decide +kernel
theorem dX6_dust_22 : decode cX6_dust 22 = .ok (.aaload, 1) := by decide +kernel
theorem dX6_dust_23 : decode cX6_dust 23 = .ok (.astore 5, 2) := by decide +kernel
theorem dX6_dust_25 : decode cX6_dust 25 = .ok (.iload_n 1, 1) := by decide +kernel
theorem dX6_dust_26 : decode cX6_dust 26 = .ok (.aload 5, 2) := by decide +kernel
theorem dX6_dust_28 : decode cX6_dust 28 = .ok (.iconst 2, 1) := by decide +kernel
theorem dX6_dust_29 : decode cX6_dust 29 = .ok (.iaload, 1) := by decide +kernel
theorem dX6_dust_30 : decode cX6_dust 30 = .ok (.iadd, 1) := by decide +kernel
theorem dX6_dust_31 : decode cX6_dust 31 = .ok (.istore_n 1, 1) := by decide +kernel
theorem dX6_dust_32 : decode cX6_dust 32 = .ok (.iinc 4 1, 3) := by decide +kernel
theorem dX6_dust_35 : decode cX6_dust 35 = .ok (.goto (-22), 3) := by decide +kernel
theorem dX6_dust_38 : decode cX6_dust 38 = .ok (.iload_n 1, 1) := by decide +kernel
theorem dX6_dust_39 : decode cX6_dust 39 = .ok (.ireturn, 1) := by decide +kernel
set_option maxRecDepth 20000 in
theorem ggX6_isSame_X6_weight : GoodIn wsX6_isSame wsX6_weight := goodIn_r _ [18, 8, 236, 237, 238, 239, 240] (by decide +kernel) (by decide +kernel)
set_option maxRecDepth 20000 in
theorem gX6_isSame_X6_weight : GoodIn wsX6_isSame (wsV RX6 75 RX6 yX6_weight wsX6_weight) := goodIn_app (goodIn_of _ (by decide +kernel)) ggX6_isSame_X6_weight
set_option maxRecDepth 20000 in
theorem ggX6_isSame_X6_worth : GoodIn wsX6_isSame wsX6_worth := goodIn_r _ [22, 6, 9, 5, 8, 4, 236, 237, 238, 239, 240, 228, 229, 230, 231, 232, 233, 234, 235] (by decide +kernel) (by decide +kernel)
set_option maxRecDepth 20000 in
theorem gX6_isSame_X6_worth : GoodIn wsX6_isSame (wsV RX6 68 RX6 yX6_worth wsX6_worth) := goodIn_app (goodIn_of _ (by decide +kernel)) ggX6_isSame_X6_worth
set_option maxRecDepth 20000 in
theorem ggX6_isSame_X5_wheel : GoodIn wsX6_isSame wsX5_wheel := goodIn_ca (goodIn_r _ [27, 28, 29, 30, 31, 32, 33, 34, 35, 36, 37, 38, 39, 26, 40, 41, 42, 43, 44, 45, 46, 47, 48, 49, 50, 51, 52, 53, 54, 55, 56, 57, 58, 241, 242, 243, 244, 245, 246, 247, 248, 249, 250, 251, 252, 253, 254, 255, 256] (by decide +kernel) (by decide +kernel)) (goodIn_sub (fun _ h => List.mem_cons_of_mem _ (List.mem_append_left _ (List.mem_append_right _ h))) (by decide +kernel))
set_option maxRecDepth 20000 in
theorem gX6_isSame_X5_wheel : GoodIn wsX6_isSame (wsV RX6 78 RX5 yX5_wheel wsX5_wheel) := goodIn_app (goodIn_of _ (by decide +kernel)) ggX6_isSame_X5_wheel
set_option maxRecDepth 20000 in
theorem ggX6_isSame_X5_ring : GoodIn wsX6_isSame wsX5_ring := goodIn_ca (goodIn_ca (goodIn_r _ [62, 28, 29, 63, 64, 30, 31, 65, 32, 33, 34, 35, 36, 37, 66, 67, 68, 69, 46, 57, 58, 241, 242, 243, 244, 245, 246, 247, 248, 249, 250, 251, 252, 253, 254, 255, 256] (by decide +kernel) (by decide +kernel)) (goodIn_sub (fun _ h => List.mem_cons_of_mem _ (List.mem_append_left _ (List.mem_append_right _ h))) (by decide +kernel))) (goodIn_sub (fun _ h => List.mem_cons_of_mem _ (List.mem_append_right _ h)) (by decide +kernel))
set_option maxRecDepth 20000 in
theorem gX6_isSame_X5_ring : GoodIn wsX6_isSame (wsV RX6 84 RX5 yX5_ring wsX5_ring) := goodIn_app (goodIn_of _ (by decide +kernel)) ggX6_isSame_X5_ring
set_option maxRecDepth 20000 in
theorem ggX6_isSame_X5_quarrier : GoodIn wsX6_isSame wsX5_quarrier := goodIn_ca (goodIn_r _ [73, 28, 29, 30, 74, 75, 76, 77, 78, 79, 80, 38, 39, 26, 40, 81, 82, 83, 84, 85, 86, 87, 88, 89, 90, 91, 92, 93, 94, 95, 96, 97, 98, 99, 100, 101, 102, 103, 104, 105, 106, 241, 242, 243, 244, 245, 246, 247, 248, 249, 257, 258, 259, 260, 261, 262, 263, 264, 265, 266] (by decide +kernel) (by decide +kernel)) (goodIn_sub (fun _ h => List.mem_cons_of_mem _ (List.mem_append_left _ (List.mem_append_right _ h))) (by decide +kernel))
set_option maxRecDepth 20000 in
theorem gX6_isSame_X5_quarrier : GoodIn wsX6_isSame (wsV RX6 88 RX5 yX5_quarrier wsX5_quarrier) := goodIn_app (goodIn_of _ (by decide +kernel)) ggX6_isSame_X5_quarrier
set_option maxRecDepth 20000 in
theorem ggX6_isSame_X5_bed : GoodIn wsX6_isSame wsX5_bed := goodIn_ca (goodIn_r _ [110, 28, 29, 30, 111, 112, 97, 98, 99, 100, 101, 38, 39, 26, 40, 113, 114, 115, 84, 116, 95, 117, 118, 119, 86, 120, 121, 122, 123, 124, 78, 125, 80, 126, 127, 128, 129, 35, 130, 37, 45, 58, 241, 242, 243, 244, 245, 246, 247, 248, 249, 262, 263, 264, 265, 266, 257, 258, 259, 260, 261, 250, 251, 252, 253, 254, 255, 256] (by decide +kernel) (by decide +kernel)) (goodIn_sub (fun _ h => List.mem_cons_of_mem _ (List.mem_append_left _ (List.mem_append_right _ h))) (by decide +kernel))
set_option maxRecDepth 20000 in
theorem gX6_isSame_X5_bed : GoodIn wsX6_isSame (wsV RX6 91 RX5 yX5_bed wsX5_bed) := goodIn_app (goodIn_of _ (by decide +kernel)) ggX6_isSame_X5_bed
set_option maxRecDepth 20000 in
theorem ggX6_isSame_X6_left : GoodIn wsX6_isSame wsX6_left := goodIn_r _ [134, 11, 2, 3, 6, 7, 14, 15, 16, 17, 18, 8, 228, 229, 230, 231, 232, 233, 234, 235, 236, 237, 238, 239, 240] (by decide +kernel) (by decide +kernel)
set_option maxRecDepth 20000 in
theorem gX6_isSame_X6_left : GoodIn wsX6_isSame (wsV RX6 93 RX6 yX6_left wsX6_left) := goodIn_app (goodIn_of _ (by decide +kernel)) ggX6_isSame_X6_left
set_option maxRecDepth 20000 in
theorem ggX6_isSame_X5_raft : GoodIn wsX6_isSame wsX5_raft := goodIn_ca (goodIn_r _ [138, 28, 29, 139, 140, 141, 142, 143, 144, 145, 38, 39, 26, 40, 146, 147, 148, 149, 150, 30, 31, 151, 152, 153, 154, 155, 156, 157, 158, 35, 159, 37, 48, 49, 50, 51, 52, 46, 160, 161, 162, 163, 164, 165, 166, 167, 168, 241, 242, 243, 244, 267, 268, 269, 245, 246, 247, 248, 249, 250, 251, 252, 253, 254, 255, 256] (by decide +kernel) (by decide +kernel)) (goodIn_sub (fun _ h => List.mem_cons_of_mem _ (List.mem_append_left _ (List.mem_append_right _ h))) (by decide +kernel))
set_option maxRecDepth 20000 in
theorem gX6_isSame_X5_raft : GoodIn wsX6_isSame (wsV RX6 96 RX5 yX5_raft wsX5_raft) := goodIn_app (goodIn_of _ (by decide +kernel)) ggX6_isSame_X5_raft
set_option maxRecDepth 20000 in
theorem ggX6_isSame_X6_water : GoodIn wsX6_isSame wsX6_water := goodIn_r _ [172, 173, 12, 228, 229, 230, 231, 232, 233, 234, 235] (by decide +kernel) (by decide +kernel)
set_option maxRecDepth 20000 in
theorem gX6_isSame_X6_water : GoodIn wsX6_isSame (wsV RX6 61 RX6 yX6_water wsX6_water) := goodIn_app (goodIn_of _ (by decide +kernel)) ggX6_isSame_X6_water
set_option maxRecDepth 20000 in
theorem ggX6_isSame_X6_in : GoodIn wsX6_isSame wsX6_in := goodIn_r _ [177, 2, 3, 6, 228, 229, 230, 231, 232, 233, 234, 235, 236, 237, 238, 239, 240] (by decide +kernel) (by decide +kernel)
set_option maxRecDepth 20000 in
theorem gX6_isSame_X6_in : GoodIn wsX6_isSame (wsV RX6 98 RX6 yX6_in wsX6_in) := goodIn_app (goodIn_of _ (by decide +kernel)) ggX6_isSame_X6_in
set_option maxRecDepth 20000 in
theorem ggX6_isSame_X6_dust : GoodIn wsX6_isSame wsX6_dust := goodIn_r _ [181, 10, 228, 229, 230, 231, 232, 233, 234, 235] (by decide +kernel) (by decide +kernel)
set_option maxRecDepth 20000 in
theorem gX6_isSame_X6_dust : GoodIn wsX6_isSame (wsV RX6 104 RX6 yX6_dust wsX6_dust) := goodIn_app (goodIn_of _ (by decide +kernel)) ggX6_isSame_X6_dust
set_option maxRecDepth 20000 in
theorem ggX6_isSame_X5_count : GoodIn wsX6_isSame wsX5_count := goodIn_ca (goodIn_r _ [185, 28, 29, 38, 39, 26, 40, 186, 187, 188, 189, 190, 30, 191, 192, 193, 84, 194, 195, 121, 196, 86, 197, 198, 199, 200, 201, 202, 203, 204, 205, 206, 207, 208, 209, 210, 211, 212, 35, 213, 37, 47, 214, 215, 216, 78, 217, 80, 218, 241, 242, 243, 244, 245, 246, 247, 248, 249, 250, 251, 252, 253, 254, 255, 256, 257, 258, 259, 260, 261] (by decide +kernel) (by decide +kernel)) (goodIn_sub (fun _ h => List.mem_cons_of_mem _ (List.mem_append_left _ (List.mem_append_right _ h))) (by decide +kernel))
set_option maxRecDepth 20000 in
theorem gX6_isSame_X5_count : GoodIn wsX6_isSame (wsV RX6 107 RX5 yX5_count wsX5_count) := goodIn_app (goodIn_of _ (by decide +kernel)) ggX6_isSame_X5_count
set_option maxRecDepth 20000 in
theorem ggX6_isSame_X5_share : GoodIn wsX6_isSame wsX5_share := goodIn_r _ [222, 30, 31, 223, 224, 225, 226, 35, 227, 37, 58, 241, 242, 243, 244, 245, 246, 247, 248, 249, 250, 251, 252, 253, 254, 255, 256] (by decide +kernel) (by decide +kernel)
set_option maxRecDepth 20000 in
theorem gX6_isSame_X5_share : GoodIn wsX6_isSame (wsV RX6 110 RX5 yX5_share wsX5_share) := goodIn_app (goodIn_of _ (by decide +kernel)) ggX6_isSame_X5_share
theorem dX6_isSame_0 : decode cX6_isSame 0 = .ok (.iconst 0, 1) := by decide +kernel
theorem dX6_isSame_1 : decode cX6_isSame 1 = .ok (.istore_n 2, 1) := by decide +kernel
theorem dX6_isSame_2 : decode cX6_isSame 2 = .ok (.iconst 5, 1) := by decide +kernel
theorem dX6_isSame_3 : decode cX6_isSame 3 = .ok (.newarray .int, 2) := by decide +kernel
theorem dX6_isSame_5 : decode cX6_isSame 5 = .ok (.astore_n 3, 1) := by decide +kernel
theorem dX6_isSame_6 : decode cX6_isSame 6 = .ok (.iconst 3, 1) := by decide +kernel
theorem dX6_isSame_7 : decode cX6_isSame 7 = .ok (.newarray .int, 2) := by decide +kernel
theorem dX6_isSame_9 : decode cX6_isSame 9 = .ok (.astore 4, 2) := by decide +kernel
theorem dX6_isSame_11 : decode cX6_isSame 11 = .ok (.iconst 0, 1) := by decide +kernel
theorem dX6_isSame_12 : decode cX6_isSame 12 = .ok (.istore 5, 2) := by decide +kernel
theorem dX6_isSame_14 : decode cX6_isSame 14 = .ok (.iload 5, 2) := by decide +kernel
theorem dX6_isSame_16 : decode cX6_isSame 16 = .ok (.aload_n 0, 1) := by decide +kernel
theorem dX6_isSame_17 : decode cX6_isSame 17 = .ok (.getfield 39, 3) := by decide +kernel
theorem dX6_isSame_20 : decode cX6_isSame 20 = .ok (.if_icmp .ge 239, 3) := by decide +kernel
theorem dX6_isSame_23 : decode cX6_isSame 23 = .ok (.aload_n 0, 1) := by decide +kernel
theorem dX6_isSame_24 : decode cX6_isSame 24 = .ok (.getfield 26, 3) := by decide +kernel
theorem dX6_isSame_27 : decode cX6_isSame 27 = .ok (.iload 5, 2) := by decide +kernel
theorem dX6_isSame_29 : decode cX6_isSame 29 = .ok (.aaload, 1) := by decide +kernel
theorem dX6_isSame_30 : decode cX6_isSame 30 = .ok (.astore 6, 2) := by decide +kernel
theorem dX6_isSame_32 : decode cX6_isSame 32 = .ok (.iload_n 2, 1) := by decide +kernel
theorem dX6_isSame_33 : decode cX6_isSame 33 = .ok (.aload 6, 2) := by decide +kernel
theorem dX6_isSame_35 : decode cX6_isSame 35 = .ok (.getfield 57, 3) := by decide +kernel
theorem dX6_isSame_38 : decode cX6_isSame 38 = .ok (.ifCond .eq 7, 3) := by decide +kernel
theorem dX6_isSame_41 : decode cX6_isSame 41 = .ok (.iconst 0, 1) := by decide +kernel
theorem dX6_isSame_42 : decode cX6_isSame 42 = .ok (.goto 4, 3) := by decide +kernel
theorem dX6_isSame_45 : decode cX6_isSame 45 = .ok (.iconst 1, 1) := by decide +kernel
theorem dX6_isSame_46 : decode cX6_isSame 46 = .ok (.iadd, 1) := by decide +kernel
theorem dX6_isSame_47 : decode cX6_isSame 47 = .ok (.istore_n 2, 1) := by decide +kernel
theorem dX6_isSame_48 : decode cX6_isSame 48 = .ok (.aload_n 3, 1) := by decide +kernel
theorem dX6_isSame_49 : decode cX6_isSame 49 = .ok (.aload 6, 2) := by decide +kernel
theorem dX6_isSame_51 : decode cX6_isSame 51 = .ok (.getfield 51, 3) := by decide +kernel
theorem dX6_isSame_54 : decode cX6_isSame 54 = .ok (.dup2, 1) := by decide +kernel
theorem dX6_isSame_55 : decode cX6_isSame 55 = .ok (.iaload, 1) := by decide +kernel
theorem dX6_isSame_56 : decode cX6_isSame 56 = .ok (.aload 6, 2) := by decide +kernel
theorem dX6_isSame_58 : decode cX6_isSame 58 = .ok (.getfield 57, 3) := by decide +kernel
theorem dX6_isSame_61 : decode cX6_isSame 61 = .ok (.ifCond .eq 7, 3) := by decide +kernel
theorem dX6_isSame_64 : decode cX6_isSame 64 = .ok (.iconst 0, 1) := by decide +kernel
theorem dX6_isSame_65 : decode cX6_isSame 65 = .ok (.goto 4, 3) := by decide +kernel
theorem dX6_isSame_68 : decode cX6_isSame 68 = .ok (.iconst 1, 1) := by decide +kernel
theorem dX6_isSame_69 : decode cX6_isSame 69 = .ok (.iadd, 1) := by decide +kernel
theorem dX6_isSame_70 : decode cX6_isSame 70 = .ok (.iastore, 1) := by decide +kernel
theorem dX6_isSame_71 : decode cX6_isSame 71 = .ok (.aload 6, 2) := by decide +kernel
theorem dX6_isSame_73 : decode cX6_isSame 73 = .ok (.getfield 65, 3) := by decide +kernel
theorem dX6_isSame_76 : decode cX6_isSame 76 = .ok (.iconst 2, 1) := by decide +kernel
theorem dX6_isSame_77 : decode cX6_isSame 77 = .ok (.if_icmp .ne 15, 3) := by decide +kernel
theorem dX6_isSame_80 : decode cX6_isSame 80 = .ok (.aload 4, 2) := by decide +kernel
theorem dX6_isSame_82 : decode cX6_isSame 82 = .ok (.aload 6, 2) := by decide +kernel
theorem dX6_isSame_84 : decode cX6_isSame 84 = .ok (.getfield 72, 3) := by decide +kernel
theorem dX6_isSame_87 : decode cX6_isSame 87 = .ok (.dup2, 1) := by decide +kernel
theorem dX6_isSame_88 : decode cX6_isSame 88 = .ok (.iaload, 1) := by decide +kernel
theorem dX6_isSame_89 : decode cX6_isSame 89 = .ok (.iconst 1, 1) := by decide +kernel
theorem dX6_isSame_90 : decode cX6_isSame 90 = .ok (.iadd, 1) := by decide +kernel
theorem dX6_isSame_91 : decode cX6_isSame 91 = .ok (.iastore, 1) := by decide +kernel
theorem dX6_isSame_92 : decode cX6_isSame 92 = .ok (.bipush 6, 2) := by decide +kernel
theorem dX6_isSame_94 : decode cX6_isSame 94 = .ok (.newarray .int, 2) := by decide +kernel
theorem dX6_isSame_96 : decode cX6_isSame 96 = .ok (.dup, 1) := by decide +kernel
theorem dX6_isSame_97 : decode cX6_isSame 97 = .ok (.iconst 0, 1) := by decide +kernel
theorem dX6_isSame_98 : decode cX6_isSame 98 = .ok (.aload 6, 2) := by decide +kernel
theorem dX6_isSame_100 : decode cX6_isSame 100 = .ok (.getfield 51, 3) := by decide +kernel
theorem dX6_isSame_103 : decode cX6_isSame 103 = .ok (.iastore, 1) := by decide +kernel
theorem dX6_isSame_104 : decode cX6_isSame 104 = .ok (.dup, 1) := by decide +kernel
theorem dX6_isSame_105 : decode cX6_isSame 105 = .ok (.iconst 1, 1) := by decide +kernel
theorem dX6_isSame_106 : decode cX6_isSame 106 = .ok (.aload 6, 2) := by decide +kernel
theorem dX6_isSame_108 : decode cX6_isSame 108 = .ok (.getfield 54, 3) := by decide +kernel
theorem dX6_isSame_111 : decode cX6_isSame 111 = .ok (.iastore, 1) := by decide +kernel
theorem dX6_isSame_112 : decode cX6_isSame 112 = .ok (.dup, 1) := by decide +kernel
theorem dX6_isSame_113 : decode cX6_isSame 113 = .ok (.iconst 2, 1) := by decide +kernel
theorem dX6_isSame_114 : decode cX6_isSame 114 = .ok (.aload_n 0, 1) := by decide +kernel
theorem dX6_isSame_115 : decode cX6_isSame 115 = .ok (.aload 6, 2) := by decide +kernel
theorem dX6_isSame_117 : decode cX6_isSame 117 = .ok (.invokevirtual 75, 3) := by decide +kernel
theorem dX6_isSame_120 : decode cX6_isSame 120 = .ok (.iastore, 1) := by decide +kernel
theorem dX6_isSame_121 : decode cX6_isSame 121 = .ok (.dup, 1) := by decide +kernel
theorem dX6_isSame_122 : decode cX6_isSame 122 = .ok (.iconst 3, 1) := by decide +kernel
theorem dX6_isSame_123 : decode cX6_isSame 123 = .ok (.aload 6, 2) := by decide +kernel
theorem dX6_isSame_125 : decode cX6_isSame 125 = .ok (.getfield 65, 3) := by decide +kernel
theorem dX6_isSame_128 : decode cX6_isSame 128 = .ok (.iastore, 1) := by decide +kernel
theorem dX6_isSame_129 : decode cX6_isSame 129 = .ok (.dup, 1) := by decide +kernel
theorem dX6_isSame_130 : decode cX6_isSame 130 = .ok (.iconst 4, 1) := by decide +kernel
theorem dX6_isSame_131 : decode cX6_isSame 131 = .ok (.aload_n 0, 1) := by decide +kernel
theorem dX6_isSame_132 : decode cX6_isSame 132 = .ok (.aload 6, 2) := by decide +kernel
theorem dX6_isSame_134 : decode cX6_isSame 134 = .ok (.invokevirtual 68, 3) := by decide +kernel
theorem dX6_isSame_137 : decode cX6_isSame 137 = .ok (.iastore, 1) := by decide +kernel
theorem dX6_isSame_138 : decode cX6_isSame 138 = .ok (.dup, 1) := by decide +kernel
theorem dX6_isSame_139 : decode cX6_isSame 139 = .ok (.iconst 5, 1) := by decide +kernel
theorem dX6_isSame_140 : decode cX6_isSame 140 = .ok (.aload 6, 2) := by decide +kernel
theorem dX6_isSame_142 : decode cX6_isSame 142 = .ok (.getfield 65, 3) := by decide +kernel
theorem dX6_isSame_145 : decode cX6_isSame 145 = .ok (.iconst 2, 1) := by decide +kernel
theorem dX6_isSame_146 : decode cX6_isSame 146 = .ok (.if_icmp .ne 11, 3) := by decide +kernel
theorem dX6_isSame_149 : decode cX6_isSame 149 = .ok (.aload 6, 2) := by decide +kernel
theorem dX6_isSame_151 : decode cX6_isSame 151 = .ok (.getfield 72, 3) := by decide +kernel
theorem dX6_isSame_154 : decode cX6_isSame 154 = .ok (.goto 4, 3) := by decide +kernel
theorem dX6_isSame_157 : decode cX6_isSame 157 = .ok (.iconst (-1), 1) := by decide +kernel
theorem dX6_isSame_158 : decode cX6_isSame 158 = .ok (.iastore, 1) := by decide +kernel
theorem dX6_isSame_159 : decode cX6_isSame 159 = .ok (.astore 7, 2) := by decide +kernel
theorem dX6_isSame_161 : decode cX6_isSame 161 = .ok (.iconst 0, 1) := by decide +kernel
theorem dX6_isSame_162 : decode cX6_isSame 162 = .ok (.istore 8, 2) := by decide +kernel
theorem dX6_isSame_164 : decode cX6_isSame 164 = .ok (.iload 8, 2) := by decide +kernel
theorem dX6_isSame_166 : decode cX6_isSame 166 = .ok (.bipush 6, 2) := by decide +kernel
theorem dX6_isSame_168 : decode cX6_isSame 168 = .ok (.if_icmp .ge 27, 3) := by decide +kernel
theorem dX6_isSame_171 : decode cX6_isSame 171 = .ok (.aload_n 1, 1) := by decide +kernel
theorem dX6_isSame_172 : decode cX6_isSame 172 = .ok (.iload 5, 2) := by decide +kernel
theorem dX6_isSame_174 : decode cX6_isSame 174 = .ok (.iload 8, 2) := by decide +kernel
theorem dX6_isSame_176 : decode cX6_isSame 176 = .ok (.invokevirtual 78, 3) := by decide +kernel
theorem dX6_isSame_179 : decode cX6_isSame 179 = .ok (.aload 7, 2) := by decide +kernel
theorem dX6_isSame_181 : decode cX6_isSame 181 = .ok (.iload 8, 2) := by decide +kernel
theorem dX6_isSame_183 : decode cX6_isSame 183 = .ok (.iaload, 1) := by decide +kernel
theorem dX6_isSame_184 : decode cX6_isSame 184 = .ok (.if_icmp .eq 5, 3) := by decide +kernel
theorem dX6_isSame_187 : decode cX6_isSame 187 = .ok (.iconst 0, 1) := by decide +kernel
theorem dX6_isSame_188 : decode cX6_isSame 188 = .ok (.ireturn, 1) := by decide +kernel
theorem dX6_isSame_189 : decode cX6_isSame 189 = .ok (.iinc 8 1, 3) := by decide +kernel
theorem dX6_isSame_192 : decode cX6_isSame 192 = .ok (.goto (-28), 3) := by decide +kernel
theorem dX6_isSame_195 : decode cX6_isSame 195 = .ok (.aload 6, 2) := by decide +kernel
theorem dX6_isSame_197 : decode cX6_isSame 197 = .ok (.getfield 65, 3) := by decide +kernel
theorem dX6_isSame_200 : decode cX6_isSame 200 = .ok (.iconst 3, 1) := by decide +kernel
theorem dX6_isSame_201 : decode cX6_isSame 201 = .ok (.if_icmp .ge 52, 3) := by decide +kernel
theorem dX6_isSame_204 : decode cX6_isSame 204 = .ok (.aload_n 1, 1) := by decide +kernel
theorem dX6_isSame_205 : decode cX6_isSame 205 = .ok (.iload 5, 2) := by decide +kernel
theorem dX6_isSame_207 : decode cX6_isSame 207 = .ok (.invokevirtual 84, 3) := by decide +kernel
theorem dX6_isSame_210 : decode cX6_isSame 210 = .ok (.bipush 50, 2) := by decide +kernel
theorem dX6_isSame_212 : decode cX6_isSame 212 = .ok (.iconst 4, 1) := by decide +kernel
theorem dX6_isSame_213 : decode cX6_isSame 213 = .ok (.aload 6, 2) := by decide +kernel
theorem dX6_isSame_215 : decode cX6_isSame 215 = .ok (.getfield 54, 3) := by decide +kernel
theorem dX6_isSame_218 : decode cX6_isSame 218 = .ok (.imul, 1) := by decide +kernel
theorem dX6_isSame_219 : decode cX6_isSame 219 = .ok (.isub, 1) := by decide +kernel
theorem dX6_isSame_220 : decode cX6_isSame 220 = .ok (.aload_n 0, 1) := by decide +kernel
theorem dX6_isSame_221 : decode cX6_isSame 221 = .ok (.getfield 14, 3) := by decide +kernel
theorem dX6_isSame_224 : decode cX6_isSame 224 = .ok (.aload 6, 2) := by decide +kernel
theorem dX6_isSame_226 : decode cX6_isSame 226 = .ok (.getfield 51, 3) := by decide +kernel
theorem dX6_isSame_229 : decode cX6_isSame 229 = .ok (.aaload, 1) := by decide +kernel
theorem dX6_isSame_230 : decode cX6_isSame 230 = .ok (.iconst 0, 1) := by decide +kernel
theorem dX6_isSame_231 : decode cX6_isSame 231 = .ok (.iaload, 1) := by decide +kernel
theorem dX6_isSame_232 : decode cX6_isSame 232 = .ok (.isub, 1) := by decide +kernel
theorem dX6_isSame_233 : decode cX6_isSame 233 = .ok (.aload 6, 2) := by decide +kernel
theorem dX6_isSame_235 : decode cX6_isSame 235 = .ok (.getfield 57, 3) := by decide +kernel
theorem dX6_isSame_238 : decode cX6_isSame 238 = .ok (.ifCond .eq 8, 3) := by decide +kernel
theorem dX6_isSame_241 : decode cX6_isSame 241 = .ok (.bipush 9, 2) := by decide +kernel
theorem dX6_isSame_243 : decode cX6_isSame 243 = .ok (.goto 4, 3) := by decide +kernel
theorem dX6_isSame_246 : decode cX6_isSame 246 = .ok (.iconst 0, 1) := by decide +kernel
theorem dX6_isSame_247 : decode cX6_isSame 247 = .ok (.isub, 1) := by decide +kernel
theorem dX6_isSame_248 : decode cX6_isSame 248 = .ok (.if_icmp .eq 5, 3) := by decide +kernel
theorem dX6_isSame_251 : decode cX6_isSame 251 = .ok (.iconst 0, 1) := by decide +kernel
theorem dX6_isSame_252 : decode cX6_isSame 252 = .ok (.ireturn, 1) := by decide +kernel
theorem dX6_isSame_253 : decode cX6_isSame 253 = .ok (.iinc 5 1, 3) := by decide +kernel
theorem dX6_isSame_256 : decode cX6_isSame 256 = .ok (.goto (-242), 3) := by decide +kernel
theorem dX6_isSame_259 : decode cX6_isSame 259 = .ok (.iconst 0, 1) := by decide +kernel
theorem dX6_isSame_260 : decode cX6_isSame 260 = .ok (.istore 5, 2) := by decide +kernel
theorem dX6_isSame_262 : decode cX6_isSame 262 = .ok (.iload 5, 2) := by decide +kernel
theorem dX6_isSame_264 : decode cX6_isSame 264 = .ok (.aload_n 0, 1) := by decide +kernel
theorem dX6_isSame_265 : decode cX6_isSame 265 = .ok (.getfield 18, 3) := by decide +kernel
theorem dX6_isSame_268 : decode cX6_isSame 268 = .ok (.arraylength, 1) := by decide +kernel
theorem dX6_isSame_269 : decode cX6_isSame 269 = .ok (.if_icmp .ge 142, 3) := by decide +kernel
theorem dX6_isSame_272 : decode cX6_isSame 272 = .ok (.aload_n 0, 1) := by decide +kernel
theorem dX6_isSame_273 : decode cX6_isSame 273 = .ok (.getfield 18, 3) := by decide +kernel
theorem dX6_isSame_276 : decode cX6_isSame 276 = .ok (.iload 5, 2) := by decide +kernel
theorem dX6_isSame_278 : decode cX6_isSame 278 = .ok (.aaload, 1) := by decide +kernel
theorem dX6_isSame_279 : decode cX6_isSame 279 = .ok (.astore 6, 2) := by decide +kernel
theorem dX6_isSame_281 : decode cX6_isSame 281 = .ok (.aload 6, 2) := by decide +kernel
theorem dX6_isSame_283 : decode cX6_isSame 283 = .ok (.iconst 1, 1) := by decide +kernel
theorem dX6_isSame_284 : decode cX6_isSame 284 = .ok (.iaload, 1) := by decide +kernel
theorem dX6_isSame_285 : decode cX6_isSame 285 = .ok (.ifCond .ge 7, 3) := by decide +kernel
theorem dX6_isSame_288 : decode cX6_isSame 288 = .ok (.iconst (-1), 1) := by decide +kernel
theorem dX6_isSame_289 : decode cX6_isSame 289 = .ok (.goto 4, 3) := by decide +kernel
theorem dX6_isSame_292 : decode cX6_isSame 292 = .ok (.iconst 0, 1) := by decide +kernel
theorem dX6_isSame_293 : decode cX6_isSame 293 = .ok (.istore 7, 2) := by decide +kernel
theorem dX6_isSame_295 : decode cX6_isSame 295 = .ok (.aload 6, 2) := by decide +kernel
theorem dX6_isSame_297 : decode cX6_isSame 297 = .ok (.iconst 1, 1) := by decide +kernel
theorem dX6_isSame_298 : decode cX6_isSame 298 = .ok (.iaload, 1) := by decide +kernel
theorem dX6_isSame_299 : decode cX6_isSame 299 = .ok (.ifCond .lt 35, 3) := by decide +kernel
theorem dX6_isSame_302 : decode cX6_isSame 302 = .ok (.aload 6, 2) := by decide +kernel
theorem dX6_isSame_304 : decode cX6_isSame 304 = .ok (.iconst 2, 1) := by decide +kernel
theorem dX6_isSame_305 : decode cX6_isSame 305 = .ok (.iaload, 1) := by decide +kernel
theorem dX6_isSame_306 : decode cX6_isSame 306 = .ok (.iload 7, 2) := by decide +kernel
theorem dX6_isSame_308 : decode cX6_isSame 308 = .ok (.aload_n 0, 1) := by decide +kernel
theorem dX6_isSame_309 : decode cX6_isSame 309 = .ok (.getfield 14, 3) := by decide +kernel
theorem dX6_isSame_312 : decode cX6_isSame 312 = .ok (.aload 6, 2) := by decide +kernel
theorem dX6_isSame_314 : decode cX6_isSame 314 = .ok (.iconst 1, 1) := by decide +kernel
theorem dX6_isSame_315 : decode cX6_isSame 315 = .ok (.iaload, 1) := by decide +kernel
theorem dX6_isSame_316 : decode cX6_isSame 316 = .ok (.aaload, 1) := by decide +kernel
theorem dX6_isSame_317 : decode cX6_isSame 317 = .ok (.iconst 0, 1) := by decide +kernel
theorem dX6_isSame_318 : decode cX6_isSame 318 = .ok (.iaload, 1) := by decide +kernel
theorem dX6_isSame_319 : decode cX6_isSame 319 = .ok (.iconst 1, 1) := by decide +kernel
theorem dX6_isSame_320 : decode cX6_isSame 320 = .ok (.iadd, 1) := by decide +kernel
theorem dX6_isSame_321 : decode cX6_isSame 321 = .ok (.imul, 1) := by decide +kernel
theorem dX6_isSame_322 : decode cX6_isSame 322 = .ok (.iadd, 1) := by decide +kernel
theorem dX6_isSame_323 : decode cX6_isSame 323 = .ok (.bipush 60, 2) := by decide +kernel
theorem dX6_isSame_325 : decode cX6_isSame 325 = .ok (.if_icmp .ge 9, 3) := by decide +kernel
theorem dX6_isSame_328 : decode cX6_isSame 328 = .ok (.iinc 7 1, 3) := by decide +kernel
theorem dX6_isSame_331 : decode cX6_isSame 331 = .ok (.goto (-29), 3) := by decide +kernel
