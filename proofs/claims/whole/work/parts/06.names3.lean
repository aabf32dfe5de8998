theorem dX6_smash_73 : decode cX6_smash 73 = .ok (.iconst 1, 1) := by decide +kernel
theorem dX6_smash_74 : decode cX6_smash 74 = .ok (.invokevirtual 64, 3) := by decide +kernel
theorem dX6_smash_77 : decode cX6_smash 77 = .ok (.iconst 2, 1) := by decide +kernel
theorem dX6_smash_78 : decode cX6_smash 78 = .ok (.idiv, 1) := by decide +kernel
theorem dX6_smash_79 : decode cX6_smash 79 = .ok (.iadd, 1) := by decide +kernel
theorem dX6_smash_80 : decode cX6_smash 80 = .ok (.invokestatic 73, 3) := by decide +kernel
theorem dX6_smash_83 : decode cX6_smash 83 = .ok (.iastore, 1) := by decide +kernel
theorem dX6_smash_84 : decode cX6_smash 84 = .ok (.aload_n 0, 1) := by decide +kernel
theorem dX6_smash_85 : decode cX6_smash 85 = .ok (.getfield 13, 3) := by decide +kernel
theorem dX6_smash_88 : decode cX6_smash 88 = .ok (.iload_n 2, 1) := by decide +kernel
theorem dX6_smash_89 : decode cX6_smash 89 = .ok (.iaload, 1) := by decide +kernel
theorem dX6_smash_90 : decode cX6_smash 90 = .ok (.ireturn, 1) := by decide +kernel
set_option maxRecDepth 20000 in
theorem ggX6_build_X6_isIn : GoodIn wsX6_build wsX6_isIn := goodIn_r _ [7] (by decide +kernel) (by decide +kernel)
set_option maxRecDepth 20000 in
theorem gX6_build_X6_isIn : GoodIn wsX6_build (va_wsS RX6 35 yX6_isIn wsX6_isIn) := goodIn_app (goodIn_of _ (by decide +kernel)) ggX6_build_X6_isIn
set_option maxRecDepth 20000 in
theorem ggX6_build_X6_fail : GoodIn wsX6_build wsX6_fail := goodIn_r _ [11, 1, 12, 13, 14, 15, 16, 17, 18, 19, 20, 21] (by decide +kernel) (by decide +kernel)
set_option maxRecDepth 20000 in
theorem gX6_build_X6_fail : GoodIn wsX6_build (wsV RX6 45 RX6 yX6_fail wsX6_fail) := goodIn_app (goodIn_of _ (by decide +kernel)) ggX6_build_X6_fail
theorem dX6_build_0 : decode cX6_build 0 = .ok (.aload_n 0, 1) := by decide +kernel
theorem dX6_build_1 : decode cX6_build 1 = .ok (.iconst 0, 1) := by decide +kernel
theorem dX6_build_2 : decode cX6_build 2 = .ok (.putfield 28, 3) := by decide +kernel
theorem dX6_build_5 : decode cX6_build 5 = .ok (.iload_n 1, 1) := by decide +kernel
theorem dX6_build_6 : decode cX6_build 6 = .ok (.bipush 20, 2) := by decide +kernel
theorem dX6_build_8 : decode cX6_build 8 = .ok (.sipush 400, 3) := by decide +kernel
theorem dX6_build_11 : decode cX6_build 11 = .ok (.invokestatic 35, 3) := by decide +kernel
theorem dX6_build_14 : decode cX6_build 14 = .ok (.ifCond .ne 9, 3) := by decide +kernel
theorem dX6_build_17 : decode cX6_build 17 = .ok (.aload_n 0, 1) := by decide +kernel
theorem dX6_build_18 : decode cX6_build 18 = .ok (.iconst 1, 1) := by decide +kernel
theorem dX6_build_19 : decode cX6_build 19 = .ok (.invokevirtual 45, 3) := by decide +kernel
theorem dX6_build_22 : decode cX6_build 22 = .ok (.ireturn, 1) := by decide +kernel
theorem dX6_build_23 : decode cX6_build 23 = .ok (.aload_n 0, 1) := by decide +kernel
theorem dX6_build_24 : decode cX6_build 24 = .ok (.getfield 42, 3) := by decide +kernel
theorem dX6_build_27 : decode cX6_build 27 = .ok (.iconst 3, 1) := by decide +kernel
theorem dX6_build_28 : decode cX6_build 28 = .ok (.if_icmp .ne 9, 3) := by decide +kernel
theorem dX6_build_31 : decode cX6_build 31 = .ok (.aload_n 0, 1) := by decide +kernel
theorem dX6_build_32 : decode cX6_build 32 = .ok (.iconst 2, 1) := by decide +kernel
theorem dX6_build_33 : decode cX6_build 33 = .ok (.invokevirtual 45, 3) := by decide +kernel
theorem dX6_build_36 : decode cX6_build 36 = .ok (.ireturn, 1) := by decide +kernel
theorem dX6_build_37 : decode cX6_build 37 = .ok (.aload_n 0, 1) := by decide +kernel
theorem dX6_build_38 : decode cX6_build 38 = .ok (.getfield 22, 3) := by decide +kernel
theorem dX6_build_41 : decode cX6_build 41 = .ok (.iconst 2, 1) := by decide +kernel
theorem dX6_build_42 : decode cX6_build 42 = .ok (.aload_n 0, 1) := by decide +kernel
theorem dX6_build_43 : decode cX6_build 43 = .ok (.getfield 42, 3) := by decide +kernel
theorem dX6_build_46 : decode cX6_build 46 = .ok (.imul, 1) := by decide +kernel
theorem dX6_build_47 : decode cX6_build 47 = .ok (.iconst 0, 1) := by decide +kernel
theorem dX6_build_48 : decode cX6_build 48 = .ok (.iadd, 1) := by decide +kernel
theorem dX6_build_49 : decode cX6_build 49 = .ok (.iload_n 1, 1) := by decide +kernel
theorem dX6_build_50 : decode cX6_build 50 = .ok (.iastore, 1) := by decide +kernel
theorem dX6_build_51 : decode cX6_build 51 = .ok (.aload_n 0, 1) := by decide +kernel
theorem dX6_build_52 : decode cX6_build 52 = .ok (.getfield 22, 3) := by decide +kernel
theorem dX6_build_55 : decode cX6_build 55 = .ok (.iconst 2, 1) := by decide +kernel
theorem dX6_build_56 : decode cX6_build 56 = .ok (.aload_n 0, 1) := by decide +kernel
theorem dX6_build_57 : decode cX6_build 57 = .ok (.getfield 42, 3) := by decide +kernel
theorem dX6_build_60 : decode cX6_build 60 = .ok (.imul, 1) := by decide +kernel
theorem dX6_build_61 : decode cX6_build 61 = .ok (.iconst 1, 1) := by decide +kernel
theorem dX6_build_62 : decode cX6_build 62 = .ok (.iadd, 1) := by decide +kernel
theorem dX6_build_63 : decode cX6_build 63 = .ok (.iconst (-1), 1) := by decide +kernel
theorem dX6_build_64 : decode cX6_build 64 = .ok (.iastore, 1) := by decide +kernel
theorem dX6_build_65 : decode cX6_build 65 = .ok (.aload_n 0, 1) := by decide +kernel
theorem dX6_build_66 : decode cX6_build 66 = .ok (.dup, 1) := by decide +kernel
theorem dX6_build_67 : decode cX6_build 67 = .ok (.getfield 42, 3) := by decide +kernel
theorem dX6_build_70 : decode cX6_build 70 = .ok (.iconst 1, 1) := by decide +kernel
theorem dX6_build_71 : decode cX6_build 71 = .ok (.iadd, 1) := by decide +kernel
theorem dX6_build_72 : decode cX6_build 72 = .ok (.putfield 42, 3) := by decide +kernel
theorem dX6_build_75 : decode cX6_build 75 = .ok (.aload_n 0, 1) := by decide +kernel
theorem dX6_build_76 : decode cX6_build 76 = .ok (.getfield 42, 3) := by decide +kernel
theorem dX6_build_79 : decode cX6_build 79 = .ok (.iconst 1, 1) := by decide +kernel
theorem dX6_build_80 : decode cX6_build 80 = .ok (.isub, 1) := by decide +kernel
theorem dX6_build_81 : decode cX6_build 81 = .ok (.ireturn, 1) := by decide +kernel
theorem dX6_isAway_0 : decode cX6_isAway 0 = .ok (.aload_n 0, 1) := by decide +kernel
theorem dX6_isAway_1 : decode cX6_isAway 1 = .ok (.getfield 22, 3) := by decide +kernel
theorem dX6_isAway_4 : decode cX6_isAway 4 = .ok (.iconst 2, 1) := by decide +kernel
theorem dX6_isAway_5 : decode cX6_isAway 5 = .ok (.iload_n 1, 1) := by decide +kernel
theorem dX6_isAway_6 : decode cX6_isAway 6 = .ok (.imul, 1) := by decide +kernel
theorem dX6_isAway_7 : decode cX6_isAway 7 = .ok (.iconst 1, 1) := by decide +kernel
theorem dX6_isAway_8 : decode cX6_isAway 8 = .ok (.iadd, 1) := by decide +kernel
theorem dX6_isAway_9 : decode cX6_isAway 9 = .ok (.iaload, 1) := by decide +kernel
theorem dX6_isAway_10 : decode cX6_isAway 10 = .ok (.iconst (-1), 1) := by decide +kernel
theorem dX6_isAway_11 : decode cX6_isAway 11 = .ok (.if_icmp .eq 7, 3) := by decide +kernel
theorem dX6_isAway_14 : decode cX6_isAway 14 = .ok (.iconst 1, 1) := by decide +kernel
theorem dX6_isAway_15 : decode cX6_isAway 15 = .ok (.goto 4, 3) := by decide +kernel
theorem dX6_isAway_18 : decode cX6_isAway 18 = .ok (.iconst 0, 1) := by decide +kernel
theorem dX6_isAway_19 : decode cX6_isAway 19 = .ok (.ireturn, 1) := by decide +kernel
set_option maxRecDepth 20000 in
theorem ggX6_isUpon_X6_st : GoodIn wsX6_isUpon wsX6_st := goodIn_r _ [5, 6, 7, 8, 9, 10, 11, 12, 13, 14, 15, 16] (by decide +kernel) (by decide +kernel)
set_option maxRecDepth 20000 in
theorem gX6_isUpon_X6_st : GoodIn wsX6_isUpon (wsV RX6 64 RX6 yX6_st wsX6_st) := goodIn_app (goodIn_of _ (by decide +kernel)) ggX6_isUpon_X6_st
theorem dX6_isUpon_0 : decode cX6_isUpon 0 = .ok (.aload_n 0, 1) := by decide +kernel
theorem dX6_isUpon_1 : decode cX6_isUpon 1 = .ok (.iload_n 1, 1) := by decide +kernel
theorem dX6_isUpon_2 : decode cX6_isUpon 2 = .ok (.iconst 2, 1) := by decide +kernel
theorem dX6_isUpon_3 : decode cX6_isUpon 3 = .ok (.invokevirtual 64, 3) := by decide +kernel
theorem dX6_isUpon_6 : decode cX6_isUpon 6 = .ok (.iconst 2, 1) := by decide +kernel
theorem dX6_isUpon_7 : decode cX6_isUpon 7 = .ok (.if_icmp .ne 17, 3) := by decide +kernel
theorem dX6_isUpon_10 : decode cX6_isUpon 10 = .ok (.aload_n 0, 1) := by decide +kernel
theorem dX6_isUpon_11 : decode cX6_isUpon 11 = .ok (.iload_n 1, 1) := by decide +kernel
theorem dX6_isUpon_12 : decode cX6_isUpon 12 = .ok (.iconst 3, 1) := by decide +kernel
theorem dX6_isUpon_13 : decode cX6_isUpon 13 = .ok (.invokevirtual 64, 3) := by decide +kernel
theorem dX6_isUpon_16 : decode cX6_isUpon 16 = .ok (.iload_n 2, 1) := by decide +kernel
theorem dX6_isUpon_17 : decode cX6_isUpon 17 = .ok (.if_icmp .ne 7, 3) := by decide +kernel
theorem dX6_isUpon_20 : decode cX6_isUpon 20 = .ok (.iconst 1, 1) := by decide +kernel
theorem dX6_isUpon_21 : decode cX6_isUpon 21 = .ok (.goto 4, 3) := by decide +kernel
theorem dX6_isUpon_24 : decode cX6_isUpon 24 = .ok (.iconst 0, 1) := by decide +kernel
theorem dX6_isUpon_25 : decode cX6_isUpon 25 = .ok (.ireturn, 1) := by decide +kernel
set_option maxRecDepth 20000 in
theorem ggX6_left_X6_isUpon : GoodIn wsX6_left wsX6_isUpon := goodIn_r _ [7, 8, 9, 10, 6, 11, 12, 17, 18, 19, 20, 21, 22, 23, 24, 25, 26] (by decide +kernel) (by decide +kernel)
set_option maxRecDepth 20000 in
theorem gX6_left_X6_isUpon : GoodIn wsX6_left (wsV RX6 78 RX6 yX6_isUpon wsX6_isUpon) := goodIn_app (goodIn_of _ (by decide +kernel)) ggX6_left_X6_isUpon
set_option maxRecDepth 20000 in
theorem ggX6_left_X6_weight : GoodIn wsX6_left wsX6_weight := goodIn_r _ [16, 8, 9, 10, 6, 11, 12, 17, 18, 19, 20, 21, 22, 23, 24, 25, 26] (by decide +kernel) (by decide +kernel)
set_option maxRecDepth 20000 in
theorem gX6_left_X6_weight : GoodIn wsX6_left (wsV RX6 82 RX6 yX6_weight wsX6_weight) := goodIn_app (goodIn_of _ (by decide +kernel)) ggX6_left_X6_weight
theorem dX6_left_0 : decode cX6_left 0 = .ok (.aload_n 0, 1) := by decide +kernel
theorem dX6_left_1 : decode cX6_left 1 = .ok (.getfield 22, 3) := by decide +kernel
theorem dX6_left_4 : decode cX6_left 4 = .ok (.iconst 2, 1) := by decide +kernel
theorem dX6_left_5 : decode cX6_left 5 = .ok (.iload_n 1, 1) := by decide +kernel
theorem dX6_left_6 : decode cX6_left 6 = .ok (.imul, 1) := by decide +kernel
theorem dX6_left_7 : decode cX6_left 7 = .ok (.iconst 0, 1) := by decide +kernel
theorem dX6_left_8 : decode cX6_left 8 = .ok (.iadd, 1) := by decide +kernel
theorem dX6_left_9 : decode cX6_left 9 = .ok (.iaload, 1) := by decide +kernel
theorem dX6_left_10 : decode cX6_left 10 = .ok (.istore_n 2, 1) := by decide +kernel
theorem dX6_left_11 : decode cX6_left 11 = .ok (.iconst 0, 1) := by decide +kernel
theorem dX6_left_12 : decode cX6_left 12 = .ok (.istore_n 3, 1) := by decide +kernel
theorem dX6_left_13 : decode cX6_left 13 = .ok (.iload_n 3, 1) := by decide +kernel
theorem dX6_left_14 : decode cX6_left 14 = .ok (.aload_n 0, 1) := by decide +kernel
theorem dX6_left_15 : decode cX6_left 15 = .ok (.getfield 25, 3) := by decide +kernel
theorem dX6_left_18 : decode cX6_left 18 = .ok (.iconst 2, 1) := by decide +kernel
theorem dX6_left_19 : decode cX6_left 19 = .ok (.iaload, 1) := by decide +kernel
theorem dX6_left_20 : decode cX6_left 20 = .ok (.if_icmp .ge 30, 3) := by decide +kernel
theorem dX6_left_23 : decode cX6_left 23 = .ok (.iload_n 2, 1) := by decide +kernel
theorem dX6_left_24 : decode cX6_left 24 = .ok (.aload_n 0, 1) := by decide +kernel
theorem dX6_left_25 : decode cX6_left 25 = .ok (.iload_n 3, 1) := by decide +kernel
theorem dX6_left_26 : decode cX6_left 26 = .ok (.iload_n 1, 1) := by decide +kernel
theorem dX6_left_27 : decode cX6_left 27 = .ok (.invokevirtual 78, 3) := by decide +kernel
theorem dX6_left_30 : decode cX6_left 30 = .ok (.ifCond .eq 11, 3) := by decide +kernel
theorem dX6_left_33 : decode cX6_left 33 = .ok (.aload_n 0, 1) := by decide +kernel
theorem dX6_left_34 : decode cX6_left 34 = .ok (.iload_n 3, 1) := by decide +kernel
theorem dX6_left_35 : decode cX6_left 35 = .ok (.invokevirtual 82, 3) := by decide +kernel
theorem dX6_left_38 : decode cX6_left 38 = .ok (.goto 4, 3) := by decide +kernel
theorem dX6_left_41 : decode cX6_left 41 = .ok (.iconst 0, 1) := by decide +kernel
theorem dX6_left_42 : decode cX6_left 42 = .ok (.isub, 1) := by decide +kernel
theorem dX6_left_43 : decode cX6_left 43 = .ok (.istore_n 2, 1) := by decide +kernel
theorem dX6_left_44 : decode cX6_left 44 = .ok (.iinc 3 1, 3) := by decide +kernel
theorem dX6_left_47 : decode cX6_left 47 = .ok (.goto (-34), 3) := by decide +kernel
theorem dX6_left_50 : decode cX6_left 50 = .ok (.iload_n 2, 1) := by decide +kernel
theorem dX6_left_51 : decode cX6_left 51 = .ok (.ireturn, 1) := by decide +kernel
set_option maxRecDepth 20000 in
theorem ggX6_upon_X6_isUpon : GoodIn wsX6_upon wsX6_isUpon := goodIn_r _ [6, 7, 8, 9, 5, 10, 11, 12, 13, 14, 15, 16, 17, 18, 19, 20, 21] (by decide +kernel) (by decide +kernel)
set_option maxRecDepth 20000 in
theorem gX6_upon_X6_isUpon : GoodIn wsX6_upon (wsV RX6 78 RX6 yX6_isUpon wsX6_isUpon) := goodIn_app (goodIn_of _ (by decide +kernel)) ggX6_upon_X6_isUpon
theorem dX6_upon_0 : decode cX6_upon 0 = .ok (.iconst 0, 1) := by decide +kernel
theorem dX6_upon_1 : decode cX6_upon 1 = .ok (.istore_n 2, 1) := by decide +kernel
theorem dX6_upon_2 : decode cX6_upon 2 = .ok (.iconst 0, 1) := by decide +kernel
theorem dX6_upon_3 : decode cX6_upon 3 = .ok (.istore_n 3, 1) := by decide +kernel
theorem dX6_upon_4 : decode cX6_upon 4 = .ok (.iload_n 3, 1) := by decide +kernel
theorem dX6_upon_5 : decode cX6_upon 5 = .ok (.aload_n 0, 1) := by decide +kernel
theorem dX6_upon_6 : decode cX6_upon 6 = .ok (.getfield 25, 3) := by decide +kernel
theorem dX6_upon_9 : decode cX6_upon 9 = .ok (.iconst 2, 1) := by decide +kernel
theorem dX6_upon_10 : decode cX6_upon 10 = .ok (.iaload, 1) := by decide +kernel
theorem dX6_upon_11 : decode cX6_upon 11 = .ok (.if_icmp .ge 26, 3) := by decide +kernel
theorem dX6_upon_14 : decode cX6_upon 14 = .ok (.iload_n 2, 1) := by decide +kernel
theorem dX6_upon_15 : decode cX6_upon 15 = .ok (.aload_n 0, 1) := by decide +kernel
theorem dX6_upon_16 : decode cX6_upon 16 = .ok (.iload_n 3, 1) := by decide +kernel
theorem dX6_upon_17 : decode cX6_upon 17 = .ok (.iload_n 1, 1) := by decide +kernel
theorem dX6_upon_18 : decode cX6_upon 18 = .ok (.invokevirtual 78, 3) := by decide +kernel
theorem dX6_upon_21 : decode cX6_upon 21 = .ok (.ifCond .eq 7, 3) := by decide +kernel
theorem dX6_upon_24 : decode cX6_upon 24 = .ok (.iconst 1, 1) := by decide +kernel
theorem dX6_upon_25 : decode cX6_upon 25 = .ok (.goto 4, 3) := by decide +kernel
theorem dX6_upon_28 : decode cX6_upon 28 = .ok (.iconst 0, 1) := by decide +kernel
theorem dX6_upon_29 : decode cX6_upon 29 = .ok (.iadd, 1) := by decide +kernel
theorem dX6_upon_30 : decode cX6_upon 30 = .ok (.istore_n 2, 1) := by decide +kernel
theorem dX6_upon_31 : decode cX6_upon 31 = .ok (.iinc 3 1, 3) := by decide +kernel
theorem dX6_upon_34 : decode cX6_upon 34 = .ok (.goto (-30), 3) := by decide +kernel
theorem dX6_upon_37 : decode cX6_upon 37 = .ok (.iload_n 2, 1) := by decide +kernel
theorem dX6_upon_38 : decode cX6_upon 38 = .ok (.ireturn, 1) := by decide +kernel
set_option maxRecDepth 20000 in
theorem ggX6_load_X6_isWheel : GoodIn wsX6_load wsX6_isWheel := goodIn_r _ [7, 8, 9, 10, 6, 11, 42, 43, 44, 45, 46, 47, 48, 49, 50, 51] (by decide +kernel) (by decide +kernel)
set_option maxRecDepth 20000 in
theorem gX6_load_X6_isWheel : GoodIn wsX6_load (wsV RX6 70 RX6 yX6_isWheel wsX6_isWheel) := goodIn_app (goodIn_of _ (by decide +kernel)) ggX6_load_X6_isWheel
set_option maxRecDepth 20000 in
theorem ggX6_load_X6_isRaft : GoodIn wsX6_load wsX6_isRaft := goodIn_r _ [15, 16, 9, 10, 6, 11, 42, 43, 44, 45, 46, 47, 48, 49, 50, 51] (by decide +kernel) (by decide +kernel)
set_option maxRecDepth 20000 in
theorem gX6_load_X6_isRaft : GoodIn wsX6_load (wsV RX6 85 RX6 yX6_isRaft wsX6_isRaft) := goodIn_app (goodIn_of _ (by decide +kernel)) ggX6_load_X6_isRaft
set_option maxRecDepth 20000 in
theorem ggX6_load_X6_fail : GoodIn wsX6_load wsX6_fail := goodIn_r _ [20, 1, 42, 43, 44, 45, 46, 47, 48, 49, 50, 51] (by decide +kernel) (by decide +kernel)
set_option maxRecDepth 20000 in
theorem gX6_load_X6_fail : GoodIn wsX6_load (wsV RX6 45 RX6 yX6_fail wsX6_fail) := goodIn_app (goodIn_of _ (by decide +kernel)) ggX6_load_X6_fail
set_option maxRecDepth 20000 in
theorem ggX6_load_X6_st : GoodIn wsX6_load wsX6_st := goodIn_r _ [24, 2, 42, 43, 44, 45, 46, 47, 48, 49, 50, 51] (by decide +kernel) (by decide +kernel)
set_option maxRecDepth 20000 in
theorem gX6_load_X6_st : GoodIn wsX6_load (wsV RX6 64 RX6 yX6_st wsX6_st) := goodIn_app (goodIn_of _ (by decide +kernel)) ggX6_load_X6_st
set_option maxRecDepth 20000 in
theorem ggX6_load_X6_isAway : GoodIn wsX6_load wsX6_isAway := goodIn_r _ [28, 29, 42, 43, 44, 45, 46, 47, 48, 49, 50, 51] (by decide +kernel) (by decide +kernel)
set_option maxRecDepth 20000 in
theorem gX6_load_X6_isAway : GoodIn wsX6_load (wsV RX6 88 RX6 yX6_isAway wsX6_isAway) := goodIn_app (goodIn_of _ (by decide +kernel)) ggX6_load_X6_isAway
set_option maxRecDepth 20000 in
theorem ggX6_load_X6_weight : GoodIn wsX6_load wsX6_weight := goodIn_r _ [33, 21, 22, 23, 6, 24, 2, 42, 43, 44, 45, 46, 47, 48, 49, 50, 51] (by decide +kernel) (by decide +kernel)
set_option maxRecDepth 20000 in
theorem gX6_load_X6_weight : GoodIn wsX6_load (wsV RX6 82 RX6 yX6_weight wsX6_weight) := goodIn_app (goodIn_of _ (by decide +kernel)) ggX6_load_X6_weight
set_option maxRecDepth 20000 in
theorem ggX6_load_X6_left : GoodIn wsX6_load wsX6_left := goodIn_r _ [37, 29, 8, 38, 39, 40, 6, 41, 21, 22, 23, 24, 2, 30, 31, 32, 33, 42, 43, 44, 45, 46, 47, 48, 49, 50, 51] (by decide +kernel) (by decide +kernel)
set_option maxRecDepth 20000 in
theorem gX6_load_X6_left : GoodIn wsX6_load (wsV RX6 91 RX6 yX6_left wsX6_left) := goodIn_app (goodIn_of _ (by decide +kernel)) ggX6_load_X6_left
theorem dX6_load_0 : decode cX6_load 0 = .ok (.aload_n 0, 1) := by decide +kernel
theorem dX6_load_1 : decode cX6_load 1 = .ok (.iconst 0, 1) := by decide +kernel
theorem dX6_load_2 : decode cX6_load 2 = .ok (.putfield 28, 3) := by decide +kernel
theorem dX6_load_5 : decode cX6_load 5 = .ok (.aload_n 0, 1) := by decide +kernel
theorem dX6_load_6 : decode cX6_load 6 = .ok (.iload_n 1, 1) := by decide +kernel
theorem dX6_load_7 : decode cX6_load 7 = .ok (.invokevirtual 70, 3) := by decide +kernel
theorem dX6_load_10 : decode cX6_load 10 = .ok (.ifCond .eq 11, 3) := by decide +kernel
theorem dX6_load_13 : decode cX6_load 13 = .ok (.aload_n 0, 1) := by decide +kernel
theorem dX6_load_14 : decode cX6_load 14 = .ok (.iload_n 2, 1) := by decide +kernel
theorem dX6_load_15 : decode cX6_load 15 = .ok (.invokevirtual 85, 3) := by decide +kernel
theorem dX6_load_18 : decode cX6_load 18 = .ok (.ifCond .ne 9, 3) := by decide +kernel
theorem dX6_load_21 : decode cX6_load 21 = .ok (.aload_n 0, 1) := by decide +kernel
theorem dX6_load_22 : decode cX6_load 22 = .ok (.iconst 1, 1) := by decide +kernel
theorem dX6_load_23 : decode cX6_load 23 = .ok (.invokevirtual 45, 3) := by decide +kernel
theorem dX6_load_26 : decode cX6_load 26 = .ok (.ireturn, 1) := by decide +kernel
theorem dX6_load_27 : decode cX6_load 27 = .ok (.aload_n 0, 1) := by decide +kernel
theorem dX6_load_28 : decode cX6_load 28 = .ok (.iload_n 1, 1) := by decide +kernel
theorem dX6_load_29 : decode cX6_load 29 = .ok (.iconst 2, 1) := by decide +kernel
theorem dX6_load_30 : decode cX6_load 30 = .ok (.invokevirtual 64, 3) := by decide +kernel
theorem dX6_load_33 : decode cX6_load 33 = .ok (.iconst 1, 1) := by decide +kernel
theorem dX6_load_34 : decode cX6_load 34 = .ok (.if_icmp .ne 24, 3) := by decide +kernel
theorem dX6_load_37 : decode cX6_load 37 = .ok (.aload_n 0, 1) := by decide +kernel
theorem dX6_load_38 : decode cX6_load 38 = .ok (.iload_n 2, 1) := by decide +kernel
theorem dX6_load_39 : decode cX6_load 39 = .ok (.invokevirtual 88, 3) := by decide +kernel
theorem dX6_load_42 : decode cX6_load 42 = .ok (.ifCond .ne 16, 3) := by decide +kernel
theorem dX6_load_45 : decode cX6_load 45 = .ok (.aload_n 0, 1) := by decide +kernel
theorem dX6_load_46 : decode cX6_load 46 = .ok (.iload_n 1, 1) := by decide +kernel
theorem dX6_load_47 : decode cX6_load 47 = .ok (.invokevirtual 82, 3) := by decide +kernel
theorem dX6_load_50 : decode cX6_load 50 = .ok (.aload_n 0, 1) := by decide +kernel
theorem dX6_load_51 : decode cX6_load 51 = .ok (.iload_n 2, 1) := by decide +kernel
theorem dX6_load_52 : decode cX6_load 52 = .ok (.invokevirtual 91, 3) := by decide +kernel
theorem dX6_load_55 : decode cX6_load 55 = .ok (.if_icmp .le 9, 3) := by decide +kernel
theorem dX6_load_58 : decode cX6_load 58 = .ok (.aload_n 0, 1) := by decide +kernel
theorem dX6_load_59 : decode cX6_load 59 = .ok (.iconst 2, 1) := by decide +kernel
theorem dX6_load_60 : decode cX6_load 60 = .ok (.invokevirtual 45, 3) := by decide +kernel
theorem dX6_load_63 : decode cX6_load 63 = .ok (.ireturn, 1) := by decide +kernel
theorem dX6_load_64 : decode cX6_load 64 = .ok (.aload_n 0, 1) := by decide +kernel
theorem dX6_load_65 : decode cX6_load 65 = .ok (.getfield 19, 3) := by decide +kernel
theorem dX6_load_68 : decode cX6_load 68 = .ok (.iconst 5, 1) := by decide +kernel
theorem dX6_load_69 : decode cX6_load 69 = .ok (.iload_n 1, 1) := by decide +kernel
theorem dX6_load_70 : decode cX6_load 70 = .ok (.imul, 1) := by decide +kernel
theorem dX6_load_71 : decode cX6_load 71 = .ok (.iconst 2, 1) := by decide +kernel
theorem dX6_load_72 : decode cX6_load 72 = .ok (.iadd, 1) := by decide +kernel
theorem dX6_load_73 : decode cX6_load 73 = .ok (.iconst 2, 1) := by decide +kernel
theorem dX6_load_74 : decode cX6_load 74 = .ok (.iastore, 1) := by decide +kernel
theorem dX6_load_75 : decode cX6_load 75 = .ok (.aload_n 0, 1) := by decide +kernel
theorem dX6_load_76 : decode cX6_load 76 = .ok (.getfield 19, 3) := by decide +kernel
theorem dX6_load_79 : decode cX6_load 79 = .ok (.iconst 5, 1) := by decide +kernel
theorem dX6_load_80 : decode cX6_load 80 = .ok (.iload_n 1, 1) := by decide +kernel
theorem dX6_load_81 : decode cX6_load 81 = .ok (.imul, 1) := by decide +kernel
theorem dX6_load_82 : decode cX6_load 82 = .ok (.iconst 3, 1) := by decide +kernel
theorem dX6_load_83 : decode cX6_load 83 = .ok (.iadd, 1) := by decide +kernel
theorem dX6_load_84 : decode cX6_load 84 = .ok (.iload_n 2, 1) := by decide +kernel
theorem dX6_load_85 : decode cX6_load 85 = .ok (.iastore, 1) := by decide +kernel
theorem dX6_load_86 : decode cX6_load 86 = .ok (.aload_n 0, 1) := by decide +kernel
theorem dX6_load_87 : decode cX6_load 87 = .ok (.iload_n 2, 1) := by decide +kernel
theorem dX6_load_88 : decode cX6_load 88 = .ok (.invokevirtual 91, 3) := by decide +kernel
theorem dX6_load_91 : decode cX6_load 91 = .ok (.ireturn, 1) := by decide +kernel
theorem dX6_water_0 : decode cX6_water 0 = .ok (.aload_n 0, 1) := by decide +kernel
theorem dX6_water_1 : decode cX6_water 1 = .ok (.getfield 7, 3) := by decide +kernel
theorem dX6_water_4 : decode cX6_water 4 = .ok (.aload_n 0, 1) := by decide +kernel
theorem dX6_water_5 : decode cX6_water 5 = .ok (.getfield 25, 3) := by decide +kernel
theorem dX6_water_8 : decode cX6_water 8 = .ok (.iconst 0, 1) := by decide +kernel
theorem dX6_water_9 : decode cX6_water 9 = .ok (.iaload, 1) := by decide +kernel
theorem dX6_water_10 : decode cX6_water 10 = .ok (.bipush 9, 2) := by decide +kernel
theorem dX6_water_12 : decode cX6_water 12 = .ok (.irem, 1) := by decide +kernel
theorem dX6_water_13 : decode cX6_water 13 = .ok (.iaload, 1) := by decide +kernel
theorem dX6_water_14 : decode cX6_water 14 = .ok (.ireturn, 1) := by decide +kernel
set_option maxRecDepth 20000 in
theorem ggX6_ship_X6_isRaft : GoodIn wsX6_ship wsX6_isRaft := goodIn_r _ [9, 10, 11, 12, 8, 13, 48, 49, 50, 51, 52, 53, 54, 55, 56, 57] (by decide +kernel) (by decide +kernel)
set_option maxRecDepth 20000 in
theorem gX6_ship_X6_isRaft : GoodIn wsX6_ship (wsV RX6 85 RX6 yX6_isRaft wsX6_isRaft) := goodIn_app (goodIn_of _ (by decide +kernel)) ggX6_ship_X6_isRaft
set_option maxRecDepth 20000 in
theorem ggX6_ship_X6_fail : GoodIn wsX6_ship wsX6_fail := goodIn_r _ [17, 1, 48, 49, 50, 51, 52, 53, 54, 55, 56, 57] (by decide +kernel) (by decide +kernel)
set_option maxRecDepth 20000 in
theorem gX6_ship_X6_fail : GoodIn wsX6_ship (wsV RX6 45 RX6 yX6_fail wsX6_fail) := goodIn_app (goodIn_of _ (by decide +kernel)) ggX6_ship_X6_fail
set_option maxRecDepth 20000 in
theorem ggX6_ship_X6_isAway : GoodIn wsX6_ship wsX6_isAway := goodIn_r _ [21, 4, 48, 49, 50, 51, 52, 53, 54, 55, 56, 57] (by decide +kernel) (by decide +kernel)
set_option maxRecDepth 20000 in
theorem gX6_ship_X6_isAway : GoodIn wsX6_ship (wsV RX6 88 RX6 yX6_isAway wsX6_isAway) := goodIn_app (goodIn_of _ (by decide +kernel)) ggX6_ship_X6_isAway
set_option maxRecDepth 20000 in
theorem ggX6_ship_X6_upon : GoodIn wsX6_ship wsX6_upon := goodIn_r _ [25, 2, 26, 27, 28, 8, 29, 30, 31, 32, 33, 3, 48, 49, 50, 51, 52, 53, 54, 55, 56, 57] (by decide +kernel) (by decide +kernel)
set_option maxRecDepth 20000 in
theorem gX6_ship_X6_upon : GoodIn wsX6_ship (wsV RX6 94 RX6 yX6_upon wsX6_upon) := goodIn_app (goodIn_of _ (by decide +kernel)) ggX6_ship_X6_upon
set_option maxRecDepth 20000 in
theorem ggX6_ship_X6_water : GoodIn wsX6_ship wsX6_water := goodIn_r _ [37, 38, 2, 48, 49, 50, 51, 52, 53, 54, 55, 56, 57] (by decide +kernel) (by decide +kernel)
set_option maxRecDepth 20000 in
theorem gX6_ship_X6_water : GoodIn wsX6_ship (wsV RX6 97 RX6 yX6_water wsX6_water) := goodIn_app (goodIn_of _ (by decide +kernel)) ggX6_ship_X6_water
set_option maxRecDepth 20000 in
theorem ggX6_ship_X6_isUpon : GoodIn wsX6_ship wsX6_isUpon := goodIn_r _ [29, 30, 31, 32, 8, 33, 3, 48, 49, 50, 51, 52, 53, 54, 55, 56, 57] (by decide +kernel) (by decide +kernel)
set_option maxRecDepth 20000 in
theorem gX6_ship_X6_isUpon : GoodIn wsX6_ship (wsV RX6 78 RX6 yX6_isUpon wsX6_isUpon) := goodIn_app (goodIn_of _ (by decide +kernel)) ggX6_ship_X6_isUpon
set_option maxRecDepth 20000 in
theorem ggX6_ship_X6_worth : GoodIn wsX6_ship wsX6_worth := goodIn_r _ [42, 30, 31, 32, 8, 33, 3, 43, 44, 45, 46, 47, 48, 49, 50, 51, 52, 53, 54, 55, 56, 57] (by decide +kernel) (by decide +kernel)
set_option maxRecDepth 20000 in
theorem gX6_ship_X6_worth : GoodIn wsX6_ship (wsV RX6 101 RX6 yX6_worth wsX6_worth) := goodIn_app (goodIn_of _ (by decide +kernel)) ggX6_ship_X6_worth
theorem dX6_ship_0 : decode cX6_ship 0 = .ok (.aload_n 0, 1) := by decide +kernel
theorem dX6_ship_1 : decode cX6_ship 1 = .ok (.iconst 0, 1) := by decide +kernel
theorem dX6_ship_2 : decode cX6_ship 2 = .ok (.putfield 28, 3) := by decide +kernel
theorem dX6_ship_5 : decode cX6_ship 5 = .ok (.aload_n 0, 1) := by decide +kernel
theorem dX6_ship_6 : decode cX6_ship 6 = .ok (.iload_n 1, 1) := by decide +kernel
theorem dX6_ship_7 : decode cX6_ship 7 = .ok (.invokevirtual 85, 3) := by decide +kernel
theorem dX6_ship_10 : decode cX6_ship 10 = .ok (.ifCond .ne 9, 3) := by decide +kernel
theorem dX6_ship_13 : decode cX6_ship 13 = .ok (.aload_n 0, 1) := by decide +kernel
theorem dX6_ship_14 : decode cX6_ship 14 = .ok (.iconst 1, 1) := by decide +kernel
theorem dX6_ship_15 : decode cX6_ship 15 = .ok (.invokevirtual 45, 3) := by decide +kernel
theorem dX6_ship_18 : decode cX6_ship 18 = .ok (.ireturn, 1) := by decide +kernel
theorem dX6_ship_19 : decode cX6_ship 19 = .ok (.aload_n 0, 1) := by decide +kernel
theorem dX6_ship_20 : decode cX6_ship 20 = .ok (.iload_n 1, 1) := by decide +kernel
theorem dX6_ship_21 : decode cX6_ship 21 = .ok (.invokevirtual 88, 3) := by decide +kernel
theorem dX6_ship_24 : decode cX6_ship 24 = .ok (.ifCond .ne 19, 3) := by decide +kernel
theorem dX6_ship_27 : decode cX6_ship 27 = .ok (.aload_n 0, 1) := by decide +kernel
theorem dX6_ship_28 : decode cX6_ship 28 = .ok (.iload_n 1, 1) := by decide +kernel
theorem dX6_ship_29 : decode cX6_ship 29 = .ok (.invokevirtual 94, 3) := by decide +kernel
theorem dX6_ship_32 : decode cX6_ship 32 = .ok (.ifCond .eq 11, 3) := by decide +kernel
theorem dX6_ship_35 : decode cX6_ship 35 = .ok (.aload_n 0, 1) := by decide +kernel
theorem dX6_ship_36 : decode cX6_ship 36 = .ok (.invokevirtual 97, 3) := by decide +kernel
theorem dX6_ship_39 : decode cX6_ship 39 = .ok (.iconst 2, 1) := by decide +kernel
theorem dX6_ship_40 : decode cX6_ship 40 = .ok (.if_icmp .ge 9, 3) := by decide +kernel
theorem dX6_ship_43 : decode cX6_ship 43 = .ok (.aload_n 0, 1) := by decide +kernel
theorem dX6_ship_44 : decode cX6_ship 44 = .ok (.iconst 2, 1) := by decide +kernel
theorem dX6_ship_45 : decode cX6_ship 45 = .ok (.invokevirtual 45, 3) := by decide +kernel
theorem dX6_ship_48 : decode cX6_ship 48 = .ok (.ireturn, 1) := by decide +kernel
theorem dX6_ship_49 : decode cX6_ship 49 = .ok (.iconst 0, 1) := by decide +kernel
theorem dX6_ship_50 : decode cX6_ship 50 = .ok (.istore_n 2, 1) := by decide +kernel
theorem dX6_ship_51 : decode cX6_ship 51 = .ok (.iconst 0, 1) := by decide +kernel
theorem dX6_ship_52 : decode cX6_ship 52 = .ok (.istore_n 3, 1) := by decide +kernel
theorem dX6_ship_53 : decode cX6_ship 53 = .ok (.iload_n 3, 1) := by decide +kernel
theorem dX6_ship_54 : decode cX6_ship 54 = .ok (.aload_n 0, 1) := by decide +kernel
theorem dX6_ship_55 : decode cX6_ship 55 = .ok (.getfield 25, 3) := by decide +kernel
theorem dX6_ship_58 : decode cX6_ship 58 = .ok (.iconst 2, 1) := by decide +kernel
theorem dX6_ship_59 : decode cX6_ship 59 = .ok (.iaload, 1) := by decide +kernel
theorem dX6_ship_60 : decode cX6_ship 60 = .ok (.if_icmp .ge 51, 3) := by decide +kernel
theorem dX6_ship_63 : decode cX6_ship 63 = .ok (.aload_n 0, 1) := by decide +kernel
theorem dX6_ship_64 : decode cX6_ship 64 = .ok (.iload_n 3, 1) := by decide +kernel
theorem dX6_ship_65 : decode cX6_ship 65 = .ok (.iload_n 1, 1) := by decide +kernel
theorem dX6_ship_66 : decode cX6_ship 66 = .ok (.invokevirtual 78, 3) := by decide +kernel
theorem dX6_ship_69 : decode cX6_ship 69 = .ok (.ifCond .ne 6, 3) := by decide +kernel
theorem dX6_ship_72 : decode cX6_ship 72 = .ok (.goto 33, 3) := by decide +kernel
theorem dX6_ship_75 : decode cX6_ship 75 = .ok (.iload_n 2, 1) := by decide +kernel
theorem dX6_ship_76 : decode cX6_ship 76 = .ok (.aload_n 0, 1) := by decide +kernel
theorem dX6_ship_77 : decode cX6_ship 77 = .ok (.iload_n 3, 1) := by decide +kernel
theorem dX6_ship_78 : decode cX6_ship 78 = .ok (.invokevirtual 101, 3) := by decide +kernel
theorem dX6_ship_81 : decode cX6_ship 81 = .ok (.iadd, 1) := by decide +kernel
theorem dX6_ship_82 : decode cX6_ship 82 = .ok (.istore_n 2, 1) := by decide +kernel
theorem dX6_ship_83 : decode cX6_ship 83 = .ok (.aload_n 0, 1) := by decide +kernel
theorem dX6_ship_84 : decode cX6_ship 84 = .ok (.getfield 19, 3) := by decide +kernel
theorem dX6_ship_87 : decode cX6_ship 87 = .ok (.iconst 5, 1) := by decide +kernel
theorem dX6_ship_88 : decode cX6_ship 88 = .ok (.iload_n 3, 1) := by decide +kernel
theorem dX6_ship_89 : decode cX6_ship 89 = .ok (.imul, 1) := by decide +kernel
theorem dX6_ship_90 : decode cX6_ship 90 = .ok (.iconst 2, 1) := by decide +kernel
theorem dX6_ship_91 : decode cX6_ship 91 = .ok (.iadd, 1) := by decide +kernel
theorem dX6_ship_92 : decode cX6_ship 92 = .ok (.iconst 3, 1) := by decide +kernel
theorem dX6_ship_93 : decode cX6_ship 93 = .ok (.iastore, 1) := by decide +kernel
theorem dX6_ship_94 : decode cX6_ship 94 = .ok (.aload_n 0, 1) := by decide +kernel
theorem dX6_ship_95 : decode cX6_ship 95 = .ok (.getfield 19, 3) := by decide +kernel
theorem dX6_ship_98 : decode cX6_ship 98 = .ok (.iconst 5, 1) := by decide +kernel
theorem dX6_ship_99 : decode cX6_ship 99 = .ok (.iload_n 3, 1) := by decide +kernel
theorem dX6_ship_100 : decode cX6_ship 100 = .ok (.imul, 1) := by decide +kernel
theorem dX6_ship_101 : decode cX6_ship 101 = .ok (.iconst 3, 1) := by decide +kernel
theorem dX6_ship_102 : decode cX6_ship 102 = .ok (.iadd, 1) := by decide +kernel
theorem dX6_ship_103 : decode cX6_ship 103 = .ok (.iconst (-1), 1) := by decide +kernel
theorem dX6_ship_104 : decode cX6_ship 104 = .ok (.iastore, 1) := by decide +kernel
theorem dX6_ship_105 : decode cX6_ship 105 = .ok (.iinc 3 1, 3) := by decide +kernel
theorem dX6_ship_108 : decode cX6_ship 108 = .ok (.goto (-55), 3) := by decide +kernel
theorem dX6_ship_111 : decode cX6_ship 111 = .ok (.aload_n 0, 1) := by decide +kernel
theorem dX6_ship_112 : decode cX6_ship 112 = .ok (.getfield 25, 3) := by decide +kernel
theorem dX6_ship_115 : decode cX6_ship 115 = .ok (.iconst 1, 1) := by decide +kernel
theorem dX6_ship_116 : decode cX6_ship 116 = .ok (.dup2, 1) := by decide +kernel
theorem dX6_ship_117 : decode cX6_ship 117 = .ok (.iaload, 1) := by decide +kernel
theorem dX6_ship_118 : decode cX6_ship 118 = .ok (.iload_n 2, 1) := by decide +kernel
theorem dX6_ship_119 : decode cX6_ship 119 = .ok (.iadd, 1) := by decide +kernel
theorem dX6_ship_120 : decode cX6_ship 120 = .ok (.iastore, 1) := by decide +kernel
theorem dX6_ship_121 : decode cX6_ship 121 = .ok (.aload_n 0, 1) := by decide +kernel
theorem dX6_ship_122 : decode cX6_ship 122 = .ok (.getfield 22, 3) := by decide +kernel
theorem dX6_ship_125 : decode cX6_ship 125 = .ok (.iconst 2, 1) := by decide +kernel
theorem dX6_ship_126 : decode cX6_ship 126 = .ok (.iload_n 1, 1) := by decide +kernel
theorem dX6_ship_127 : decode cX6_ship 127 = .ok (.imul, 1) := by decide +kernel
theorem dX6_ship_128 : decode cX6_ship 128 = .ok (.iconst 1, 1) := by decide +kernel
theorem dX6_ship_129 : decode cX6_ship 129 = .ok (.iadd, 1) := by decide +kernel
theorem dX6_ship_130 : decode cX6_ship 130 = .ok (.aload_n 0, 1) := by decide +kernel
theorem dX6_ship_131 : decode cX6_ship 131 = .ok (.getfield 25, 3) := by decide +kernel
theorem dX6_ship_134 : decode cX6_ship 134 = .ok (.iconst 0, 1) := by decide +kernel
theorem dX6_ship_135 : decode cX6_ship 135 = .ok (.iaload, 1) := by decide +kernel
theorem dX6_ship_136 : decode cX6_ship 136 = .ok (.iastore, 1) := by decide +kernel
theorem dX6_ship_137 : decode cX6_ship 137 = .ok (.iload_n 2, 1) := by decide +kernel
theorem dX6_ship_138 : decode cX6_ship 138 = .ok (.ireturn, 1) := by decide +kernel
set_option maxRecDepth 20000 in
theorem ggX6_bedTold_X6_pe : GoodIn wsX6_bedTold wsX6_pe := goodIn_r _ [7, 8, 19, 20, 21, 22, 23, 24, 25, 26, 27, 28] (by decide +kernel) (by decide +kernel)
set_option maxRecDepth 20000 in
theorem gX6_bedTold_X6_pe : GoodIn wsX6_bedTold (wsV RX6 60 RX6 yX6_pe wsX6_pe) := goodIn_app (goodIn_of _ (by decide +kernel)) ggX6_bedTold_X6_pe
set_option maxRecDepth 20000 in
theorem ggX6_bedTold_X6_ro : GoodIn wsX6_bedTold wsX6_ro := goodIn_r _ [12, 13, 19, 20, 21, 22, 23, 24, 25, 26, 27, 28] (by decide +kernel) (by decide +kernel)
set_option maxRecDepth 20000 in
theorem gX6_bedTold_X6_ro : GoodIn wsX6_bedTold (wsV RX6 67 RX6 yX6_ro wsX6_ro) := goodIn_app (goodIn_of _ (by decide +kernel)) ggX6_bedTold_X6_ro
set_option maxRecDepth 20000 in
theorem ggX6_bedTold_X6_st : GoodIn wsX6_bedTold wsX6_st := goodIn_r _ [17, 18, 19, 20, 21, 22, 23, 24, 25, 26, 27, 28] (by decide +kernel) (by decide +kernel)
set_option maxRecDepth 20000 in
theorem gX6_bedTold_X6_st : GoodIn wsX6_bedTold (wsV RX6 64 RX6 yX6_st wsX6_st) := goodIn_app (goodIn_of _ (by decide +kernel)) ggX6_bedTold_X6_st
theorem dX6_bedTold_0 : decode cX6_bedTold 0 = .ok (.iconst 0, 1) := by decide +kernel
theorem dX6_bedTold_1 : decode cX6_bedTold 1 = .ok (.istore_n 3, 1) := by decide +kernel
theorem dX6_bedTold_2 : decode cX6_bedTold 2 = .ok (.iload_n 2, 1) := by decide +kernel
theorem dX6_bedTold_3 : decode cX6_bedTold 3 = .ok (.tableswitch 120 3 5 #[25, 64, 71], 25) := by decide +kernel
theorem dX6_bedTold_28 : decode cX6_bedTold 28 = .ok (.iconst 0, 1) := by decide +kernel
theorem dX6_bedTold_29 : decode cX6_bedTold 29 = .ok (.istore 4, 2) := by decide +kernel
theorem dX6_bedTold_31 : decode cX6_bedTold 31 = .ok (.iload 4, 2) := by decide +kernel
theorem dX6_bedTold_33 : decode cX6_bedTold 33 = .ok (.aload_n 0, 1) := by decide +kernel
theorem dX6_bedTold_34 : decode cX6_bedTold 34 = .ok (.getfield 39, 3) := by decide +kernel
theorem dX6_bedTold_37 : decode cX6_bedTold 37 = .ok (.if_icmp .ge 28, 3) := by decide +kernel
theorem dX6_bedTold_40 : decode cX6_bedTold 40 = .ok (.iload_n 3, 1) := by decide +kernel
theorem dX6_bedTold_41 : decode cX6_bedTold 41 = .ok (.aload_n 0, 1) := by decide +kernel
theorem dX6_bedTold_42 : decode cX6_bedTold 42 = .ok (.iload 4, 2) := by decide +kernel
theorem dX6_bedTold_44 : decode cX6_bedTold 44 = .ok (.iconst 1, 1) := by decide +kernel
theorem dX6_bedTold_45 : decode cX6_bedTold 45 = .ok (.invokevirtual 60, 3) := by decide +kernel
theorem dX6_bedTold_48 : decode cX6_bedTold 48 = .ok (.iload_n 1, 1) := by decide +kernel
theorem dX6_bedTold_49 : decode cX6_bedTold 49 = .ok (.if_icmp .ne 7, 3) := by decide +kernel
theorem dX6_bedTold_52 : decode cX6_bedTold 52 = .ok (.iconst 1, 1) := by decide +kernel
theorem dX6_bedTold_53 : decode cX6_bedTold 53 = .ok (.goto 4, 3) := by decide +kernel
theorem dX6_bedTold_56 : decode cX6_bedTold 56 = .ok (.iconst 0, 1) := by decide +kernel
theorem dX6_bedTold_57 : decode cX6_bedTold 57 = .ok (.iadd, 1) := by decide +kernel
theorem dX6_bedTold_58 : decode cX6_bedTold 58 = .ok (.istore_n 3, 1) := by decide +kernel
theorem dX6_bedTold_59 : decode cX6_bedTold 59 = .ok (.iinc 4 1, 3) := by decide +kernel
theorem dX6_bedTold_62 : decode cX6_bedTold 62 = .ok (.goto (-31), 3) := by decide +kernel
theorem dX6_bedTold_65 : decode cX6_bedTold 65 = .ok (.iload_n 3, 1) := by decide +kernel
theorem dX6_bedTold_66 : decode cX6_bedTold 66 = .ok (.ireturn, 1) := by decide +kernel
theorem dX6_bedTold_67 : decode cX6_bedTold 67 = .ok (.aload_n 0, 1) := by decide +kernel
theorem dX6_bedTold_68 : decode cX6_bedTold 68 = .ok (.iload_n 1, 1) := by decide +kernel
theorem dX6_bedTold_69 : decode cX6_bedTold 69 = .ok (.iconst 3, 1) := by decide +kernel
theorem dX6_bedTold_70 : decode cX6_bedTold 70 = .ok (.invokevirtual 67, 3) := by decide +kernel
theorem dX6_bedTold_73 : decode cX6_bedTold 73 = .ok (.ireturn, 1) := by decide +kernel
theorem dX6_bedTold_74 : decode cX6_bedTold 74 = .ok (.iconst 0, 1) := by decide +kernel
theorem dX6_bedTold_75 : decode cX6_bedTold 75 = .ok (.istore 4, 2) := by decide +kernel
theorem dX6_bedTold_77 : decode cX6_bedTold 77 = .ok (.iload 4, 2) := by decide +kernel
theorem dX6_bedTold_79 : decode cX6_bedTold 79 = .ok (.aload_n 0, 1) := by decide +kernel
theorem dX6_bedTold_80 : decode cX6_bedTold 80 = .ok (.getfield 25, 3) := by decide +kernel
theorem dX6_bedTold_83 : decode cX6_bedTold 83 = .ok (.iconst 2, 1) := by decide +kernel
theorem dX6_bedTold_84 : decode cX6_bedTold 84 = .ok (.iaload, 1) := by decide +kernel
theorem dX6_bedTold_85 : decode cX6_bedTold 85 = .ok (.if_icmp .ge 36, 3) := by decide +kernel
theorem dX6_bedTold_88 : decode cX6_bedTold 88 = .ok (.iload_n 3, 1) := by decide +kernel
theorem dX6_bedTold_89 : decode cX6_bedTold 89 = .ok (.aload_n 0, 1) := by decide +kernel
theorem dX6_bedTold_90 : decode cX6_bedTold 90 = .ok (.iload 4, 2) := by decide +kernel
theorem dX6_bedTold_92 : decode cX6_bedTold 92 = .ok (.iconst 0, 1) := by decide +kernel
theorem dX6_bedTold_93 : decode cX6_bedTold 93 = .ok (.invokevirtual 64, 3) := by decide +kernel
theorem dX6_bedTold_96 : decode cX6_bedTold 96 = .ok (.iload_n 1, 1) := by decide +kernel
theorem dX6_bedTold_97 : decode cX6_bedTold 97 = .ok (.if_icmp .ne 15, 3) := by decide +kernel
theorem dX6_bedTold_100 : decode cX6_bedTold 100 = .ok (.iconst 1, 1) := by decide +kernel
theorem dX6_bedTold_101 : decode cX6_bedTold 101 = .ok (.aload_n 0, 1) := by decide +kernel
theorem dX6_bedTold_102 : decode cX6_bedTold 102 = .ok (.iload 4, 2) := by decide +kernel
theorem dX6_bedTold_104 : decode cX6_bedTold 104 = .ok (.iconst 4, 1) := by decide +kernel
theorem dX6_bedTold_105 : decode cX6_bedTold 105 = .ok (.invokevirtual 64, 3) := by decide +kernel
theorem dX6_bedTold_108 : decode cX6_bedTold 108 = .ok (.isub, 1) := by decide +kernel
theorem dX6_bedTold_109 : decode cX6_bedTold 109 = .ok (.goto 4, 3) := by decide +kernel
theorem dX6_bedTold_112 : decode cX6_bedTold 112 = .ok (.iconst 0, 1) := by decide +kernel
theorem dX6_bedTold_113 : decode cX6_bedTold 113 = .ok (.iadd, 1) := by decide +kernel
theorem dX6_bedTold_114 : decode cX6_bedTold 114 = .ok (.istore_n 3, 1) := by decide +kernel
theorem dX6_bedTold_115 : decode cX6_bedTold 115 = .ok (.iinc 4 1, 3) := by decide +kernel
theorem dX6_bedTold_118 : decode cX6_bedTold 118 = .ok (.goto (-41), 3) := by decide +kernel
theorem dX6_bedTold_121 : decode cX6_bedTold 121 = .ok (.iload_n 3, 1) := by decide +kernel
theorem dX6_bedTold_122 : decode cX6_bedTold 122 = .ok (.ireturn, 1) := by decide +kernel
theorem dX6_bedTold_123 : decode cX6_bedTold 123 = .ok (.aload_n 0, 1) := by decide +kernel
theorem dX6_bedTold_124 : decode cX6_bedTold 124 = .ok (.iload_n 1, 1) := by decide +kernel
theorem dX6_bedTold_125 : decode cX6_bedTold 125 = .ok (.iload_n 2, 1) := by decide +kernel
theorem dX6_bedTold_126 : decode cX6_bedTold 126 = .ok (.invokevirtual 67, 3) := by decide +kernel
theorem dX6_bedTold_129 : decode cX6_bedTold 129 = .ok (.ireturn, 1) := by decide +kernel
set_option maxRecDepth 20000 in
theorem ggX6_bed_X6_isBed : GoodIn wsX6_bed wsX6_isBed := goodIn_r _ [6, 7, 8, 9, 5, 10, 36, 37, 38, 39, 40, 41, 42, 43, 44, 45] (by decide +kernel) (by decide +kernel)
set_option maxRecDepth 20000 in
theorem gX6_bed_X6_isBed : GoodIn wsX6_bed (wsV RX6 57 RX6 yX6_isBed wsX6_isBed) := goodIn_app (goodIn_of _ (by decide +kernel)) ggX6_bed_X6_isBed
set_option maxRecDepth 20000 in
theorem ggX6_bed_X6_isIn : GoodIn wsX6_bed wsX6_isIn := goodIn_r _ [10] (by decide +kernel) (by decide +kernel)
set_option maxRecDepth 20000 in
theorem gX6_bed_X6_isIn : GoodIn wsX6_bed (va_wsS RX6 35 yX6_isIn wsX6_isIn) := goodIn_app (goodIn_of _ (by decide +kernel)) ggX6_bed_X6_isIn
set_option maxRecDepth 20000 in
theorem ggX6_bed_X6_bedTold : GoodIn wsX6_bed wsX6_bedTold := goodIn_r _ [14, 15, 16, 17, 18, 19, 5, 20, 21, 22, 23, 24, 25, 26, 27, 28, 29, 30, 31, 36, 37, 38, 39, 40, 41, 42, 43, 44, 45] (by decide +kernel) (by decide +kernel)
set_option maxRecDepth 20000 in
theorem gX6_bed_X6_bedTold : GoodIn wsX6_bed (wsV RX6 104 RX6 yX6_bedTold wsX6_bedTold) := goodIn_app (goodIn_of _ (by decide +kernel)) ggX6_bed_X6_bedTold
set_option maxRecDepth 20000 in
theorem ggX6_bed_X6_fail : GoodIn wsX6_bed wsX6_fail := goodIn_r _ [35, 1, 36, 37, 38, 39, 40, 41, 42, 43, 44, 45] (by decide +kernel) (by decide +kernel)
set_option maxRecDepth 20000 in
theorem gX6_bed_X6_fail : GoodIn wsX6_bed (wsV RX6 45 RX6 yX6_fail wsX6_fail) := goodIn_app (goodIn_of _ (by decide +kernel)) ggX6_bed_X6_fail
theorem dX6_bed_0 : decode cX6_bed 0 = .ok (.aload_n 0, 1) := by decide +kernel
theorem dX6_bed_1 : decode cX6_bed 1 = .ok (.iconst 0, 1) := by decide +kernel
theorem dX6_bed_2 : decode cX6_bed 2 = .ok (.putfield 28, 3) := by decide +kernel
theorem dX6_bed_5 : decode cX6_bed 5 = .ok (.aload_n 0, 1) := by decide +kernel
theorem dX6_bed_6 : decode cX6_bed 6 = .ok (.iload_n 1, 1) := by decide +kernel
theorem dX6_bed_7 : decode cX6_bed 7 = .ok (.invokevirtual 57, 3) := by decide +kernel
theorem dX6_bed_10 : decode cX6_bed 10 = .ok (.ifCond .eq 21, 3) := by decide +kernel
theorem dX6_bed_13 : decode cX6_bed 13 = .ok (.iload_n 2, 1) := by decide +kernel
theorem dX6_bed_14 : decode cX6_bed 14 = .ok (.iconst 0, 1) := by decide +kernel
theorem dX6_bed_15 : decode cX6_bed 15 = .ok (.iconst 5, 1) := by decide +kernel
theorem dX6_bed_16 : decode cX6_bed 16 = .ok (.invokestatic 35, 3) := by decide +kernel
theorem dX6_bed_19 : decode cX6_bed 19 = .ok (.ifCond .eq 12, 3) := by decide +kernel
theorem dX6_bed_22 : decode cX6_bed 22 = .ok (.aload_n 0, 1) := by decide +kernel
theorem dX6_bed_23 : decode cX6_bed 23 = .ok (.iload_n 1, 1) := by decide +kernel
theorem dX6_bed_24 : decode cX6_bed 24 = .ok (.iload_n 2, 1) := by decide +kernel
theorem dX6_bed_25 : decode cX6_bed 25 = .ok (.invokevirtual 104, 3) := by decide +kernel
theorem dX6_bed_28 : decode cX6_bed 28 = .ok (.goto 8, 3) := by decide +kernel
theorem dX6_bed_31 : decode cX6_bed 31 = .ok (.aload_n 0, 1) := by decide +kernel
theorem dX6_bed_32 : decode cX6_bed 32 = .ok (.iconst 1, 1) := by decide +kernel
theorem dX6_bed_33 : decode cX6_bed 33 = .ok (.invokevirtual 45, 3) := by decide +kernel
theorem dX6_bed_36 : decode cX6_bed 36 = .ok (.ireturn, 1) := by decide +kernel
set_option maxRecDepth 20000 in
theorem ggX6_quarrierTold_X6_pe : GoodIn wsX6_quarrierTold wsX6_pe := goodIn_r _ [5, 6, 12, 13, 14, 15, 16, 17, 18, 19, 20, 21] (by decide +kernel) (by decide +kernel)
set_option maxRecDepth 20000 in
theorem gX6_quarrierTold_X6_pe : GoodIn wsX6_quarrierTold (wsV RX6 60 RX6 yX6_pe wsX6_pe) := goodIn_app (goodIn_of _ (by decide +kernel)) ggX6_quarrierTold_X6_pe
set_option maxRecDepth 20000 in
theorem ggX6_quarrierTold_X6_ro : GoodIn wsX6_quarrierTold wsX6_ro := goodIn_r _ [10, 11, 12, 13, 14, 15, 16, 17, 18, 19, 20, 21] (by decide +kernel) (by decide +kernel)
set_option maxRecDepth 20000 in
theorem gX6_quarrierTold_X6_ro : GoodIn wsX6_quarrierTold (wsV RX6 67 RX6 yX6_ro wsX6_ro) := goodIn_app (goodIn_of _ (by decide +kernel)) ggX6_quarrierTold_X6_ro
theorem dX6_quarrierTold_0 : decode cX6_quarrierTold 0 = .ok (.iload_n 2, 1) := by decide +kernel
theorem dX6_quarrierTold_1 : decode cX6_quarrierTold 1 = .ok (.iconst 4, 1) := by decide +kernel
theorem dX6_quarrierTold_2 : decode cX6_quarrierTold 2 = .ok (.if_icmp .ge 10, 3) := by decide +kernel
theorem dX6_quarrierTold_5 : decode cX6_quarrierTold 5 = .ok (.aload_n 0, 1) := by decide +kernel
theorem dX6_quarrierTold_6 : decode cX6_quarrierTold 6 = .ok (.iload_n 1, 1) := by decide +kernel
theorem dX6_quarrierTold_7 : decode cX6_quarrierTold 7 = .ok (.iload_n 2, 1) := by decide +kernel
theorem dX6_quarrierTold_8 : decode cX6_quarrierTold 8 = .ok (.invokevirtual 60, 3) := by decide +kernel
theorem dX6_quarrierTold_11 : decode cX6_quarrierTold 11 = .ok (.ireturn, 1) := by decide +kernel
theorem dX6_quarrierTold_12 : decode cX6_quarrierTold 12 = .ok (.aload_n 0, 1) := by decide +kernel
theorem dX6_quarrierTold_13 : decode cX6_quarrierTold 13 = .ok (.iload_n 1, 1) := by decide +kernel
theorem dX6_quarrierTold_14 : decode cX6_quarrierTold 14 = .ok (.iconst 1, 1) := by decide +kernel
theorem dX6_quarrierTold_15 : decode cX6_quarrierTold 15 = .ok (.invokevirtual 60, 3) := by decide +kernel
theorem dX6_quarrierTold_18 : decode cX6_quarrierTold 18 = .ok (.iconst (-1), 1) := by decide +kernel
theorem dX6_quarrierTold_19 : decode cX6_quarrierTold 19 = .ok (.if_icmp .ne 5, 3) := by decide +kernel
theorem dX6_quarrierTold_22 : decode cX6_quarrierTold 22 = .ok (.iconst (-1), 1) := by decide +kernel
theorem dX6_quarrierTold_23 : decode cX6_quarrierTold 23 = .ok (.ireturn, 1) := by decide +kernel
theorem dX6_quarrierTold_24 : decode cX6_quarrierTold 24 = .ok (.bipush 60, 2) := by decide +kernel
theorem dX6_quarrierTold_26 : decode cX6_quarrierTold 26 = .ok (.aload_n 0, 1) := by decide +kernel
theorem dX6_quarrierTold_27 : decode cX6_quarrierTold 27 = .ok (.iload_n 1, 1) := by decide +kernel
theorem dX6_quarrierTold_28 : decode cX6_quarrierTold 28 = .ok (.iconst 2, 1) := by decide +kernel
theorem dX6_quarrierTold_29 : decode cX6_quarrierTold 29 = .ok (.invokevirtual 60, 3) := by decide +kernel
theorem dX6_quarrierTold_32 : decode cX6_quarrierTold 32 = .ok (.isub, 1) := by decide +kernel
theorem dX6_quarrierTold_33 : decode cX6_quarrierTold 33 = .ok (.istore_n 3, 1) := by decide +kernel
theorem dX6_quarrierTold_34 : decode cX6_quarrierTold 34 = .ok (.aload_n 0, 1) := by decide +kernel
theorem dX6_quarrierTold_35 : decode cX6_quarrierTold 35 = .ok (.aload_n 0, 1) := by decide +kernel
theorem dX6_quarrierTold_36 : decode cX6_quarrierTold 36 = .ok (.iload_n 1, 1) := by decide +kernel
theorem dX6_quarrierTold_37 : decode cX6_quarrierTold 37 = .ok (.iconst 1, 1) := by decide +kernel
theorem dX6_quarrierTold_38 : decode cX6_quarrierTold 38 = .ok (.invokevirtual 60, 3) := by decide +kernel
theorem dX6_quarrierTold_41 : decode cX6_quarrierTold 41 = .ok (.iconst 0, 1) := by decide +kernel
theorem dX6_quarrierTold_42 : decode cX6_quarrierTold 42 = .ok (.invokevirtual 67, 3) := by decide +kernel
theorem dX6_quarrierTold_45 : decode cX6_quarrierTold 45 = .ok (.iconst 1, 1) := by decide +kernel
theorem dX6_quarrierTold_46 : decode cX6_quarrierTold 46 = .ok (.iadd, 1) := by decide +kernel
theorem dX6_quarrierTold_47 : decode cX6_quarrierTold 47 = .ok (.istore 4, 2) := by decide +kernel
theorem dX6_quarrierTold_49 : decode cX6_quarrierTold 49 = .ok (.iload_n 3, 1) := by decide +kernel
theorem dX6_quarrierTold_50 : decode cX6_quarrierTold 50 = .ok (.ifCond .gt 7, 3) := by decide +kernel
theorem dX6_quarrierTold_53 : decode cX6_quarrierTold 53 = .ok (.iconst 0, 1) := by decide +kernel
theorem dX6_quarrierTold_54 : decode cX6_quarrierTold 54 = .ok (.goto 12, 3) := by decide +kernel
theorem dX6_quarrierTold_57 : decode cX6_quarrierTold 57 = .ok (.iload_n 3, 1) := by decide +kernel
theorem dX6_quarrierTold_58 : decode cX6_quarrierTold 58 = .ok (.iload 4, 2) := by decide +kernel
theorem dX6_quarrierTold_60 : decode cX6_quarrierTold 60 = .ok (.iadd, 1) := by decide +kernel
theorem dX6_quarrierTold_61 : decode cX6_quarrierTold 61 = .ok (.iconst 1, 1) := by decide +kernel
theorem dX6_quarrierTold_62 : decode cX6_quarrierTold 62 = .ok (.isub, 1) := by decide +kernel
theorem dX6_quarrierTold_63 : decode cX6_quarrierTold 63 = .ok (.iload 4, 2) := by decide +kernel
theorem dX6_quarrierTold_65 : decode cX6_quarrierTold 65 = .ok (.idiv, 1) := by decide +kernel
theorem dX6_quarrierTold_66 : decode cX6_quarrierTold 66 = .ok (.ireturn, 1) := by decide +kernel
set_option maxRecDepth 20000 in
theorem ggX6_quarrier_X6_isQuarrier : GoodIn wsX6_quarrier wsX6_isQuarrier := goodIn_r _ [6, 7, 8, 9, 5, 10, 29, 30, 31, 32, 33, 34, 35, 36, 37, 38] (by decide +kernel) (by decide +kernel)
set_option maxRecDepth 20000 in
theorem gX6_quarrier_X6_isQuarrier : GoodIn wsX6_quarrier (wsV RX6 53 RX6 yX6_isQuarrier wsX6_isQuarrier) := goodIn_app (goodIn_of _ (by decide +kernel)) ggX6_quarrier_X6_isQuarrier
set_option maxRecDepth 20000 in
theorem ggX6_quarrier_X6_isIn : GoodIn wsX6_quarrier wsX6_isIn := goodIn_r _ [10] (by decide +kernel) (by decide +kernel)
set_option maxRecDepth 20000 in
theorem gX6_quarrier_X6_isIn : GoodIn wsX6_quarrier (va_wsS RX6 35 yX6_isIn wsX6_isIn) := goodIn_app (goodIn_of _ (by decide +kernel)) ggX6_quarrier_X6_isIn
set_option maxRecDepth 20000 in
theorem ggX6_quarrier_X6_quarrierTold : GoodIn wsX6_quarrier wsX6_quarrierTold := goodIn_r _ [14, 15, 16, 17, 5, 18, 19, 20, 21, 22, 23, 24, 29, 30, 31, 32, 33, 34, 35, 36, 37, 38] (by decide +kernel) (by decide +kernel)
set_option maxRecDepth 20000 in
theorem gX6_quarrier_X6_quarrierTold : GoodIn wsX6_quarrier (wsV RX6 107 RX6 yX6_quarrierTold wsX6_quarrierTold) := goodIn_app (goodIn_of _ (by decide +kernel)) ggX6_quarrier_X6_quarrierTold
set_option maxRecDepth 20000 in
theorem ggX6_quarrier_X6_fail : GoodIn wsX6_quarrier wsX6_fail := goodIn_r _ [28, 1, 29, 30, 31, 32, 33, 34, 35, 36, 37, 38] (by decide +kernel) (by decide +kernel)
set_option maxRecDepth 20000 in
theorem gX6_quarrier_X6_fail : GoodIn wsX6_quarrier (wsV RX6 45 RX6 yX6_fail wsX6_fail) := goodIn_app (goodIn_of _ (by decide +kernel)) ggX6_quarrier_X6_fail
theorem dX6_quarrier_0 : decode cX6_quarrier 0 = .ok (.aload_n 0, 1) := by decide +kernel
theorem dX6_quarrier_1 : decode cX6_quarrier 1 = .ok (.iconst 0, 1) := by decide +kernel
theorem dX6_quarrier_2 : decode cX6_quarrier 2 = .ok (.putfield 28, 3) := by decide +kernel
theorem dX6_quarrier_5 : decode cX6_quarrier 5 = .ok (.aload_n 0, 1) := by decide +kernel
theorem dX6_quarrier_6 : decode cX6_quarrier 6 = .ok (.iload_n 1, 1) := by decide +kernel
theorem dX6_quarrier_7 : decode cX6_quarrier 7 = .ok (.invokevirtual 53, 3) := by decide +kernel
theorem dX6_quarrier_10 : decode cX6_quarrier 10 = .ok (.ifCond .eq 21, 3) := by decide +kernel
theorem dX6_quarrier_13 : decode cX6_quarrier 13 = .ok (.iload_n 2, 1) := by decide +kernel
theorem dX6_quarrier_14 : decode cX6_quarrier 14 = .ok (.iconst 0, 1) := by decide +kernel
theorem dX6_quarrier_15 : decode cX6_quarrier 15 = .ok (.iconst 4, 1) := by decide +kernel
theorem dX6_quarrier_16 : decode cX6_quarrier 16 = .ok (.invokestatic 35, 3) := by decide +kernel
theorem dX6_quarrier_19 : decode cX6_quarrier 19 = .ok (.ifCond .eq 12, 3) := by decide +kernel
theorem dX6_quarrier_22 : decode cX6_quarrier 22 = .ok (.aload_n 0, 1) := by decide +kernel
theorem dX6_quarrier_23 : decode cX6_quarrier 23 = .ok (.iload_n 1, 1) := by decide +kernel
theorem dX6_quarrier_24 : decode cX6_quarrier 24 = .ok (.iload_n 2, 1) := by decide +kernel
theorem dX6_quarrier_25 : decode cX6_quarrier 25 = .ok (.invokevirtual 107, 3) := by decide +kernel
theorem dX6_quarrier_28 : decode cX6_quarrier 28 = .ok (.goto 8, 3) := by decide +kernel
theorem dX6_quarrier_31 : decode cX6_quarrier 31 = .ok (.aload_n 0, 1) := by decide +kernel
theorem dX6_quarrier_32 : decode cX6_quarrier 32 = .ok (.iconst 1, 1) := by decide +kernel
theorem dX6_quarrier_33 : decode cX6_quarrier 33 = .ok (.invokevirtual 45, 3) := by decide +kernel
theorem dX6_quarrier_36 : decode cX6_quarrier 36 = .ok (.ireturn, 1) := by decide +kernel
set_option maxRecDepth 20000 in
theorem ggX6_wheelTold_X6_st : GoodIn wsX6_wheelTold wsX6_st := goodIn_r _ [5, 6, 20, 21, 22, 23, 24, 25, 26, 27, 28, 29] (by decide +kernel) (by decide +kernel)
set_option maxRecDepth 20000 in
theorem gX6_wheelTold_X6_st : GoodIn wsX6_wheelTold (wsV RX6 64 RX6 yX6_st wsX6_st) := goodIn_app (goodIn_of _ (by decide +kernel)) ggX6_wheelTold_X6_st
set_option maxRecDepth 20000 in
theorem ggX6_wheelTold_X6_weight : GoodIn wsX6_wheelTold wsX6_weight := goodIn_r _ [10, 1, 2, 3, 4, 5, 6, 20, 21, 22, 23, 24, 25, 26, 27, 28, 29] (by decide +kernel) (by decide +kernel)
set_option maxRecDepth 20000 in
theorem gX6_wheelTold_X6_weight : GoodIn wsX6_wheelTold (wsV RX6 82 RX6 yX6_weight wsX6_weight) := goodIn_app (goodIn_of _ (by decide +kernel)) ggX6_wheelTold_X6_weight
set_option maxRecDepth 20000 in
theorem ggX6_wheelTold_X6_worth : GoodIn wsX6_wheelTold wsX6_worth := goodIn_r _ [14, 1, 2, 3, 4, 5, 6, 15, 16, 17, 18, 19, 20, 21, 22, 23, 24, 25, 26, 27, 28, 29] (by decide +kernel) (by decide +kernel)
set_option maxRecDepth 20000 in
theorem gX6_wheelTold_X6_worth : GoodIn wsX6_wheelTold (wsV RX6 101 RX6 yX6_worth wsX6_worth) := goodIn_app (goodIn_of _ (by decide +kernel)) ggX6_wheelTold_X6_worth
theorem dX6_wheelTold_0 : decode cX6_wheelTold 0 = .ok (.iload_n 2, 1) := by decide +kernel
theorem dX6_wheelTold_1 : decode cX6_wheelTold 1 = .ok (.tableswitch 68 0 4 #[35, 42, 49, 55, 62], 35) := by decide +kernel
theorem dX6_wheelTold_36 : decode cX6_wheelTold 36 = .ok (.aload_n 0, 1) := by decide +kernel
theorem dX6_wheelTold_37 : decode cX6_wheelTold 37 = .ok (.iload_n 1, 1) := by decide +kernel
theorem dX6_wheelTold_38 : decode cX6_wheelTold 38 = .ok (.iconst 0, 1) := by decide +kernel
theorem dX6_wheelTold_39 : decode cX6_wheelTold 39 = .ok (.invokevirtual 64, 3) := by decide +kernel
theorem dX6_wheelTold_42 : decode cX6_wheelTold 42 = .ok (.ireturn, 1) := by decide +kernel
theorem dX6_wheelTold_43 : decode cX6_wheelTold 43 = .ok (.aload_n 0, 1) := by decide +kernel
theorem dX6_wheelTold_44 : decode cX6_wheelTold 44 = .ok (.iload_n 1, 1) := by decide +kernel
theorem dX6_wheelTold_45 : decode cX6_wheelTold 45 = .ok (.iconst 1, 1) := by decide +kernel
theorem dX6_wheelTold_46 : decode cX6_wheelTold 46 = .ok (.invokevirtual 64, 3) := by decide +kernel
theorem dX6_wheelTold_49 : decode cX6_wheelTold 49 = .ok (.ireturn, 1) := by decide +kernel
theorem dX6_wheelTold_50 : decode cX6_wheelTold 50 = .ok (.aload_n 0, 1) := by decide +kernel
theorem dX6_wheelTold_51 : decode cX6_wheelTold 51 = .ok (.iload_n 1, 1) := by decide +kernel
theorem dX6_wheelTold_52 : decode cX6_wheelTold 52 = .ok (.invokevirtual 82, 3) := by decide +kernel
theorem dX6_wheelTold_55 : decode cX6_wheelTold 55 = .ok (.ireturn, 1) := by decide +kernel
theorem dX6_wheelTold_56 : decode cX6_wheelTold 56 = .ok (.aload_n 0, 1) := by decide +kernel
theorem dX6_wheelTold_57 : decode cX6_wheelTold 57 = .ok (.iload_n 1, 1) := by decide +kernel
theorem dX6_wheelTold_58 : decode cX6_wheelTold 58 = .ok (.iconst 2, 1) := by decide +kernel
theorem dX6_wheelTold_59 : decode cX6_wheelTold 59 = .ok (.invokevirtual 64, 3) := by decide +kernel
theorem dX6_wheelTold_62 : decode cX6_wheelTold 62 = .ok (.ireturn, 1) := by decide +kernel
theorem dX6_wheelTold_63 : decode cX6_wheelTold 63 = .ok (.aload_n 0, 1) := by decide +kernel
theorem dX6_wheelTold_64 : decode cX6_wheelTold 64 = .ok (.iload_n 1, 1) := by decide +kernel
theorem dX6_wheelTold_65 : decode cX6_wheelTold 65 = .ok (.invokevirtual 101, 3) := by decide +kernel
theorem dX6_wheelTold_68 : decode cX6_wheelTold 68 = .ok (.ireturn, 1) := by decide +kernel
theorem dX6_wheelTold_69 : decode cX6_wheelTold 69 = .ok (.aload_n 0, 1) := by decide +kernel
theorem dX6_wheelTold_70 : decode cX6_wheelTold 70 = .ok (.iload_n 1, 1) := by decide +kernel
theorem dX6_wheelTold_71 : decode cX6_wheelTold 71 = .ok (.iconst 3, 1) := by decide +kernel
theorem dX6_wheelTold_72 : decode cX6_wheelTold 72 = .ok (.invokevirtual 64, 3) := by decide +kernel
theorem dX6_wheelTold_75 : decode cX6_wheelTold 75 = .ok (.ireturn, 1) := by decide +kernel
set_option maxRecDepth 20000 in
theorem ggX6_wheel_X6_isWheel : GoodIn wsX6_wheel wsX6_isWheel := goodIn_r _ [6, 7, 8, 9, 5, 10, 37, 38, 39, 40, 41, 42, 43, 44, 45, 46] (by decide +kernel) (by decide +kernel)
set_option maxRecDepth 20000 in
theorem gX6_wheel_X6_isWheel : GoodIn wsX6_wheel (wsV RX6 70 RX6 yX6_isWheel wsX6_isWheel) := goodIn_app (goodIn_of _ (by decide +kernel)) ggX6_wheel_X6_isWheel
set_option maxRecDepth 20000 in
theorem ggX6_wheel_X6_isIn : GoodIn wsX6_wheel wsX6_isIn := goodIn_r _ [10] (by decide +kernel) (by decide +kernel)
set_option maxRecDepth 20000 in
theorem gX6_wheel_X6_isIn : GoodIn wsX6_wheel (va_wsS RX6 35 yX6_isIn wsX6_isIn) := goodIn_app (goodIn_of _ (by decide +kernel)) ggX6_wheel_X6_isIn
set_option maxRecDepth 20000 in
theorem ggX6_wheel_X6_wheelTold : GoodIn wsX6_wheel wsX6_wheelTold := goodIn_r _ [14, 15, 16, 17, 5, 18, 19, 20, 21, 22, 23, 24, 25, 26, 27, 28, 29, 30, 31, 32, 37, 38, 39, 40, 41, 42, 43, 44, 45, 46] (by decide +kernel) (by decide +kernel)
set_option maxRecDepth 20000 in
theorem gX6_wheel_X6_wheelTold : GoodIn wsX6_wheel (wsV RX6 110 RX6 yX6_wheelTold wsX6_wheelTold) := goodIn_app (goodIn_of _ (by decide +kernel)) ggX6_wheel_X6_wheelTold
set_option maxRecDepth 20000 in
theorem ggX6_wheel_X6_fail : GoodIn wsX6_wheel wsX6_fail := goodIn_r _ [36, 1, 37, 38, 39, 40, 41, 42, 43, 44, 45, 46] (by decide +kernel) (by decide +kernel)
set_option maxRecDepth 20000 in
theorem gX6_wheel_X6_fail : GoodIn wsX6_wheel (wsV RX6 45 RX6 yX6_fail wsX6_fail) := goodIn_app (goodIn_of _ (by decide +kernel)) ggX6_wheel_X6_fail
theorem dX6_wheel_0 : decode cX6_wheel 0 = .ok (.aload_n 0, 1) := by decide +kernel
theorem dX6_wheel_1 : decode cX6_wheel 1 = .ok (.iconst 0, 1) := by decide +kernel
theorem dX6_wheel_2 : decode cX6_wheel 2 = .ok (.putfield 28, 3) := by decide +kernel
theorem dX6_wheel_5 : decode cX6_wheel 5 = .ok (.aload_n 0, 1) := by decide +kernel
theorem dX6_wheel_6 : decode cX6_wheel 6 = .ok (.iload_n 1, 1) := by decide +kernel
theorem dX6_wheel_7 : decode cX6_wheel 7 = .ok (.invokevirtual 70, 3) := by decide +kernel
theorem dX6_wheel_10 : decode cX6_wheel 10 = .ok (.ifCond .eq 21, 3) := by decide +kernel
theorem dX6_wheel_13 : decode cX6_wheel 13 = .ok (.iload_n 2, 1) := by decide +kernel
theorem dX6_wheel_14 : decode cX6_wheel 14 = .ok (.iconst 0, 1) := by decide +kernel
theorem dX6_wheel_15 : decode cX6_wheel 15 = .ok (.iconst 5, 1) := by decide +kernel
theorem dX6_wheel_16 : decode cX6_wheel 16 = .ok (.invokestatic 35, 3) := by decide +kernel
theorem dX6_wheel_19 : decode cX6_wheel 19 = .ok (.ifCond .eq 12, 3) := by decide +kernel
theorem dX6_wheel_22 : decode cX6_wheel 22 = .ok (.aload_n 0, 1) := by decide +kernel
theorem dX6_wheel_23 : decode cX6_wheel 23 = .ok (.iload_n 1, 1) := by decide +kernel
theorem dX6_wheel_24 : decode cX6_wheel 24 = .ok (.iload_n 2, 1) := by decide +kernel
theorem dX6_wheel_25 : decode cX6_wheel 25 = .ok (.invokevirtual 110, 3) := by decide +kernel
theorem dX6_wheel_28 : decode cX6_wheel 28 = .ok (.goto 8, 3) := by decide +kernel
theorem dX6_wheel_31 : decode cX6_wheel 31 = .ok (.aload_n 0, 1) := by decide +kernel
theorem dX6_wheel_32 : decode cX6_wheel 32 = .ok (.iconst 1, 1) := by decide +kernel
theorem dX6_wheel_33 : decode cX6_wheel 33 = .ok (.invokevirtual 45, 3) := by decide +kernel
theorem dX6_wheel_36 : decode cX6_wheel 36 = .ok (.ireturn, 1) := by decide +kernel
set_option maxRecDepth 20000 in
theorem ggX6_raftTold_X6_left : GoodIn wsX6_raftTold wsX6_left := goodIn_r _ [6, 1, 7, 8, 9, 10, 5, 11, 12, 13, 14, 15, 16, 17, 18, 19, 20, 29, 30, 31, 32, 33, 34, 35, 36, 37, 38] (by decide +kernel) (by decide +kernel)
set_option maxRecDepth 20000 in
theorem gX6_raftTold_X6_left : GoodIn wsX6_raftTold (wsV RX6 91 RX6 yX6_left wsX6_left) := goodIn_app (goodIn_of _ (by decide +kernel)) ggX6_raftTold_X6_left
set_option maxRecDepth 20000 in
theorem ggX6_raftTold_X6_upon : GoodIn wsX6_raftTold wsX6_upon := goodIn_r _ [24, 7, 8, 9, 10, 5, 11, 12, 13, 14, 15, 16, 29, 30, 31, 32, 33, 34, 35, 36, 37, 38] (by decide +kernel) (by decide +kernel)
set_option maxRecDepth 20000 in
theorem gX6_raftTold_X6_upon : GoodIn wsX6_raftTold (wsV RX6 94 RX6 yX6_upon wsX6_upon) := goodIn_app (goodIn_of _ (by decide +kernel)) ggX6_raftTold_X6_upon
set_option maxRecDepth 20000 in
theorem ggX6_raftTold_X6_isAway : GoodIn wsX6_raftTold wsX6_isAway := goodIn_r _ [28, 1, 29, 30, 31, 32, 33, 34, 35, 36, 37, 38] (by decide +kernel) (by decide +kernel)
set_option maxRecDepth 20000 in
theorem gX6_raftTold_X6_isAway : GoodIn wsX6_raftTold (wsV RX6 88 RX6 yX6_isAway wsX6_isAway) := goodIn_app (goodIn_of _ (by decide +kernel)) ggX6_raftTold_X6_isAway
theorem dX6_raftTold_0 : decode cX6_raftTold 0 = .ok (.iload_n 2, 1) := by decide +kernel
theorem dX6_raftTold_1 : decode cX6_raftTold 1 = .ok (.ifCond .ne 16, 3) := by decide +kernel
theorem dX6_raftTold_4 : decode cX6_raftTold 4 = .ok (.aload_n 0, 1) := by decide +kernel
theorem dX6_raftTold_5 : decode cX6_raftTold 5 = .ok (.getfield 22, 3) := by decide +kernel
theorem dX6_raftTold_8 : decode cX6_raftTold 8 = .ok (.iconst 2, 1) := by decide +kernel
theorem dX6_raftTold_9 : decode cX6_raftTold 9 = .ok (.iload_n 1, 1) := by decide +kernel
theorem dX6_raftTold_10 : decode cX6_raftTold 10 = .ok (.imul, 1) := by decide +kernel
theorem dX6_raftTold_11 : decode cX6_raftTold 11 = .ok (.iconst 0, 1) := by decide +kernel
theorem dX6_raftTold_12 : decode cX6_raftTold 12 = .ok (.iadd, 1) := by decide +kernel
theorem dX6_raftTold_13 : decode cX6_raftTold 13 = .ok (.iaload, 1) := by decide +kernel
theorem dX6_raftTold_14 : decode cX6_raftTold 14 = .ok (.goto 42, 3) := by decide +kernel
theorem dX6_raftTold_17 : decode cX6_raftTold 17 = .ok (.iload_n 2, 1) := by decide +kernel
theorem dX6_raftTold_18 : decode cX6_raftTold 18 = .ok (.iconst 1, 1) := by decide +kernel
theorem dX6_raftTold_19 : decode cX6_raftTold 19 = .ok (.if_icmp .ne 11, 3) := by decide +kernel
theorem dX6_raftTold_22 : decode cX6_raftTold 22 = .ok (.aload_n 0, 1) := by decide +kernel
theorem dX6_raftTold_23 : decode cX6_raftTold 23 = .ok (.iload_n 1, 1) := by decide +kernel
theorem dX6_raftTold_24 : decode cX6_raftTold 24 = .ok (.invokevirtual 91, 3) := by decide +kernel
theorem dX6_raftTold_27 : decode cX6_raftTold 27 = .ok (.goto 29, 3) := by decide +kernel
theorem dX6_raftTold_30 : decode cX6_raftTold 30 = .ok (.iload_n 2, 1) := by decide +kernel
theorem dX6_raftTold_31 : decode cX6_raftTold 31 = .ok (.iconst 2, 1) := by decide +kernel
theorem dX6_raftTold_32 : decode cX6_raftTold 32 = .ok (.if_icmp .ne 11, 3) := by decide +kernel
theorem dX6_raftTold_35 : decode cX6_raftTold 35 = .ok (.aload_n 0, 1) := by decide +kernel
theorem dX6_raftTold_36 : decode cX6_raftTold 36 = .ok (.iload_n 1, 1) := by decide +kernel
theorem dX6_raftTold_37 : decode cX6_raftTold 37 = .ok (.invokevirtual 94, 3) := by decide +kernel
theorem dX6_raftTold_40 : decode cX6_raftTold 40 = .ok (.goto 16, 3) := by decide +kernel
theorem dX6_raftTold_43 : decode cX6_raftTold 43 = .ok (.aload_n 0, 1) := by decide +kernel
theorem dX6_raftTold_44 : decode cX6_raftTold 44 = .ok (.iload_n 1, 1) := by decide +kernel
theorem dX6_raftTold_45 : decode cX6_raftTold 45 = .ok (.invokevirtual 88, 3) := by decide +kernel
theorem dX6_raftTold_48 : decode cX6_raftTold 48 = .ok (.ifCond .eq 7, 3) := by decide +kernel
theorem dX6_raftTold_51 : decode cX6_raftTold 51 = .ok (.iconst 1, 1) := by decide +kernel
theorem dX6_raftTold_52 : decode cX6_raftTold 52 = .ok (.goto 4, 3) := by decide +kernel
theorem dX6_raftTold_55 : decode cX6_raftTold 55 = .ok (.iconst 0, 1) := by decide +kernel
theorem dX6_raftTold_56 : decode cX6_raftTold 56 = .ok (.ireturn, 1) := by decide +kernel
set_option maxRecDepth 20000 in
theorem ggX6_raft_X6_isRaft : GoodIn wsX6_raft wsX6_isRaft := goodIn_r _ [6, 7, 8, 9, 5, 10, 46, 47, 48, 49, 50, 51, 52, 53, 54, 55] (by decide +kernel) (by decide +kernel)
set_option maxRecDepth 20000 in
theorem gX6_raft_X6_isRaft : GoodIn wsX6_raft (wsV RX6 85 RX6 yX6_isRaft wsX6_isRaft) := goodIn_app (goodIn_of _ (by decide +kernel)) ggX6_raft_X6_isRaft
set_option maxRecDepth 20000 in
theorem ggX6_raft_X6_isIn : GoodIn wsX6_raft wsX6_isIn := goodIn_r _ [10] (by decide +kernel) (by decide +kernel)
set_option maxRecDepth 20000 in
theorem gX6_raft_X6_isIn : GoodIn wsX6_raft (va_wsS RX6 35 yX6_isIn wsX6_isIn) := goodIn_app (goodIn_of _ (by decide +kernel)) ggX6_raft_X6_isIn
set_option maxRecDepth 20000 in
theorem ggX6_raft_X6_raftTold : GoodIn wsX6_raft wsX6_raftTold := goodIn_r _ [14, 15, 16, 17, 18, 5, 19, 20, 21, 22, 23, 24, 25, 26, 27, 28, 29, 30, 31, 32, 33, 34, 35, 36, 37, 38, 39, 40, 41, 46, 47, 48, 49, 50, 51, 52, 53, 54, 55] (by decide +kernel) (by decide +kernel)
set_option maxRecDepth 20000 in
theorem gX6_raft_X6_raftTold : GoodIn wsX6_raft (wsV RX6 113 RX6 yX6_raftTold wsX6_raftTold) := goodIn_app (goodIn_of _ (by decide +kernel)) ggX6_raft_X6_raftTold
set_option maxRecDepth 20000 in
theorem ggX6_raft_X6_fail : GoodIn wsX6_raft wsX6_fail := goodIn_r _ [45, 1, 46, 47, 48, 49, 50, 51, 52, 53, 54, 55] (by decide +kernel) (by decide +kernel)
set_option maxRecDepth 20000 in
theorem gX6_raft_X6_fail : GoodIn wsX6_raft (wsV RX6 45 RX6 yX6_fail wsX6_fail) := goodIn_app (goodIn_of _ (by decide +kernel)) ggX6_raft_X6_fail
theorem dX6_raft_0 : decode cX6_raft 0 = .ok (.aload_n 0, 1) := by decide +kernel
theorem dX6_raft_1 : decode cX6_raft 1 = .ok (.iconst 0, 1) := by decide +kernel
theorem dX6_raft_2 : decode cX6_raft 2 = .ok (.putfield 28, 3) := by decide +kernel
theorem dX6_raft_5 : decode cX6_raft 5 = .ok (.aload_n 0, 1) := by decide +kernel
theorem dX6_raft_6 : decode cX6_raft 6 = .ok (.iload_n 1, 1) := by decide +kernel
theorem dX6_raft_7 : decode cX6_raft 7 = .ok (.invokevirtual 85, 3) := by decide +kernel
theorem dX6_raft_10 : decode cX6_raft 10 = .ok (.ifCond .eq 21, 3) := by decide +kernel
theorem dX6_raft_13 : decode cX6_raft 13 = .ok (.iload_n 2, 1) := by decide +kernel
theorem dX6_raft_14 : decode cX6_raft 14 = .ok (.iconst 0, 1) := by decide +kernel
theorem dX6_raft_15 : decode cX6_raft 15 = .ok (.iconst 3, 1) := by decide +kernel
theorem dX6_raft_16 : decode cX6_raft 16 = .ok (.invokestatic 35, 3) := by decide +kernel
theorem dX6_raft_19 : decode cX6_raft 19 = .ok (.ifCond .eq 12, 3) := by decide +kernel
theorem dX6_raft_22 : decode cX6_raft 22 = .ok (.aload_n 0, 1) := by decide +kernel
theorem dX6_raft_23 : decode cX6_raft 23 = .ok (.iload_n 1, 1) := by decide +kernel
theorem dX6_raft_24 : decode cX6_raft 24 = .ok (.iload_n 2, 1) := by decide +kernel
theorem dX6_raft_25 : decode cX6_raft 25 = .ok (.invokevirtual 113, 3) := by decide +kernel
theorem dX6_raft_28 : decode cX6_raft 28 = .ok (.goto 8, 3) := by decide +kernel
theorem dX6_raft_31 : decode cX6_raft 31 = .ok (.aload_n 0, 1) := by decide +kernel
theorem dX6_raft_32 : decode cX6_raft 32 = .ok (.iconst 1, 1) := by decide +kernel
theorem dX6_raft_33 : decode cX6_raft 33 = .ok (.invokevirtual 45, 3) := by decide +kernel
theorem dX6_raft_36 : decode cX6_raft 36 = .ok (.ireturn, 1) := by decide +kernel
set_option maxRecDepth 20000 in
theorem ggX6_counted_X6_water : GoodIn wsX6_counted wsX6_water := goodIn_r _ [7, 8, 1, 19, 20, 21, 22, 23, 24, 25, 26, 27, 28] (by decide +kernel) (by decide +kernel)
set_option maxRecDepth 20000 in
theorem gX6_counted_X6_water : GoodIn wsX6_counted (wsV RX6 97 RX6 yX6_water wsX6_water) := goodIn_app (goodIn_of _ (by decide +kernel)) ggX6_counted_X6_water
set_option maxRecDepth 20000 in
theorem ggX6_counted_X6_pe : GoodIn wsX6_counted wsX6_pe := goodIn_r _ [12, 13, 19, 20, 21, 22, 23, 24, 25, 26, 27, 28] (by decide +kernel) (by decide +kernel)
set_option maxRecDepth 20000 in
theorem gX6_counted_X6_pe : GoodIn wsX6_counted (wsV RX6 60 RX6 yX6_pe wsX6_pe) := goodIn_app (goodIn_of _ (by decide +kernel)) ggX6_counted_X6_pe
set_option maxRecDepth 20000 in
theorem ggX6_counted_X6_st : GoodIn wsX6_counted wsX6_st := goodIn_r _ [17, 18, 19, 20, 21, 22, 23, 24, 25, 26, 27, 28] (by decide +kernel) (by decide +kernel)
set_option maxRecDepth 20000 in
theorem gX6_counted_X6_st : GoodIn wsX6_counted (wsV RX6 64 RX6 yX6_st wsX6_st) := goodIn_app (goodIn_of _ (by decide +kernel)) ggX6_counted_X6_st
theorem dX6_counted_0 : decode cX6_counted 0 = .ok (.iconst 0, 1) := by decide +kernel
theorem dX6_counted_1 : decode cX6_counted 1 = .ok (.istore_n 2, 1) := by decide +kernel
theorem dX6_counted_2 : decode cX6_counted 2 = .ok (.iload_n 1, 1) := by decide +kernel
theorem dX6_counted_3 : decode cX6_counted 3 = .ok (.tableswitch 120 0 9 #[53, 60, 65, 79, 120, 120, 120, 120, 86, 93], 53) := by decide +kernel
theorem dX6_counted_56 : decode cX6_counted 56 = .ok (.aload_n 0, 1) := by decide +kernel
theorem dX6_counted_57 : decode cX6_counted 57 = .ok (.getfield 25, 3) := by decide +kernel
theorem dX6_counted_60 : decode cX6_counted 60 = .ok (.iconst 0, 1) := by decide +kernel
theorem dX6_counted_61 : decode cX6_counted 61 = .ok (.iaload, 1) := by decide +kernel
theorem dX6_counted_62 : decode cX6_counted 62 = .ok (.ireturn, 1) := by decide +kernel
theorem dX6_counted_63 : decode cX6_counted 63 = .ok (.aload_n 0, 1) := by decide +kernel
theorem dX6_counted_64 : decode cX6_counted 64 = .ok (.invokevirtual 97, 3) := by decide +kernel
theorem dX6_counted_67 : decode cX6_counted 67 = .ok (.ireturn, 1) := by decide +kernel
theorem dX6_counted_68 : decode cX6_counted 68 = .ok (.aload_n 0, 1) := by decide +kernel
theorem dX6_counted_69 : decode cX6_counted 69 = .ok (.invokevirtual 97, 3) := by decide +kernel
theorem dX6_counted_72 : decode cX6_counted 72 = .ok (.iconst 2, 1) := by decide +kernel
theorem dX6_counted_73 : decode cX6_counted 73 = .ok (.if_icmp .le 7, 3) := by decide +kernel
theorem dX6_counted_76 : decode cX6_counted 76 = .ok (.iconst 1, 1) := by decide +kernel
theorem dX6_counted_77 : decode cX6_counted 77 = .ok (.goto 4, 3) := by decide +kernel
theorem dX6_counted_80 : decode cX6_counted 80 = .ok (.iconst 0, 1) := by decide +kernel
theorem dX6_counted_81 : decode cX6_counted 81 = .ok (.ireturn, 1) := by decide +kernel
theorem dX6_counted_82 : decode cX6_counted 82 = .ok (.aload_n 0, 1) := by decide +kernel
theorem dX6_counted_83 : decode cX6_counted 83 = .ok (.getfield 25, 3) := by decide +kernel
theorem dX6_counted_86 : decode cX6_counted 86 = .ok (.iconst 2, 1) := by decide +kernel
theorem dX6_counted_87 : decode cX6_counted 87 = .ok (.iaload, 1) := by decide +kernel
theorem dX6_counted_88 : decode cX6_counted 88 = .ok (.ireturn, 1) := by decide +kernel
theorem dX6_counted_89 : decode cX6_counted 89 = .ok (.aload_n 0, 1) := by decide +kernel
theorem dX6_counted_90 : decode cX6_counted 90 = .ok (.getfield 25, 3) := by decide +kernel
theorem dX6_counted_93 : decode cX6_counted 93 = .ok (.iconst 1, 1) := by decide +kernel
theorem dX6_counted_94 : decode cX6_counted 94 = .ok (.iaload, 1) := by decide +kernel
theorem dX6_counted_95 : decode cX6_counted 95 = .ok (.ireturn, 1) := by decide +kernel
theorem dX6_counted_96 : decode cX6_counted 96 = .ok (.iconst 0, 1) := by decide +kernel
theorem dX6_counted_97 : decode cX6_counted 97 = .ok (.istore_n 3, 1) := by decide +kernel
theorem dX6_counted_98 : decode cX6_counted 98 = .ok (.iload_n 3, 1) := by decide +kernel
theorem dX6_counted_99 : decode cX6_counted 99 = .ok (.aload_n 0, 1) := by decide +kernel
theorem dX6_counted_100 : decode cX6_counted 100 = .ok (.getfield 39, 3) := by decide +kernel
theorem dX6_counted_103 : decode cX6_counted 103 = .ok (.if_icmp .ge 18, 3) := by decide +kernel
theorem dX6_counted_106 : decode cX6_counted 106 = .ok (.iload_n 2, 1) := by decide +kernel
theorem dX6_counted_107 : decode cX6_counted 107 = .ok (.aload_n 0, 1) := by decide +kernel
theorem dX6_counted_108 : decode cX6_counted 108 = .ok (.iload_n 3, 1) := by decide +kernel
theorem dX6_counted_109 : decode cX6_counted 109 = .ok (.iconst 2, 1) := by decide +kernel
theorem dX6_counted_110 : decode cX6_counted 110 = .ok (.invokevirtual 60, 3) := by decide +kernel
theorem dX6_counted_113 : decode cX6_counted 113 = .ok (.iadd, 1) := by decide +kernel
theorem dX6_counted_114 : decode cX6_counted 114 = .ok (.istore_n 2, 1) := by decide +kernel
theorem dX6_counted_115 : decode cX6_counted 115 = .ok (.iinc 3 1, 3) := by decide +kernel
theorem dX6_counted_118 : decode cX6_counted 118 = .ok (.goto (-20), 3) := by decide +kernel
theorem dX6_counted_121 : decode cX6_counted 121 = .ok (.iload_n 2, 1) := by decide +kernel
theorem dX6_counted_122 : decode cX6_counted 122 = .ok (.ireturn, 1) := by decide +kernel
theorem dX6_counted_123 : decode cX6_counted 123 = .ok (.iconst 0, 1) := by decide +kernel
theorem dX6_counted_124 : decode cX6_counted 124 = .ok (.istore_n 3, 1) := by decide +kernel
theorem dX6_counted_125 : decode cX6_counted 125 = .ok (.iload_n 3, 1) := by decide +kernel
theorem dX6_counted_126 : decode cX6_counted 126 = .ok (.aload_n 0, 1) := by decide +kernel
theorem dX6_counted_127 : decode cX6_counted 127 = .ok (.getfield 25, 3) := by decide +kernel
theorem dX6_counted_130 : decode cX6_counted 130 = .ok (.iconst 2, 1) := by decide +kernel
theorem dX6_counted_131 : decode cX6_counted 131 = .ok (.iaload, 1) := by decide +kernel
theorem dX6_counted_132 : decode cX6_counted 132 = .ok (.if_icmp .ge 29, 3) := by decide +kernel
theorem dX6_counted_135 : decode cX6_counted 135 = .ok (.iload_n 2, 1) := by decide +kernel
theorem dX6_counted_136 : decode cX6_counted 136 = .ok (.aload_n 0, 1) := by decide +kernel
theorem dX6_counted_137 : decode cX6_counted 137 = .ok (.iload_n 3, 1) := by decide +kernel
theorem dX6_counted_138 : decode cX6_counted 138 = .ok (.iconst 2, 1) := by decide +kernel
theorem dX6_counted_139 : decode cX6_counted 139 = .ok (.invokevirtual 64, 3) := by decide +kernel
theorem dX6_counted_142 : decode cX6_counted 142 = .ok (.iload_n 1, 1) := by decide +kernel
theorem dX6_counted_143 : decode cX6_counted 143 = .ok (.iconst 4, 1) := by decide +kernel
theorem dX6_counted_144 : decode cX6_counted 144 = .ok (.isub, 1) := by decide +kernel
theorem dX6_counted_145 : decode cX6_counted 145 = .ok (.if_icmp .ne 7, 3) := by decide +kernel
theorem dX6_counted_148 : decode cX6_counted 148 = .ok (.iconst 1, 1) := by decide +kernel
theorem dX6_counted_149 : decode cX6_counted 149 = .ok (.goto 4, 3) := by decide +kernel
theorem dX6_counted_152 : decode cX6_counted 152 = .ok (.iconst 0, 1) := by decide +kernel
theorem dX6_counted_153 : decode cX6_counted 153 = .ok (.iadd, 1) := by decide +kernel
theorem dX6_counted_154 : decode cX6_counted 154 = .ok (.istore_n 2, 1) := by decide +kernel
theorem dX6_counted_155 : decode cX6_counted 155 = .ok (.iinc 3 1, 3) := by decide +kernel
theorem dX6_counted_158 : decode cX6_counted 158 = .ok (.goto (-33), 3) := by decide +kernel
theorem dX6_counted_161 : decode cX6_counted 161 = .ok (.iload_n 2, 1) := by decide +kernel
theorem dX6_counted_162 : decode cX6_counted 162 = .ok (.ireturn, 1) := by decide +kernel
set_option maxRecDepth 20000 in
theorem ggX6_count_X6_isIn : GoodIn wsX6_count wsX6_isIn := goodIn_r _ [5] (by decide +kernel) (by decide +kernel)
set_option maxRecDepth 20000 in
theorem gX6_count_X6_isIn : GoodIn wsX6_count (va_wsS RX6 35 yX6_isIn wsX6_isIn) := goodIn_app (goodIn_of _ (by decide +kernel)) ggX6_count_X6_isIn
set_option maxRecDepth 20000 in
theorem ggX6_count_X6_counted : GoodIn wsX6_count wsX6_counted := goodIn_r _ [9, 10, 11, 12, 13, 14, 4, 15, 16, 17, 18, 19, 20, 21, 22, 23, 24, 25, 26, 31, 32, 33, 34, 35, 36, 37, 38, 39, 40] (by decide +kernel) (by decide +kernel)
set_option maxRecDepth 20000 in
theorem gX6_count_X6_counted : GoodIn wsX6_count (wsV RX6 116 RX6 yX6_counted wsX6_counted) := goodIn_app (goodIn_of _ (by decide +kernel)) ggX6_count_X6_counted
set_option maxRecDepth 20000 in
theorem ggX6_count_X6_fail : GoodIn wsX6_count wsX6_fail := goodIn_r _ [30, 1, 31, 32, 33, 34, 35, 36, 37, 38, 39, 40] (by decide +kernel) (by decide +kernel)
set_option maxRecDepth 20000 in
theorem gX6_count_X6_fail : GoodIn wsX6_count (wsV RX6 45 RX6 yX6_fail wsX6_fail) := goodIn_app (goodIn_of _ (by decide +kernel)) ggX6_count_X6_fail
theorem dX6_count_0 : decode cX6_count 0 = .ok (.aload_n 0, 1) := by decide +kernel
theorem dX6_count_1 : decode cX6_count 1 = .ok (.iconst 0, 1) := by decide +kernel
theorem dX6_count_2 : decode cX6_count 2 = .ok (.putfield 28, 3) := by decide +kernel
theorem dX6_count_5 : decode cX6_count 5 = .ok (.iload_n 1, 1) := by decide +kernel
theorem dX6_count_6 : decode cX6_count 6 = .ok (.iconst 0, 1) := by decide +kernel
theorem dX6_count_7 : decode cX6_count 7 = .ok (.bipush 9, 2) := by decide +kernel
theorem dX6_count_9 : decode cX6_count 9 = .ok (.invokestatic 35, 3) := by decide +kernel
theorem dX6_count_12 : decode cX6_count 12 = .ok (.ifCond .eq 11, 3) := by decide +kernel
theorem dX6_count_15 : decode cX6_count 15 = .ok (.aload_n 0, 1) := by decide +kernel
theorem dX6_count_16 : decode cX6_count 16 = .ok (.iload_n 1, 1) := by decide +kernel
theorem dX6_count_17 : decode cX6_count 17 = .ok (.invokevirtual 116, 3) := by decide +kernel
theorem dX6_count_20 : decode cX6_count 20 = .ok (.goto 8, 3) := by decide +kernel
theorem dX6_count_23 : decode cX6_count 23 = .ok (.aload_n 0, 1) := by decide +kernel
theorem dX6_count_24 : decode cX6_count 24 = .ok (.iconst 1, 1) := by decide +kernel
theorem dX6_count_25 : decode cX6_count 25 = .ok (.invokevirtual 45, 3) := by decide +kernel
theorem dX6_count_28 : decode cX6_count 28 = .ok (.ireturn, 1) := by decide +kernel
set_option maxRecDepth 20000 in
theorem ggX6_cut_X6_pe : GoodIn wsX6_cut wsX6_pe := goodIn_r _ [12, 13, 22, 23, 24, 25, 26, 27, 28, 29, 30, 31] (by decide +kernel) (by decide +kernel)
set_option maxRecDepth 20000 in
theorem gX6_cut_X6_pe : GoodIn wsX6_cut (wsV RX6 60 RX6 yX6_pe wsX6_pe) := goodIn_app (goodIn_of _ (by decide +kernel)) ggX6_cut_X6_pe
set_option maxRecDepth 20000 in
theorem ggX6_cut_X6_ro : GoodIn wsX6_cut wsX6_ro := goodIn_r _ [17, 3, 22, 23, 24, 25, 26, 27, 28, 29, 30, 31] (by decide +kernel) (by decide +kernel)
set_option maxRecDepth 20000 in
theorem gX6_cut_X6_ro : GoodIn wsX6_cut (wsV RX6 67 RX6 yX6_ro wsX6_ro) := goodIn_app (goodIn_of _ (by decide +kernel)) ggX6_cut_X6_ro
set_option maxRecDepth 20000 in
theorem ggX6_cut_X6_put : GoodIn wsX6_cut wsX6_put := goodIn_r _ [21, 13, 22, 23, 24, 25, 26, 27, 28, 29, 30, 31] (by decide +kernel) (by decide +kernel)
set_option maxRecDepth 20000 in
theorem gX6_cut_X6_put : GoodIn wsX6_cut (wsV RX6 49 RX6 yX6_put wsX6_put) := goodIn_app (goodIn_of _ (by decide +kernel)) ggX6_cut_X6_put
theorem dX6_cut_0 : decode cX6_cut 0 = .ok (.iconst 1, 1) := by decide +kernel
theorem dX6_cut_1 : decode cX6_cut 1 = .ok (.aload_n 0, 1) := by decide +kernel
theorem dX6_cut_2 : decode cX6_cut 2 = .ok (.iload_n 1, 1) := by decide +kernel
theorem dX6_cut_3 : decode cX6_cut 3 = .ok (.iconst 0, 1) := by decide +kernel
theorem dX6_cut_4 : decode cX6_cut 4 = .ok (.invokevirtual 60, 3) := by decide +kernel
theorem dX6_cut_7 : decode cX6_cut 7 = .ok (.iconst 2, 1) := by decide +kernel
theorem dX6_cut_8 : decode cX6_cut 8 = .ok (.idiv, 1) := by decide +kernel
theorem dX6_cut_9 : decode cX6_cut 9 = .ok (.iadd, 1) := by decide +kernel
theorem dX6_cut_10 : decode cX6_cut 10 = .ok (.aload_n 0, 1) := by decide +kernel
theorem dX6_cut_11 : decode cX6_cut 11 = .ok (.getfield 25, 3) := by decide +kernel
theorem dX6_cut_14 : decode cX6_cut 14 = .ok (.iconst 0, 1) := by decide +kernel
theorem dX6_cut_15 : decode cX6_cut 15 = .ok (.iaload, 1) := by decide +kernel
theorem dX6_cut_16 : decode cX6_cut 16 = .ok (.iconst 3, 1) := by decide +kernel
theorem dX6_cut_17 : decode cX6_cut 17 = .ok (.irem, 1) := by decide +kernel
theorem dX6_cut_18 : decode cX6_cut 18 = .ok (.ifCond .ne 7, 3) := by decide +kernel
theorem dX6_cut_21 : decode cX6_cut 21 = .ok (.iconst 1, 1) := by decide +kernel
theorem dX6_cut_22 : decode cX6_cut 22 = .ok (.goto 4, 3) := by decide +kernel
theorem dX6_cut_25 : decode cX6_cut 25 = .ok (.iconst 0, 1) := by decide +kernel
theorem dX6_cut_26 : decode cX6_cut 26 = .ok (.iadd, 1) := by decide +kernel
theorem dX6_cut_27 : decode cX6_cut 27 = .ok (.istore_n 3, 1) := by decide +kernel
theorem dX6_cut_28 : decode cX6_cut 28 = .ok (.iconst 5, 1) := by decide +kernel
theorem dX6_cut_29 : decode cX6_cut 29 = .ok (.aload_n 0, 1) := by decide +kernel
theorem dX6_cut_30 : decode cX6_cut 30 = .ok (.getfield 25, 3) := by decide +kernel
theorem dX6_cut_33 : decode cX6_cut 33 = .ok (.iconst 2, 1) := by decide +kernel
theorem dX6_cut_34 : decode cX6_cut 34 = .ok (.iaload, 1) := by decide +kernel
theorem dX6_cut_35 : decode cX6_cut 35 = .ok (.imul, 1) := by decide +kernel
theorem dX6_cut_36 : decode cX6_cut 36 = .ok (.istore 4, 2) := by decide +kernel
theorem dX6_cut_38 : decode cX6_cut 38 = .ok (.aload_n 0, 1) := by decide +kernel
theorem dX6_cut_39 : decode cX6_cut 39 = .ok (.getfield 19, 3) := by decide +kernel
theorem dX6_cut_42 : decode cX6_cut 42 = .ok (.iload 4, 2) := by decide +kernel
theorem dX6_cut_44 : decode cX6_cut 44 = .ok (.iconst 0, 1) := by decide +kernel
theorem dX6_cut_45 : decode cX6_cut 45 = .ok (.iadd, 1) := by decide +kernel
theorem dX6_cut_46 : decode cX6_cut 46 = .ok (.iload_n 2, 1) := by decide +kernel
theorem dX6_cut_47 : decode cX6_cut 47 = .ok (.iastore, 1) := by decide +kernel
theorem dX6_cut_48 : decode cX6_cut 48 = .ok (.aload_n 0, 1) := by decide +kernel
theorem dX6_cut_49 : decode cX6_cut 49 = .ok (.getfield 19, 3) := by decide +kernel
theorem dX6_cut_52 : decode cX6_cut 52 = .ok (.iload 4, 2) := by decide +kernel
theorem dX6_cut_54 : decode cX6_cut 54 = .ok (.iconst 1, 1) := by decide +kernel
theorem dX6_cut_55 : decode cX6_cut 55 = .ok (.iadd, 1) := by decide +kernel
theorem dX6_cut_56 : decode cX6_cut 56 = .ok (.iload_n 3, 1) := by decide +kernel
theorem dX6_cut_57 : decode cX6_cut 57 = .ok (.iastore, 1) := by decide +kernel
theorem dX6_cut_58 : decode cX6_cut 58 = .ok (.aload_n 0, 1) := by decide +kernel
theorem dX6_cut_59 : decode cX6_cut 59 = .ok (.getfield 19, 3) := by decide +kernel
theorem dX6_cut_62 : decode cX6_cut 62 = .ok (.iload 4, 2) := by decide +kernel
theorem dX6_cut_64 : decode cX6_cut 64 = .ok (.iconst 2, 1) := by decide +kernel
theorem dX6_cut_65 : decode cX6_cut 65 = .ok (.iadd, 1) := by decide +kernel
theorem dX6_cut_66 : decode cX6_cut 66 = .ok (.iconst 0, 1) := by decide +kernel
theorem dX6_cut_67 : decode cX6_cut 67 = .ok (.iastore, 1) := by decide +kernel
theorem dX6_cut_68 : decode cX6_cut 68 = .ok (.aload_n 0, 1) := by decide +kernel
theorem dX6_cut_69 : decode cX6_cut 69 = .ok (.getfield 19, 3) := by decide +kernel
theorem dX6_cut_72 : decode cX6_cut 72 = .ok (.iload 4, 2) := by decide +kernel
theorem dX6_cut_74 : decode cX6_cut 74 = .ok (.iconst 3, 1) := by decide +kernel
theorem dX6_cut_75 : decode cX6_cut 75 = .ok (.iadd, 1) := by decide +kernel
theorem dX6_cut_76 : decode cX6_cut 76 = .ok (.iconst (-1), 1) := by decide +kernel
theorem dX6_cut_77 : decode cX6_cut 77 = .ok (.iastore, 1) := by decide +kernel
theorem dX6_cut_78 : decode cX6_cut 78 = .ok (.aload_n 0, 1) := by decide +kernel
theorem dX6_cut_79 : decode cX6_cut 79 = .ok (.getfield 19, 3) := by decide +kernel
theorem dX6_cut_82 : decode cX6_cut 82 = .ok (.iload 4, 2) := by decide +kernel
theorem dX6_cut_84 : decode cX6_cut 84 = .ok (.iconst 4, 1) := by decide +kernel
theorem dX6_cut_85 : decode cX6_cut 85 = .ok (.iadd, 1) := by decide +kernel
theorem dX6_cut_86 : decode cX6_cut 86 = .ok (.bipush 7, 2) := by decide +kernel
theorem dX6_cut_88 : decode cX6_cut 88 = .ok (.aload_n 0, 1) := by decide +kernel
theorem dX6_cut_89 : decode cX6_cut 89 = .ok (.iload_n 2, 1) := by decide +kernel
theorem dX6_cut_90 : decode cX6_cut 90 = .ok (.iconst 3, 1) := by decide +kernel
theorem dX6_cut_91 : decode cX6_cut 91 = .ok (.invokevirtual 67, 3) := by decide +kernel
theorem dX6_cut_94 : decode cX6_cut 94 = .ok (.imul, 1) := by decide +kernel
theorem dX6_cut_95 : decode cX6_cut 95 = .ok (.iconst 3, 1) := by decide +kernel
theorem dX6_cut_96 : decode cX6_cut 96 = .ok (.iload_n 3, 1) := by decide +kernel
theorem dX6_cut_97 : decode cX6_cut 97 = .ok (.imul, 1) := by decide +kernel
theorem dX6_cut_98 : decode cX6_cut 98 = .ok (.iadd, 1) := by decide +kernel
theorem dX6_cut_99 : decode cX6_cut 99 = .ok (.bipush 10, 2) := by decide +kernel
theorem dX6_cut_101 : decode cX6_cut 101 = .ok (.irem, 1) := by decide +kernel
theorem dX6_cut_102 : decode cX6_cut 102 = .ok (.aload_n 0, 1) := by decide +kernel
theorem dX6_cut_103 : decode cX6_cut 103 = .ok (.iload_n 2, 1) := by decide +kernel
theorem dX6_cut_104 : decode cX6_cut 104 = .ok (.iconst 1, 1) := by decide +kernel
theorem dX6_cut_105 : decode cX6_cut 105 = .ok (.invokevirtual 67, 3) := by decide +kernel
theorem dX6_cut_108 : decode cX6_cut 108 = .ok (.if_icmp .ge 7, 3) := by decide +kernel
theorem dX6_cut_111 : decode cX6_cut 111 = .ok (.iconst 1, 1) := by decide +kernel
theorem dX6_cut_112 : decode cX6_cut 112 = .ok (.goto 4, 3) := by decide +kernel
theorem dX6_cut_115 : decode cX6_cut 115 = .ok (.iconst 0, 1) := by decide +kernel
theorem dX6_cut_116 : decode cX6_cut 116 = .ok (.iastore, 1) := by decide +kernel
theorem dX6_cut_117 : decode cX6_cut 117 = .ok (.aload_n 0, 1) := by decide +kernel
theorem dX6_cut_118 : decode cX6_cut 118 = .ok (.getfield 25, 3) := by decide +kernel
theorem dX6_cut_121 : decode cX6_cut 121 = .ok (.iconst 2, 1) := by decide +kernel
theorem dX6_cut_122 : decode cX6_cut 122 = .ok (.dup2, 1) := by decide +kernel
theorem dX6_cut_123 : decode cX6_cut 123 = .ok (.iaload, 1) := by decide +kernel
theorem dX6_cut_124 : decode cX6_cut 124 = .ok (.iconst 1, 1) := by decide +kernel
theorem dX6_cut_125 : decode cX6_cut 125 = .ok (.iadd, 1) := by decide +kernel
theorem dX6_cut_126 : decode cX6_cut 126 = .ok (.iastore, 1) := by decide +kernel
theorem dX6_cut_127 : decode cX6_cut 127 = .ok (.aload_n 0, 1) := by decide +kernel
theorem dX6_cut_128 : decode cX6_cut 128 = .ok (.getfield 13, 3) := by decide +kernel
theorem dX6_cut_131 : decode cX6_cut 131 = .ok (.iconst 4, 1) := by decide +kernel
theorem dX6_cut_132 : decode cX6_cut 132 = .ok (.iload_n 2, 1) := by decide +kernel
theorem dX6_cut_133 : decode cX6_cut 133 = .ok (.imul, 1) := by decide +kernel
theorem dX6_cut_134 : decode cX6_cut 134 = .ok (.iconst 3, 1) := by decide +kernel
theorem dX6_cut_135 : decode cX6_cut 135 = .ok (.iadd, 1) := by decide +kernel
theorem dX6_cut_136 : decode cX6_cut 136 = .ok (.dup2, 1) := by decide +kernel
theorem dX6_cut_137 : decode cX6_cut 137 = .ok (.iaload, 1) := by decide +kernel
theorem dX6_cut_138 : decode cX6_cut 138 = .ok (.iconst 1, 1) := by decide +kernel
theorem dX6_cut_139 : decode cX6_cut 139 = .ok (.iadd, 1) := by decide +kernel
theorem dX6_cut_140 : decode cX6_cut 140 = .ok (.iastore, 1) := by decide +kernel
theorem dX6_cut_141 : decode cX6_cut 141 = .ok (.aload_n 0, 1) := by decide +kernel
theorem dX6_cut_142 : decode cX6_cut 142 = .ok (.getfield 13, 3) := by decide +kernel
theorem dX6_cut_145 : decode cX6_cut 145 = .ok (.iconst 4, 1) := by decide +kernel
theorem dX6_cut_146 : decode cX6_cut 146 = .ok (.iload_n 2, 1) := by decide +kernel
theorem dX6_cut_147 : decode cX6_cut 147 = .ok (.imul, 1) := by decide +kernel
theorem dX6_cut_148 : decode cX6_cut 148 = .ok (.iconst 2, 1) := by decide +kernel
theorem dX6_cut_149 : decode cX6_cut 149 = .ok (.iadd, 1) := by decide +kernel
theorem dX6_cut_150 : decode cX6_cut 150 = .ok (.iconst 0, 1) := by decide +kernel
theorem dX6_cut_151 : decode cX6_cut 151 = .ok (.aload_n 0, 1) := by decide +kernel
theorem dX6_cut_152 : decode cX6_cut 152 = .ok (.iload_n 2, 1) := by decide +kernel
theorem dX6_cut_153 : decode cX6_cut 153 = .ok (.iconst 2, 1) := by decide +kernel
theorem dX6_cut_154 : decode cX6_cut 154 = .ok (.invokevirtual 67, 3) := by decide +kernel
theorem dX6_cut_157 : decode cX6_cut 157 = .ok (.iload_n 3, 1) := by decide +kernel
theorem dX6_cut_158 : decode cX6_cut 158 = .ok (.isub, 1) := by decide +kernel
theorem dX6_cut_159 : decode cX6_cut 159 = .ok (.invokestatic 119, 3) := by decide +kernel
theorem dX6_cut_162 : decode cX6_cut 162 = .ok (.iastore, 1) := by decide +kernel
theorem dX6_cut_163 : decode cX6_cut 163 = .ok (.aload_n 0, 1) := by decide +kernel
theorem dX6_cut_164 : decode cX6_cut 164 = .ok (.iload_n 1, 1) := by decide +kernel
theorem dX6_cut_165 : decode cX6_cut 165 = .ok (.iconst 3, 1) := by decide +kernel
theorem dX6_cut_166 : decode cX6_cut 166 = .ok (.aload_n 0, 1) := by decide +kernel
theorem dX6_cut_167 : decode cX6_cut 167 = .ok (.iload_n 1, 1) := by decide +kernel
theorem dX6_cut_168 : decode cX6_cut 168 = .ok (.iconst 3, 1) := by decide +kernel
theorem dX6_cut_169 : decode cX6_cut 169 = .ok (.invokevirtual 60, 3) := by decide +kernel
theorem dX6_cut_172 : decode cX6_cut 172 = .ok (.bipush 10, 2) := by decide +kernel
theorem dX6_cut_174 : decode cX6_cut 174 = .ok (.isub, 1) := by decide +kernel
theorem dX6_cut_175 : decode cX6_cut 175 = .ok (.invokevirtual 49, 3) := by decide +kernel
theorem dX6_cut_178 : decode cX6_cut 178 = .ok (.return_, 1) := by decide +kernel
set_option maxRecDepth 20000 in
theorem ggX6_toil_X6_pe : GoodIn wsX6_toil wsX6_pe := goodIn_r _ [10, 11, 29, 30, 31, 32, 33, 34, 35, 36, 37, 38] (by decide +kernel) (by decide +kernel)
set_option maxRecDepth 20000 in
theorem gX6_toil_X6_pe : GoodIn wsX6_toil (wsV RX6 60 RX6 yX6_pe wsX6_pe) := goodIn_app (goodIn_of _ (by decide +kernel)) ggX6_toil_X6_pe
set_option maxRecDepth 20000 in
theorem ggX6_toil_X6_put : GoodIn wsX6_toil wsX6_put := goodIn_r _ [15, 11, 29, 30, 31, 32, 33, 34, 35, 36, 37, 38] (by decide +kernel) (by decide +kernel)
set_option maxRecDepth 20000 in
theorem gX6_toil_X6_put : GoodIn wsX6_toil (wsV RX6 49 RX6 yX6_put wsX6_put) := goodIn_app (goodIn_of _ (by decide +kernel)) ggX6_toil_X6_put
set_option maxRecDepth 20000 in
theorem ggX6_toil_X6_ro : GoodIn wsX6_toil wsX6_ro := goodIn_r _ [19, 20, 29, 30, 31, 32, 33, 34, 35, 36, 37, 38] (by decide +kernel) (by decide +kernel)
set_option maxRecDepth 20000 in
theorem gX6_toil_X6_ro : GoodIn wsX6_toil (wsV RX6 67 RX6 yX6_ro wsX6_ro) := goodIn_app (goodIn_of _ (by decide +kernel)) ggX6_toil_X6_ro
set_option maxRecDepth 20000 in
theorem ggX6_toil_X6_cut : GoodIn wsX6_toil wsX6_cut := goodIn_r _ [24, 5, 25, 20, 26, 27, 3, 28, 6, 7, 8, 9, 10, 11, 16, 17, 18, 19, 12, 13, 14, 15, 29, 30, 31, 32, 33, 34, 35, 36, 37, 38] (by decide +kernel) (by decide +kernel)
set_option maxRecDepth 20000 in
theorem gX6_toil_X6_cut : GoodIn wsX6_toil (wsV RX6 122 RX6 yX6_cut wsX6_cut) := goodIn_app (goodIn_of _ (by decide +kernel)) ggX6_toil_X6_cut
theorem dX6_toil_0 : decode cX6_toil 0 = .ok (.aload_n 0, 1) := by decide +kernel
theorem dX6_toil_1 : decode cX6_toil 1 = .ok (.iload_n 1, 1) := by decide +kernel
theorem dX6_toil_2 : decode cX6_toil 2 = .ok (.iconst 1, 1) := by decide +kernel
theorem dX6_toil_3 : decode cX6_toil 3 = .ok (.invokevirtual 60, 3) := by decide +kernel
theorem dX6_toil_6 : decode cX6_toil 6 = .ok (.istore_n 2, 1) := by decide +kernel
theorem dX6_toil_7 : decode cX6_toil 7 = .ok (.iload_n 2, 1) := by decide +kernel
theorem dX6_toil_8 : decode cX6_toil 8 = .ok (.iconst (-1), 1) := by decide +kernel
theorem dX6_toil_9 : decode cX6_toil 9 = .ok (.if_icmp .eq 14, 3) := by decide +kernel
theorem dX6_toil_12 : decode cX6_toil 12 = .ok (.aload_n 0, 1) := by decide +kernel
theorem dX6_toil_13 : decode cX6_toil 13 = .ok (.iload_n 1, 1) := by decide +kernel
theorem dX6_toil_14 : decode cX6_toil 14 = .ok (.iconst 2, 1) := by decide +kernel
theorem dX6_toil_15 : decode cX6_toil 15 = .ok (.invokevirtual 60, 3) := by decide +kernel
theorem dX6_toil_18 : decode cX6_toil 18 = .ok (.bipush 60, 2) := by decide +kernel
theorem dX6_toil_20 : decode cX6_toil 20 = .ok (.if_icmp .lt 4, 3) := by decide +kernel
theorem dX6_toil_23 : decode cX6_toil 23 = .ok (.return_, 1) := by decide +kernel
theorem dX6_toil_24 : decode cX6_toil 24 = .ok (.aload_n 0, 1) := by decide +kernel
theorem dX6_toil_25 : decode cX6_toil 25 = .ok (.iload_n 1, 1) := by decide +kernel
theorem dX6_toil_26 : decode cX6_toil 26 = .ok (.iconst 3, 1) := by decide +kernel
theorem dX6_toil_27 : decode cX6_toil 27 = .ok (.aload_n 0, 1) := by decide +kernel
theorem dX6_toil_28 : decode cX6_toil 28 = .ok (.iload_n 1, 1) := by decide +kernel
theorem dX6_toil_29 : decode cX6_toil 29 = .ok (.iconst 3, 1) := by decide +kernel
theorem dX6_toil_30 : decode cX6_toil 30 = .ok (.invokevirtual 60, 3) := by decide +kernel
theorem dX6_toil_33 : decode cX6_toil 33 = .ok (.aload_n 0, 1) := by decide +kernel
theorem dX6_toil_34 : decode cX6_toil 34 = .ok (.iload_n 1, 1) := by decide +kernel
theorem dX6_toil_35 : decode cX6_toil 35 = .ok (.iconst 0, 1) := by decide +kernel
theorem dX6_toil_36 : decode cX6_toil 36 = .ok (.invokevirtual 60, 3) := by decide +kernel
theorem dX6_toil_39 : decode cX6_toil 39 = .ok (.iadd, 1) := by decide +kernel
theorem dX6_toil_40 : decode cX6_toil 40 = .ok (.invokevirtual 49, 3) := by decide +kernel
theorem dX6_toil_43 : decode cX6_toil 43 = .ok (.aload_n 0, 1) := by decide +kernel
theorem dX6_toil_44 : decode cX6_toil 44 = .ok (.iload_n 1, 1) := by decide +kernel
theorem dX6_toil_45 : decode cX6_toil 45 = .ok (.iconst 2, 1) := by decide +kernel
theorem dX6_toil_46 : decode cX6_toil 46 = .ok (.bipush 100, 2) := by decide +kernel
theorem dX6_toil_48 : decode cX6_toil 48 = .ok (.aload_n 0, 1) := by decide +kernel
theorem dX6_toil_49 : decode cX6_toil 49 = .ok (.iload_n 1, 1) := by decide +kernel
theorem dX6_toil_50 : decode cX6_toil 50 = .ok (.iconst 2, 1) := by decide +kernel
theorem dX6_toil_51 : decode cX6_toil 51 = .ok (.invokevirtual 60, 3) := by decide +kernel
theorem dX6_toil_54 : decode cX6_toil 54 = .ok (.aload_n 0, 1) := by decide +kernel
theorem dX6_toil_55 : decode cX6_toil 55 = .ok (.iload_n 2, 1) := by decide +kernel
theorem dX6_toil_56 : decode cX6_toil 56 = .ok (.iconst 0, 1) := by decide +kernel
theorem dX6_toil_57 : decode cX6_toil 57 = .ok (.invokevirtual 67, 3) := by decide +kernel
theorem dX6_toil_60 : decode cX6_toil 60 = .ok (.iadd, 1) := by decide +kernel
theorem dX6_toil_61 : decode cX6_toil 61 = .ok (.iconst 1, 1) := by decide +kernel
theorem dX6_toil_62 : decode cX6_toil 62 = .ok (.iadd, 1) := by decide +kernel
theorem dX6_toil_63 : decode cX6_toil 63 = .ok (.invokestatic 73, 3) := by decide +kernel
theorem dX6_toil_66 : decode cX6_toil 66 = .ok (.invokevirtual 49, 3) := by decide +kernel
theorem dX6_toil_69 : decode cX6_toil 69 = .ok (.aload_n 0, 1) := by decide +kernel
theorem dX6_toil_70 : decode cX6_toil 70 = .ok (.iload_n 1, 1) := by decide +kernel
theorem dX6_toil_71 : decode cX6_toil 71 = .ok (.iconst 3, 1) := by decide +kernel
theorem dX6_toil_72 : decode cX6_toil 72 = .ok (.invokevirtual 60, 3) := by decide +kernel
theorem dX6_toil_75 : decode cX6_toil 75 = .ok (.bipush 10, 2) := by decide +kernel
theorem dX6_toil_77 : decode cX6_toil 77 = .ok (.if_icmp .lt 32, 3) := by decide +kernel
theorem dX6_toil_80 : decode cX6_toil 80 = .ok (.aload_n 0, 1) := by decide +kernel
theorem dX6_toil_81 : decode cX6_toil 81 = .ok (.iload_n 2, 1) := by decide +kernel
theorem dX6_toil_82 : decode cX6_toil 82 = .ok (.iconst 2, 1) := by decide +kernel
theorem dX6_toil_83 : decode cX6_toil 83 = .ok (.invokevirtual 67, 3) := by decide +kernel
theorem dX6_toil_86 : decode cX6_toil 86 = .ok (.ifCond .le 23, 3) := by decide +kernel
theorem dX6_toil_89 : decode cX6_toil 89 = .ok (.aload_n 0, 1) := by decide +kernel
theorem dX6_toil_90 : decode cX6_toil 90 = .ok (.getfield 25, 3) := by decide +kernel
theorem dX6_toil_93 : decode cX6_toil 93 = .ok (.iconst 2, 1) := by decide +kernel
theorem dX6_toil_94 : decode cX6_toil 94 = .ok (.iaload, 1) := by decide +kernel
theorem dX6_toil_95 : decode cX6_toil 95 = .ok (.bipush 60, 2) := by decide +kernel
theorem dX6_toil_97 : decode cX6_toil 97 = .ok (.if_icmp .ge 12, 3) := by decide +kernel
theorem dX6_toil_100 : decode cX6_toil 100 = .ok (.aload_n 0, 1) := by decide +kernel
theorem dX6_toil_101 : decode cX6_toil 101 = .ok (.iload_n 1, 1) := by decide +kernel
theorem dX6_toil_102 : decode cX6_toil 102 = .ok (.iload_n 2, 1) := by decide +kernel
theorem dX6_toil_103 : decode cX6_toil 103 = .ok (.invokevirtual 122, 3) := by decide +kernel
theorem dX6_toil_106 : decode cX6_toil 106 = .ok (.goto (-37), 3) := by decide +kernel
theorem dX6_toil_109 : decode cX6_toil 109 = .ok (.return_, 1) := by decide +kernel
set_option maxRecDepth 20000 in
theorem ggX6_breathe_X6_pe : GoodIn wsX6_breathe wsX6_pe := goodIn_r _ [9, 10, 15, 16, 17, 18, 19, 20, 21, 22, 23, 24] (by decide +kernel) (by decide +kernel)
set_option maxRecDepth 20000 in
theorem gX6_breathe_X6_pe : GoodIn wsX6_breathe (wsV RX6 60 RX6 yX6_pe wsX6_pe) := goodIn_app (goodIn_of _ (by decide +kernel)) ggX6_breathe_X6_pe
set_option maxRecDepth 20000 in
theorem ggX6_breathe_X6_put : GoodIn wsX6_breathe wsX6_put := goodIn_r _ [14, 10, 15, 16, 17, 18, 19, 20, 21, 22, 23, 24] (by decide +kernel) (by decide +kernel)
set_option maxRecDepth 20000 in
theorem gX6_breathe_X6_put : GoodIn wsX6_breathe (wsV RX6 49 RX6 yX6_put wsX6_put) := goodIn_app (goodIn_of _ (by decide +kernel)) ggX6_breathe_X6_put
theorem dX6_breathe_0 : decode cX6_breathe 0 = .ok (.aload_n 0, 1) := by decide +kernel
theorem dX6_breathe_1 : decode cX6_breathe 1 = .ok (.iload_n 1, 1) := by decide +kernel
theorem dX6_breathe_2 : decode cX6_breathe 2 = .ok (.iconst 1, 1) := by decide +kernel
theorem dX6_breathe_3 : decode cX6_breathe 3 = .ok (.invokevirtual 60, 3) := by decide +kernel
theorem dX6_breathe_6 : decode cX6_breathe 6 = .ok (.iconst (-1), 1) := by decide +kernel
theorem dX6_breathe_7 : decode cX6_breathe 7 = .ok (.if_icmp .ne 8, 3) := by decide +kernel
theorem dX6_breathe_10 : decode cX6_breathe 10 = .ok (.bipush 7, 2) := by decide +kernel
theorem dX6_breathe_12 : decode cX6_breathe 12 = .ok (.goto 19, 3) := by decide +kernel
theorem dX6_breathe_15 : decode cX6_breathe 15 = .ok (.aload_n 0, 1) := by decide +kernel
theorem dX6_breathe_16 : decode cX6_breathe 16 = .ok (.iload_n 1, 1) := by decide +kernel
theorem dX6_breathe_17 : decode cX6_breathe 17 = .ok (.iconst 2, 1) := by decide +kernel
theorem dX6_breathe_18 : decode cX6_breathe 18 = .ok (.invokevirtual 60, 3) := by decide +kernel
theorem dX6_breathe_21 : decode cX6_breathe 21 = .ok (.bipush 60, 2) := by decide +kernel
theorem dX6_breathe_23 : decode cX6_breathe 23 = .ok (.if_icmp .lt 7, 3) := by decide +kernel
theorem dX6_breathe_26 : decode cX6_breathe 26 = .ok (.iconst 4, 1) := by decide +kernel
theorem dX6_breathe_27 : decode cX6_breathe 27 = .ok (.goto 4, 3) := by decide +kernel
theorem dX6_breathe_30 : decode cX6_breathe 30 = .ok (.iconst 0, 1) := by decide +kernel
theorem dX6_breathe_31 : decode cX6_breathe 31 = .ok (.istore_n 2, 1) := by decide +kernel
theorem dX6_breathe_32 : decode cX6_breathe 32 = .ok (.aload_n 0, 1) := by decide +kernel
theorem dX6_breathe_33 : decode cX6_breathe 33 = .ok (.iload_n 1, 1) := by decide +kernel
theorem dX6_breathe_34 : decode cX6_breathe 34 = .ok (.iconst 2, 1) := by decide +kernel
theorem dX6_breathe_35 : decode cX6_breathe 35 = .ok (.iconst 0, 1) := by decide +kernel
theorem dX6_breathe_36 : decode cX6_breathe 36 = .ok (.aload_n 0, 1) := by decide +kernel
theorem dX6_breathe_37 : decode cX6_breathe 37 = .ok (.iload_n 1, 1) := by decide +kernel
theorem dX6_breathe_38 : decode cX6_breathe 38 = .ok (.iconst 2, 1) := by decide +kernel
theorem dX6_breathe_39 : decode cX6_breathe 39 = .ok (.invokevirtual 60, 3) := by decide +kernel
theorem dX6_breathe_42 : decode cX6_breathe 42 = .ok (.iload_n 2, 1) := by decide +kernel
theorem dX6_breathe_43 : decode cX6_breathe 43 = .ok (.isub, 1) := by decide +kernel
theorem dX6_breathe_44 : decode cX6_breathe 44 = .ok (.invokestatic 119, 3) := by decide +kernel
theorem dX6_breathe_47 : decode cX6_breathe 47 = .ok (.invokevirtual 49, 3) := by decide +kernel
theorem dX6_breathe_50 : decode cX6_breathe 50 = .ok (.return_, 1) := by decide +kernel
set_option maxRecDepth 20000 in
theorem ggX6_dayOn_X6_toil : GoodIn wsX6_dayOn wsX6_toil := goodIn_r _ [10, 11, 12, 13, 14, 2, 15, 16, 17, 9, 18, 19, 20, 21, 22, 23, 24, 25, 26, 27, 28, 29, 30, 31, 32, 3, 33, 34, 35, 53, 54, 55, 56, 57, 58, 59, 60, 61, 62] (by decide +kernel) (by decide +kernel)
set_option maxRecDepth 20000 in
theorem gX6_dayOn_X6_toil : GoodIn wsX6_dayOn (wsV RX6 126 RX6 yX6_toil wsX6_toil) := goodIn_app (goodIn_of _ (by decide +kernel)) ggX6_dayOn_X6_toil
set_option maxRecDepth 20000 in
theorem ggX6_dayOn_X6_breathe : GoodIn wsX6_dayOn wsX6_breathe := goodIn_r _ [39, 33, 34, 13, 35, 15, 16, 17, 9, 18, 19, 20, 21, 22, 23, 53, 54, 55, 56, 57, 58, 59, 60, 61, 62] (by decide +kernel) (by decide +kernel)
set_option maxRecDepth 20000 in
theorem gX6_dayOn_X6_breathe : GoodIn wsX6_dayOn (wsV RX6 130 RX6 yX6_breathe wsX6_breathe) := goodIn_app (goodIn_of _ (by decide +kernel)) ggX6_dayOn_X6_breathe
set_option maxRecDepth 20000 in
theorem ggX6_dayOn_X6_water : GoodIn wsX6_dayOn wsX6_water := goodIn_r _ [43, 44, 2, 53, 54, 55, 56, 57, 58, 59, 60, 61, 62] (by decide +kernel) (by decide +kernel)
set_option maxRecDepth 20000 in
theorem gX6_dayOn_X6_water : GoodIn wsX6_dayOn (wsV RX6 97 RX6 yX6_water wsX6_water) := goodIn_app (goodIn_of _ (by decide +kernel)) ggX6_dayOn_X6_water
set_option maxRecDepth 20000 in
theorem ggX6_dayOn_X6_st : GoodIn wsX6_dayOn wsX6_st := goodIn_r _ [48, 3, 53, 54, 55, 56, 57, 58, 59, 60, 61, 62] (by decide +kernel) (by decide +kernel)
set_option maxRecDepth 20000 in
theorem gX6_dayOn_X6_st : GoodIn wsX6_dayOn (wsV RX6 64 RX6 yX6_st wsX6_st) := goodIn_app (goodIn_of _ (by decide +kernel)) ggX6_dayOn_X6_st
set_option maxRecDepth 20000 in
theorem ggX6_dayOn_X6_isAway : GoodIn wsX6_dayOn wsX6_isAway := goodIn_r _ [52, 5, 53, 54, 55, 56, 57, 58, 59, 60, 61, 62] (by decide +kernel) (by decide +kernel)
set_option maxRecDepth 20000 in
theorem gX6_dayOn_X6_isAway : GoodIn wsX6_dayOn (wsV RX6 88 RX6 yX6_isAway wsX6_isAway) := goodIn_app (goodIn_of _ (by decide +kernel)) ggX6_dayOn_X6_isAway
theorem dX6_dayOn_0 : decode cX6_dayOn 0 = .ok (.iconst 0, 1) := by decide +kernel
theorem dX6_dayOn_1 : decode cX6_dayOn 1 = .ok (.istore_n 1, 1) := by decide +kernel
theorem dX6_dayOn_2 : decode cX6_dayOn 2 = .ok (.iload_n 1, 1) := by decide +kernel
theorem dX6_dayOn_3 : decode cX6_dayOn 3 = .ok (.aload_n 0, 1) := by decide +kernel
theorem dX6_dayOn_4 : decode cX6_dayOn 4 = .ok (.getfield 39, 3) := by decide +kernel
theorem dX6_dayOn_7 : decode cX6_dayOn 7 = .ok (.if_icmp .ge 14, 3) := by decide +kernel
theorem dX6_dayOn_10 : decode cX6_dayOn 10 = .ok (.aload_n 0, 1) := by decide +kernel
theorem dX6_dayOn_11 : decode cX6_dayOn 11 = .ok (.iload_n 1, 1) := by decide +kernel
theorem dX6_dayOn_12 : decode cX6_dayOn 12 = .ok (.invokevirtual 126, 3) := by decide +kernel
theorem dX6_dayOn_15 : decode cX6_dayOn 15 = .ok (.iinc 1 1, 3) := by decide +kernel
theorem dX6_dayOn_18 : decode cX6_dayOn 18 = .ok (.goto (-16), 3) := by decide +kernel
theorem dX6_dayOn_21 : decode cX6_dayOn 21 = .ok (.iconst 0, 1) := by decide +kernel
theorem dX6_dayOn_22 : decode cX6_dayOn 22 = .ok (.istore_n 1, 1) := by decide +kernel
theorem dX6_dayOn_23 : decode cX6_dayOn 23 = .ok (.iload_n 1, 1) := by decide +kernel
theorem dX6_dayOn_24 : decode cX6_dayOn 24 = .ok (.aload_n 0, 1) := by decide +kernel
theorem dX6_dayOn_25 : decode cX6_dayOn 25 = .ok (.getfield 39, 3) := by decide +kernel
theorem dX6_dayOn_28 : decode cX6_dayOn 28 = .ok (.if_icmp .ge 14, 3) := by decide +kernel
theorem dX6_dayOn_31 : decode cX6_dayOn 31 = .ok (.aload_n 0, 1) := by decide +kernel
theorem dX6_dayOn_32 : decode cX6_dayOn 32 = .ok (.iload_n 1, 1) := by decide +kernel
theorem dX6_dayOn_33 : decode cX6_dayOn 33 = .ok (.invokevirtual 130, 3) := by decide +kernel
theorem dX6_dayOn_36 : decode cX6_dayOn 36 = .ok (.iinc 1 1, 3) := by decide +kernel
theorem dX6_dayOn_39 : decode cX6_dayOn 39 = .ok (.goto (-16), 3) := by decide +kernel
theorem dX6_dayOn_42 : decode cX6_dayOn 42 = .ok (.aload_n 0, 1) := by decide +kernel
theorem dX6_dayOn_43 : decode cX6_dayOn 43 = .ok (.invokevirtual 97, 3) := by decide +kernel
theorem dX6_dayOn_46 : decode cX6_dayOn 46 = .ok (.iconst 2, 1) := by decide +kernel
theorem dX6_dayOn_47 : decode cX6_dayOn 47 = .ok (.if_icmp .le 12, 3) := by decide +kernel
theorem dX6_dayOn_50 : decode cX6_dayOn 50 = .ok (.aload_n 0, 1) := by decide +kernel
theorem dX6_dayOn_51 : decode cX6_dayOn 51 = .ok (.invokevirtual 97, 3) := by decide +kernel
theorem dX6_dayOn_54 : decode cX6_dayOn 54 = .ok (.iconst 2, 1) := by decide +kernel
theorem dX6_dayOn_55 : decode cX6_dayOn 55 = .ok (.idiv, 1) := by decide +kernel
theorem dX6_dayOn_56 : decode cX6_dayOn 56 = .ok (.goto 4, 3) := by decide +kernel
theorem dX6_dayOn_59 : decode cX6_dayOn 59 = .ok (.iconst 0, 1) := by decide +kernel
theorem dX6_dayOn_60 : decode cX6_dayOn 60 = .ok (.istore_n 1, 1) := by decide +kernel
theorem dX6_dayOn_61 : decode cX6_dayOn 61 = .ok (.iconst 0, 1) := by decide +kernel
theorem dX6_dayOn_62 : decode cX6_dayOn 62 = .ok (.istore_n 2, 1) := by decide +kernel
theorem dX6_dayOn_63 : decode cX6_dayOn 63 = .ok (.iload_n 2, 1) := by decide +kernel
theorem dX6_dayOn_64 : decode cX6_dayOn 64 = .ok (.aload_n 0, 1) := by decide +kernel
theorem dX6_dayOn_65 : decode cX6_dayOn 65 = .ok (.getfield 25, 3) := by decide +kernel
theorem dX6_dayOn_68 : decode cX6_dayOn 68 = .ok (.iconst 2, 1) := by decide +kernel
theorem dX6_dayOn_69 : decode cX6_dayOn 69 = .ok (.iaload, 1) := by decide +kernel
theorem dX6_dayOn_70 : decode cX6_dayOn 70 = .ok (.if_icmp .ge 39, 3) := by decide +kernel
theorem dX6_dayOn_73 : decode cX6_dayOn 73 = .ok (.iload_n 1, 1) := by decide +kernel
theorem dX6_dayOn_74 : decode cX6_dayOn 74 = .ok (.ifCond .le 35, 3) := by decide +kernel
theorem dX6_dayOn_77 : decode cX6_dayOn 77 = .ok (.aload_n 0, 1) := by decide +kernel
theorem dX6_dayOn_78 : decode cX6_dayOn 78 = .ok (.iload_n 2, 1) := by decide +kernel
theorem dX6_dayOn_79 : decode cX6_dayOn 79 = .ok (.iconst 2, 1) := by decide +kernel
theorem dX6_dayOn_80 : decode cX6_dayOn 80 = .ok (.invokevirtual 64, 3) := by decide +kernel
theorem dX6_dayOn_83 : decode cX6_dayOn 83 = .ok (.ifCond .eq 6, 3) := by decide +kernel
theorem dX6_dayOn_86 : decode cX6_dayOn 86 = .ok (.goto 17, 3) := by decide +kernel
theorem dX6_dayOn_89 : decode cX6_dayOn 89 = .ok (.aload_n 0, 1) := by decide +kernel
theorem dX6_dayOn_90 : decode cX6_dayOn 90 = .ok (.getfield 19, 3) := by decide +kernel
theorem dX6_dayOn_93 : decode cX6_dayOn 93 = .ok (.iconst 5, 1) := by decide +kernel
theorem dX6_dayOn_94 : decode cX6_dayOn 94 = .ok (.iload_n 2, 1) := by decide +kernel
theorem dX6_dayOn_95 : decode cX6_dayOn 95 = .ok (.imul, 1) := by decide +kernel
theorem dX6_dayOn_96 : decode cX6_dayOn 96 = .ok (.iconst 2, 1) := by decide +kernel
theorem dX6_dayOn_97 : decode cX6_dayOn 97 = .ok (.iadd, 1) := by decide +kernel
theorem dX6_dayOn_98 : decode cX6_dayOn 98 = .ok (.iconst 1, 1) := by decide +kernel
theorem dX6_dayOn_99 : decode cX6_dayOn 99 = .ok (.iastore, 1) := by decide +kernel
theorem dX6_dayOn_100 : decode cX6_dayOn 100 = .ok (.iinc 1 (-1), 3) := by decide +kernel
theorem dX6_dayOn_103 : decode cX6_dayOn 103 = .ok (.iinc 2 1, 3) := by decide +kernel
theorem dX6_dayOn_106 : decode cX6_dayOn 106 = .ok (.goto (-43), 3) := by decide +kernel
theorem dX6_dayOn_109 : decode cX6_dayOn 109 = .ok (.iconst 0, 1) := by decide +kernel
theorem dX6_dayOn_110 : decode cX6_dayOn 110 = .ok (.istore_n 2, 1) := by decide +kernel
theorem dX6_dayOn_111 : decode cX6_dayOn 111 = .ok (.iload_n 2, 1) := by decide +kernel
theorem dX6_dayOn_112 : decode cX6_dayOn 112 = .ok (.aload_n 0, 1) := by decide +kernel
theorem dX6_dayOn_113 : decode cX6_dayOn 113 = .ok (.getfield 42, 3) := by decide +kernel
theorem dX6_dayOn_116 : decode cX6_dayOn 116 = .ok (.if_icmp .ge 49, 3) := by decide +kernel
theorem dX6_dayOn_119 : decode cX6_dayOn 119 = .ok (.aload_n 0, 1) := by decide +kernel
theorem dX6_dayOn_120 : decode cX6_dayOn 120 = .ok (.iload_n 2, 1) := by decide +kernel
theorem dX6_dayOn_121 : decode cX6_dayOn 121 = .ok (.invokevirtual 88, 3) := by decide +kernel
theorem dX6_dayOn_124 : decode cX6_dayOn 124 = .ok (.ifCond .eq 35, 3) := by decide +kernel
theorem dX6_dayOn_127 : decode cX6_dayOn 127 = .ok (.aload_n 0, 1) := by decide +kernel
theorem dX6_dayOn_128 : decode cX6_dayOn 128 = .ok (.getfield 22, 3) := by decide +kernel
theorem dX6_dayOn_131 : decode cX6_dayOn 131 = .ok (.iconst 2, 1) := by decide +kernel
theorem dX6_dayOn_132 : decode cX6_dayOn 132 = .ok (.iload_n 2, 1) := by decide +kernel
theorem dX6_dayOn_133 : decode cX6_dayOn 133 = .ok (.imul, 1) := by decide +kernel
theorem dX6_dayOn_134 : decode cX6_dayOn 134 = .ok (.iconst 1, 1) := by decide +kernel
theorem dX6_dayOn_135 : decode cX6_dayOn 135 = .ok (.iadd, 1) := by decide +kernel
theorem dX6_dayOn_136 : decode cX6_dayOn 136 = .ok (.iaload, 1) := by decide +kernel
theorem dX6_dayOn_137 : decode cX6_dayOn 137 = .ok (.aload_n 0, 1) := by decide +kernel
theorem dX6_dayOn_138 : decode cX6_dayOn 138 = .ok (.getfield 25, 3) := by decide +kernel
theorem dX6_dayOn_141 : decode cX6_dayOn 141 = .ok (.iconst 0, 1) := by decide +kernel
theorem dX6_dayOn_142 : decode cX6_dayOn 142 = .ok (.iaload, 1) := by decide +kernel
theorem dX6_dayOn_143 : decode cX6_dayOn 143 = .ok (.iconst 3, 1) := by decide +kernel
theorem dX6_dayOn_144 : decode cX6_dayOn 144 = .ok (.isub, 1) := by decide +kernel
theorem dX6_dayOn_145 : decode cX6_dayOn 145 = .ok (.if_icmp .ne 14, 3) := by decide +kernel
theorem dX6_dayOn_148 : decode cX6_dayOn 148 = .ok (.aload_n 0, 1) := by decide +kernel
theorem dX6_dayOn_149 : decode cX6_dayOn 149 = .ok (.getfield 22, 3) := by decide +kernel
theorem dX6_dayOn_152 : decode cX6_dayOn 152 = .ok (.iconst 2, 1) := by decide +kernel
theorem dX6_dayOn_153 : decode cX6_dayOn 153 = .ok (.iload_n 2, 1) := by decide +kernel
theorem dX6_dayOn_154 : decode cX6_dayOn 154 = .ok (.imul, 1) := by decide +kernel
theorem dX6_dayOn_155 : decode cX6_dayOn 155 = .ok (.iconst 1, 1) := by decide +kernel
theorem dX6_dayOn_156 : decode cX6_dayOn 156 = .ok (.iadd, 1) := by decide +kernel
theorem dX6_dayOn_157 : decode cX6_dayOn 157 = .ok (.iconst (-1), 1) := by decide +kernel
theorem dX6_dayOn_158 : decode cX6_dayOn 158 = .ok (.iastore, 1) := by decide +kernel
theorem dX6_dayOn_159 : decode cX6_dayOn 159 = .ok (.iinc 2 1, 3) := by decide +kernel
theorem dX6_dayOn_162 : decode cX6_dayOn 162 = .ok (.goto (-51), 3) := by decide +kernel
theorem dX6_dayOn_165 : decode cX6_dayOn 165 = .ok (.aload_n 0, 1) := by decide +kernel
theorem dX6_dayOn_166 : decode cX6_dayOn 166 = .ok (.getfield 25, 3) := by decide +kernel
theorem dX6_dayOn_169 : decode cX6_dayOn 169 = .ok (.iconst 0, 1) := by decide +kernel
theorem dX6_dayOn_170 : decode cX6_dayOn 170 = .ok (.dup2, 1) := by decide +kernel
theorem dX6_dayOn_171 : decode cX6_dayOn 171 = .ok (.iaload, 1) := by decide +kernel
theorem dX6_dayOn_172 : decode cX6_dayOn 172 = .ok (.iconst 1, 1) := by decide +kernel
theorem dX6_dayOn_173 : decode cX6_dayOn 173 = .ok (.iadd, 1) := by decide +kernel
theorem dX6_dayOn_174 : decode cX6_dayOn 174 = .ok (.iastore, 1) := by decide +kernel
theorem dX6_dayOn_175 : decode cX6_dayOn 175 = .ok (.return_, 1) := by decide +kernel
set_option maxRecDepth 20000 in
theorem ggX6_daysOn_X6_dayOn : GoodIn wsX6_daysOn wsX6_dayOn := goodIn_r _ [6, 7, 1, 8, 9, 10, 11, 12, 13, 5, 14, 15, 16, 17, 18, 19, 20, 21, 22, 23, 24, 25, 26, 27, 28, 29, 30, 31, 32, 33, 34, 35, 36, 37, 38, 39, 40, 41, 42, 43, 44, 45, 46, 47, 48, 49, 50, 51, 52, 53, 54, 55, 56, 57, 58, 59, 60, 61, 62, 63, 64, 65, 66] (by decide +kernel) (by decide +kernel)
set_option maxRecDepth 20000 in
theorem gX6_daysOn_X6_dayOn : GoodIn wsX6_daysOn (wsV RX6 133 RX6 yX6_dayOn wsX6_dayOn) := goodIn_app (goodIn_of _ (by decide +kernel)) ggX6_daysOn_X6_dayOn
theorem dX6_daysOn_0 : decode cX6_daysOn 0 = .ok (.aload_n 0, 1) := by decide +kernel
theorem dX6_daysOn_1 : decode cX6_daysOn 1 = .ok (.getfield 25, 3) := by decide +kernel
theorem dX6_daysOn_4 : decode cX6_daysOn 4 = .ok (.iconst 2, 1) := by decide +kernel
theorem dX6_daysOn_5 : decode cX6_daysOn 5 = .ok (.iaload, 1) := by decide +kernel
theorem dX6_daysOn_6 : decode cX6_daysOn 6 = .ok (.istore_n 2, 1) := by decide +kernel
theorem dX6_daysOn_7 : decode cX6_daysOn 7 = .ok (.iconst 0, 1) := by decide +kernel
theorem dX6_daysOn_8 : decode cX6_daysOn 8 = .ok (.istore_n 3, 1) := by decide +kernel
theorem dX6_daysOn_9 : decode cX6_daysOn 9 = .ok (.iload_n 3, 1) := by decide +kernel
theorem dX6_daysOn_10 : decode cX6_daysOn 10 = .ok (.iload_n 1, 1) := by decide +kernel
theorem dX6_daysOn_11 : decode cX6_daysOn 11 = .ok (.if_icmp .ge 13, 3) := by decide +kernel
theorem dX6_daysOn_14 : decode cX6_daysOn 14 = .ok (.aload_n 0, 1) := by decide +kernel
theorem dX6_daysOn_15 : decode cX6_daysOn 15 = .ok (.invokevirtual 133, 3) := by decide +kernel
theorem dX6_daysOn_18 : decode cX6_daysOn 18 = .ok (.iinc 3 1, 3) := by decide +kernel
theorem dX6_daysOn_21 : decode cX6_daysOn 21 = .ok (.goto (-12), 3) := by decide +kernel
theorem dX6_daysOn_24 : decode cX6_daysOn 24 = .ok (.aload_n 0, 1) := by decide +kernel
theorem dX6_daysOn_25 : decode cX6_daysOn 25 = .ok (.getfield 25, 3) := by decide +kernel
theorem dX6_daysOn_28 : decode cX6_daysOn 28 = .ok (.iconst 2, 1) := by decide +kernel
theorem dX6_daysOn_29 : decode cX6_daysOn 29 = .ok (.iaload, 1) := by decide +kernel
theorem dX6_daysOn_30 : decode cX6_daysOn 30 = .ok (.iload_n 2, 1) := by decide +kernel
theorem dX6_daysOn_31 : decode cX6_daysOn 31 = .ok (.isub, 1) := by decide +kernel
theorem dX6_daysOn_32 : decode cX6_daysOn 32 = .ok (.ireturn, 1) := by decide +kernel
set_option maxRecDepth 20000 in
theorem ggX6_pass_X6_isIn : GoodIn wsX6_pass wsX6_isIn := goodIn_r _ [5] (by decide +kernel) (by decide +kernel)
set_option maxRecDepth 20000 in
theorem gX6_pass_X6_isIn : GoodIn wsX6_pass (va_wsS RX6 35 yX6_isIn wsX6_isIn) := goodIn_app (goodIn_of _ (by decide +kernel)) ggX6_pass_X6_isIn
set_option maxRecDepth 20000 in
theorem ggX6_pass_X6_daysOn : GoodIn wsX6_pass wsX6_daysOn := goodIn_r _ [9, 10, 11, 12, 13, 4, 14, 15, 16, 17, 18, 19, 20, 21, 22, 23, 24, 25, 26, 27, 28, 29, 30, 31, 32, 33, 34, 35, 36, 37, 38, 39, 40, 41, 42, 43, 44, 45, 46, 47, 48, 49, 50, 51, 52, 53, 54, 55, 56, 57, 58, 59, 60, 61, 62, 63, 64, 69, 70, 71, 72, 73, 74, 75, 76, 77, 78] (by decide +kernel) (by decide +kernel)
set_option maxRecDepth 20000 in
theorem gX6_pass_X6_daysOn : GoodIn wsX6_pass (wsV RX6 136 RX6 yX6_daysOn wsX6_daysOn) := goodIn_app (goodIn_of _ (by decide +kernel)) ggX6_pass_X6_daysOn
set_option maxRecDepth 20000 in
theorem ggX6_pass_X6_fail : GoodIn wsX6_pass wsX6_fail := goodIn_r _ [68, 1, 69, 70, 71, 72, 73, 74, 75, 76, 77, 78] (by decide +kernel) (by decide +kernel)
set_option maxRecDepth 20000 in
theorem gX6_pass_X6_fail : GoodIn wsX6_pass (wsV RX6 45 RX6 yX6_fail wsX6_fail) := goodIn_app (goodIn_of _ (by decide +kernel)) ggX6_pass_X6_fail
theorem dX6_pass_0 : decode cX6_pass 0 = .ok (.aload_n 0, 1) := by decide +kernel
theorem dX6_pass_1 : decode cX6_pass 1 = .ok (.iconst 0, 1) := by decide +kernel
theorem dX6_pass_2 : decode cX6_pass 2 = .ok (.putfield 28, 3) := by decide +kernel
theorem dX6_pass_5 : decode cX6_pass 5 = .ok (.iload_n 1, 1) := by decide +kernel
theorem dX6_pass_6 : decode cX6_pass 6 = .ok (.iconst 1, 1) := by decide +kernel
theorem dX6_pass_7 : decode cX6_pass 7 = .ok (.bipush 40, 2) := by decide +kernel
theorem dX6_pass_9 : decode cX6_pass 9 = .ok (.invokestatic 35, 3) := by decide +kernel
theorem dX6_pass_12 : decode cX6_pass 12 = .ok (.ifCond .eq 11, 3) := by decide +kernel
theorem dX6_pass_15 : decode cX6_pass 15 = .ok (.aload_n 0, 1) := by decide +kernel
theorem dX6_pass_16 : decode cX6_pass 16 = .ok (.iload_n 1, 1) := by decide +kernel
theorem dX6_pass_17 : decode cX6_pass 17 = .ok (.invokevirtual 136, 3) := by decide +kernel
theorem dX6_pass_20 : decode cX6_pass 20 = .ok (.goto 8, 3) := by decide +kernel
theorem dX6_pass_23 : decode cX6_pass 23 = .ok (.aload_n 0, 1) := by decide +kernel
theorem dX6_pass_24 : decode cX6_pass 24 = .ok (.iconst 1, 1) := by decide +kernel
theorem dX6_pass_25 : decode cX6_pass 25 = .ok (.invokevirtual 45, 3) := by decide +kernel
theorem dX6_pass_28 : decode cX6_pass 28 = .ok (.ireturn, 1) := by decide +kernel
theorem dX6_kept_0 : decode cX6_kept 0 = .ok (.iconst 5, 1) := by decide +kernel
theorem dX6_kept_1 : decode cX6_kept 1 = .ok (.anewarray 139, 3) := by decide +kernel
theorem dX6_kept_4 : decode cX6_kept 4 = .ok (.dup, 1) := by decide +kernel
theorem dX6_kept_5 : decode cX6_kept 5 = .ok (.iconst 0, 1) := by decide +kernel
theorem dX6_kept_6 : decode cX6_kept 6 = .ok (.aload_n 0, 1) := by decide +kernel
theorem dX6_kept_7 : decode cX6_kept 7 = .ok (.getfield 13, 3) := by decide +kernel
theorem dX6_kept_10 : decode cX6_kept 10 = .ok (.invokevirtual 140, 3) := by decide +kernel
theorem dX6_kept_13 : decode cX6_kept 13 = .ok (.checkcast 139, 3) := by decide +kernel
theorem dX6_kept_16 : decode cX6_kept 16 = .ok (.aastore, 1) := by decide +kernel
theorem dX6_kept_17 : decode cX6_kept 17 = .ok (.dup, 1) := by decide +kernel
theorem dX6_kept_18 : decode cX6_kept 18 = .ok (.iconst 1, 1) := by decide +kernel
theorem dX6_kept_19 : decode cX6_kept 19 = .ok (.aload_n 0, 1) := by decide +kernel
theorem dX6_kept_20 : decode cX6_kept 20 = .ok (.getfield 16, 3) := by decide +kernel
theorem dX6_kept_23 : decode cX6_kept 23 = .ok (.invokevirtual 140, 3) := by decide +kernel
theorem dX6_kept_26 : decode cX6_kept 26 = .ok (.checkcast 139, 3) := by decide +kernel
theorem dX6_kept_29 : decode cX6_kept 29 = .ok (.aastore, 1) := by decide +kernel
theorem dX6_kept_30 : decode cX6_kept 30 = .ok (.dup, 1) := by decide +kernel
theorem dX6_kept_31 : decode cX6_kept 31 = .ok (.iconst 2, 1) := by decide +kernel
theorem dX6_kept_32 : decode cX6_kept 32 = .ok (.aload_n 0, 1) := by decide +kernel
theorem dX6_kept_33 : decode cX6_kept 33 = .ok (.getfield 19, 3) := by decide +kernel
theorem dX6_kept_36 : decode cX6_kept 36 = .ok (.invokevirtual 140, 3) := by decide +kernel
theorem dX6_kept_39 : decode cX6_kept 39 = .ok (.checkcast 139, 3) := by decide +kernel
theorem dX6_kept_42 : decode cX6_kept 42 = .ok (.aastore, 1) := by decide +kernel
theorem dX6_kept_43 : decode cX6_kept 43 = .ok (.dup, 1) := by decide +kernel
theorem dX6_kept_44 : decode cX6_kept 44 = .ok (.iconst 3, 1) := by decide +kernel
theorem dX6_kept_45 : decode cX6_kept 45 = .ok (.aload_n 0, 1) := by decide +kernel
theorem dX6_kept_46 : decode cX6_kept 46 = .ok (.getfield 22, 3) := by decide +kernel
theorem dX6_kept_49 : decode cX6_kept 49 = .ok (.invokevirtual 140, 3) := by decide +kernel
theorem dX6_kept_52 : decode cX6_kept 52 = .ok (.checkcast 139, 3) := by decide +kernel
theorem dX6_kept_55 : decode cX6_kept 55 = .ok (.aastore, 1) := by decide +kernel
theorem dX6_kept_56 : decode cX6_kept 56 = .ok (.dup, 1) := by decide +kernel
theorem dX6_kept_57 : decode cX6_kept 57 = .ok (.iconst 4, 1) := by decide +kernel
theorem dX6_kept_58 : decode cX6_kept 58 = .ok (.aload_n 0, 1) := by decide +kernel
theorem dX6_kept_59 : decode cX6_kept 59 = .ok (.getfield 25, 3) := by decide +kernel
theorem dX6_kept_62 : decode cX6_kept 62 = .ok (.invokevirtual 140, 3) := by decide +kernel
theorem dX6_kept_65 : decode cX6_kept 65 = .ok (.checkcast 139, 3) := by decide +kernel
theorem dX6_kept_68 : decode cX6_kept 68 = .ok (.aastore, 1) := by decide +kernel
theorem dX6_kept_69 : decode cX6_kept 69 = .ok (.areturn, 1) := by decide +kernel
theorem dX6_bringBack_0 : decode cX6_bringBack 0 = .ok (.iconst 5, 1) := by decide +kernel
theorem dX6_bringBack_1 : decode cX6_bringBack 1 = .ok (.anewarray 139, 3) := by decide +kernel
theorem dX6_bringBack_4 : decode cX6_bringBack 4 = .ok (.dup, 1) := by decide +kernel
theorem dX6_bringBack_5 : decode cX6_bringBack 5 = .ok (.iconst 0, 1) := by decide +kernel
theorem dX6_bringBack_6 : decode cX6_bringBack 6 = .ok (.aload_n 0, 1) := by decide +kernel
theorem dX6_bringBack_7 : decode cX6_bringBack 7 = .ok (.getfield 13, 3) := by decide +kernel
theorem dX6_bringBack_10 : decode cX6_bringBack 10 = .ok (.aastore, 1) := by decide +kernel
theorem dX6_bringBack_11 : decode cX6_bringBack 11 = .ok (.dup, 1) := by decide +kernel
theorem dX6_bringBack_12 : decode cX6_bringBack 12 = .ok (.iconst 1, 1) := by decide +kernel
theorem dX6_bringBack_13 : decode cX6_bringBack 13 = .ok (.aload_n 0, 1) := by decide +kernel
theorem dX6_bringBack_14 : decode cX6_bringBack 14 = .ok (.getfield 16, 3) := by decide +kernel
theorem dX6_bringBack_17 : decode cX6_bringBack 17 = .ok (.aastore, 1) := by decide +kernel
theorem dX6_bringBack_18 : decode cX6_bringBack 18 = .ok (.dup, 1) := by decide +kernel
theorem dX6_bringBack_19 : decode cX6_bringBack 19 = .ok (.iconst 2, 1) := by decide +kernel
theorem dX6_bringBack_20 : decode cX6_bringBack 20 = .ok (.aload_n 0, 1) := by decide +kernel
theorem dX6_bringBack_21 : decode cX6_bringBack 21 = .ok (.getfield 19, 3) := by decide +kernel
theorem dX6_bringBack_24 : decode cX6_bringBack 24 = .ok (.aastore, 1) := by decide +kernel
theorem dX6_bringBack_25 : decode cX6_bringBack 25 = .ok (.dup, 1) := by decide +kernel
theorem dX6_bringBack_26 : decode cX6_bringBack 26 = .ok (.iconst 3, 1) := by decide +kernel
theorem dX6_bringBack_27 : decode cX6_bringBack 27 = .ok (.aload_n 0, 1) := by decide +kernel
theorem dX6_bringBack_28 : decode cX6_bringBack 28 = .ok (.getfield 22, 3) := by decide +kernel
theorem dX6_bringBack_31 : decode cX6_bringBack 31 = .ok (.aastore, 1) := by decide +kernel
theorem dX6_bringBack_32 : decode cX6_bringBack 32 = .ok (.dup, 1) := by decide +kernel
theorem dX6_bringBack_33 : decode cX6_bringBack 33 = .ok (.iconst 4, 1) := by decide +kernel
theorem dX6_bringBack_34 : decode cX6_bringBack 34 = .ok (.aload_n 0, 1) := by decide +kernel
theorem dX6_bringBack_35 : decode cX6_bringBack 35 = .ok (.getfield 25, 3) := by decide +kernel
theorem dX6_bringBack_38 : decode cX6_bringBack 38 = .ok (.aastore, 1) := by decide +kernel
theorem dX6_bringBack_39 : decode cX6_bringBack 39 = .ok (.astore_n 2, 1) := by decide +kernel
theorem dX6_bringBack_40 : decode cX6_bringBack 40 = .ok (.iconst 0, 1) := by decide +kernel
theorem dX6_bringBack_41 : decode cX6_bringBack 41 = .ok (.istore_n 3, 1) := by decide +kernel
theorem dX6_bringBack_42 : decode cX6_bringBack 42 = .ok (.iload_n 3, 1) := by decide +kernel
theorem dX6_bringBack_43 : decode cX6_bringBack 43 = .ok (.aload_n 2, 1) := by decide +kernel
theorem dX6_bringBack_44 : decode cX6_bringBack 44 = .ok (.arraylength, 1) := by decide +kernel
theorem dX6_bringBack_45 : decode cX6_bringBack 45 = .ok (.if_icmp .ge 24, 3) := by decide +kernel
theorem dX6_bringBack_48 : decode cX6_bringBack 48 = .ok (.aload_n 1, 1) := by decide +kernel
theorem dX6_bringBack_49 : decode cX6_bringBack 49 = .ok (.iload_n 3, 1) := by decide +kernel
theorem dX6_bringBack_50 : decode cX6_bringBack 50 = .ok (.aaload, 1) := by decide +kernel
theorem dX6_bringBack_51 : decode cX6_bringBack 51 = .ok (.iconst 0, 1) := by decide +kernel
theorem dX6_bringBack_52 : decode cX6_bringBack 52 = .ok (.aload_n 2, 1) := by decide +kernel
theorem dX6_bringBack_53 : decode cX6_bringBack 53 = .ok (.iload_n 3, 1) := by decide +kernel
theorem dX6_bringBack_54 : decode cX6_bringBack 54 = .ok (.aaload, 1) := by decide +kernel
theorem dX6_bringBack_55 : decode cX6_bringBack 55 = .ok (.iconst 0, 1) := by decide +kernel
theorem dX6_bringBack_56 : decode cX6_bringBack 56 = .ok (.aload_n 2, 1) := by decide +kernel
theorem dX6_bringBack_57 : decode cX6_bringBack 57 = .ok (.iload_n 3, 1) := by decide +kernel
theorem dX6_bringBack_58 : decode cX6_bringBack 58 = .ok (.aaload, 1) := by decide +kernel
theorem dX6_bringBack_59 : decode cX6_bringBack 59 = .ok (.arraylength, 1) := by decide +kernel
theorem dX6_bringBack_60 : decode cX6_bringBack 60 = .ok (.invokestatic 144, 3) := by decide +kernel
theorem dX6_bringBack_63 : decode cX6_bringBack 63 = .ok (.iinc 3 1, 3) := by decide +kernel
theorem dX6_bringBack_66 : decode cX6_bringBack 66 = .ok (.goto (-24), 3) := by decide +kernel
theorem dX6_bringBack_69 : decode cX6_bringBack 69 = .ok (.return_, 1) := by decide +kernel
set_option maxRecDepth 20000 in
theorem ggX6_foresee_X6_isIn : GoodIn wsX6_foresee wsX6_isIn := goodIn_r _ [5] (by decide +kernel) (by decide +kernel)
set_option maxRecDepth 20000 in
theorem gX6_foresee_X6_isIn : GoodIn wsX6_foresee (va_wsS RX6 35 yX6_isIn wsX6_isIn) := goodIn_app (goodIn_of _ (by decide +kernel)) ggX6_foresee_X6_isIn
set_option maxRecDepth 20000 in
theorem ggX6_foresee_X6_fail : GoodIn wsX6_foresee wsX6_fail := goodIn_r _ [9, 1, 91, 92, 93, 94, 95, 96, 97, 98, 99, 100] (by decide +kernel) (by decide +kernel)
set_option maxRecDepth 20000 in
theorem gX6_foresee_X6_fail : GoodIn wsX6_foresee (wsV RX6 45 RX6 yX6_fail wsX6_fail) := goodIn_app (goodIn_of _ (by decide +kernel)) ggX6_foresee_X6_fail
set_option maxRecDepth 20000 in
theorem ggX6_foresee_X6_kept : GoodIn wsX6_foresee wsX6_kept := goodIn_r _ [13, 14, 15, 16, 17, 18, 19, 20, 21, 22, 23, 24, 91, 92, 93, 94, 95, 96, 97, 98, 99, 100] (by decide +kernel) (by decide +kernel)
set_option maxRecDepth 20000 in
theorem gX6_foresee_X6_kept : GoodIn wsX6_foresee (wsV RX6 150 RX6 yX6_kept wsX6_kept) := goodIn_app (goodIn_of _ (by decide +kernel)) ggX6_foresee_X6_kept
set_option maxRecDepth 20000 in
theorem ggX6_foresee_X6_daysOn : GoodIn wsX6_foresee wsX6_daysOn := goodIn_r _ [28, 24, 29, 30, 31, 4, 32, 33, 22, 34, 23, 35, 36, 37, 38, 39, 40, 41, 42, 43, 44, 45, 46, 21, 47, 48, 49, 50, 51, 52, 53, 54, 15, 55, 56, 57, 58, 59, 60, 61, 62, 63, 64, 65, 66, 67, 68, 69, 70, 71, 72, 73, 74, 75, 76, 77, 78, 91, 92, 93, 94, 95, 96, 97, 98, 99, 100] (by decide +kernel) (by decide +kernel)
set_option maxRecDepth 20000 in
theorem gX6_foresee_X6_daysOn : GoodIn wsX6_foresee (wsV RX6 136 RX6 yX6_daysOn wsX6_daysOn) := goodIn_app (goodIn_of _ (by decide +kernel)) ggX6_foresee_X6_daysOn
set_option maxRecDepth 20000 in
theorem ggX6_foresee_X6_counted : GoodIn wsX6_foresee wsX6_counted := goodIn_r _ [82, 24, 33, 66, 67, 68, 4, 69, 70, 43, 44, 45, 46, 21, 71, 72, 73, 74, 22, 91, 92, 93, 94, 95, 96, 97, 98, 99, 100] (by decide +kernel) (by decide +kernel)
set_option maxRecDepth 20000 in
theorem gX6_foresee_X6_counted : GoodIn wsX6_foresee (wsV RX6 116 RX6 yX6_counted wsX6_counted) := goodIn_app (goodIn_of _ (by decide +kernel)) ggX6_foresee_X6_counted
set_option maxRecDepth 20000 in
theorem ggX6_foresee_X6_bringBack : GoodIn wsX6_foresee wsX6_bringBack := goodIn_r _ [86, 14, 15, 21, 22, 23, 24, 87, 88, 89, 90, 91, 92, 93, 94, 95, 96, 97, 98, 99, 100] (by decide +kernel) (by decide +kernel)
set_option maxRecDepth 20000 in
theorem gX6_foresee_X6_bringBack : GoodIn wsX6_foresee (wsV RX6 154 RX6 yX6_bringBack wsX6_bringBack) := goodIn_app (goodIn_of _ (by decide +kernel)) ggX6_foresee_X6_bringBack
theorem dX6_foresee_0 : decode cX6_foresee 0 = .ok (.aload_n 0, 1) := by decide +kernel
theorem dX6_foresee_1 : decode cX6_foresee 1 = .ok (.iconst 0, 1) := by decide +kernel
theorem dX6_foresee_2 : decode cX6_foresee 2 = .ok (.putfield 28, 3) := by decide +kernel
theorem dX6_foresee_5 : decode cX6_foresee 5 = .ok (.iload_n 1, 1) := by decide +kernel
theorem dX6_foresee_6 : decode cX6_foresee 6 = .ok (.iconst 1, 1) := by decide +kernel
theorem dX6_foresee_7 : decode cX6_foresee 7 = .ok (.bipush 40, 2) := by decide +kernel
theorem dX6_foresee_9 : decode cX6_foresee 9 = .ok (.invokestatic 35, 3) := by decide +kernel
theorem dX6_foresee_12 : decode cX6_foresee 12 = .ok (.ifCond .ne 9, 3) := by decide +kernel
theorem dX6_foresee_15 : decode cX6_foresee 15 = .ok (.aload_n 0, 1) := by decide +kernel
theorem dX6_foresee_16 : decode cX6_foresee 16 = .ok (.iconst 1, 1) := by decide +kernel
theorem dX6_foresee_17 : decode cX6_foresee 17 = .ok (.invokevirtual 45, 3) := by decide +kernel
theorem dX6_foresee_20 : decode cX6_foresee 20 = .ok (.ireturn, 1) := by decide +kernel
theorem dX6_foresee_21 : decode cX6_foresee 21 = .ok (.iload_n 2, 1) := by decide +kernel
theorem dX6_foresee_22 : decode cX6_foresee 22 = .ok (.iconst 3, 1) := by decide +kernel
theorem dX6_foresee_23 : decode cX6_foresee 23 = .ok (.iconst 5, 1) := by decide +kernel
theorem dX6_foresee_24 : decode cX6_foresee 24 = .ok (.invokestatic 35, 3) := by decide +kernel
theorem dX6_foresee_27 : decode cX6_foresee 27 = .ok (.ifCond .ne 15, 3) := by decide +kernel
theorem dX6_foresee_30 : decode cX6_foresee 30 = .ok (.iload_n 2, 1) := by decide +kernel
theorem dX6_foresee_31 : decode cX6_foresee 31 = .ok (.bipush 9, 2) := by decide +kernel
theorem dX6_foresee_33 : decode cX6_foresee 33 = .ok (.if_icmp .eq 9, 3) := by decide +kernel
theorem dX6_foresee_36 : decode cX6_foresee 36 = .ok (.aload_n 0, 1) := by decide +kernel
theorem dX6_foresee_37 : decode cX6_foresee 37 = .ok (.iconst 2, 1) := by decide +kernel
theorem dX6_foresee_38 : decode cX6_foresee 38 = .ok (.invokevirtual 45, 3) := by decide +kernel
theorem dX6_foresee_41 : decode cX6_foresee 41 = .ok (.ireturn, 1) := by decide +kernel
theorem dX6_foresee_42 : decode cX6_foresee 42 = .ok (.aload_n 0, 1) := by decide +kernel
theorem dX6_foresee_43 : decode cX6_foresee 43 = .ok (.invokevirtual 150, 3) := by decide +kernel
theorem dX6_foresee_46 : decode cX6_foresee 46 = .ok (.astore_n 3, 1) := by decide +kernel
theorem dX6_foresee_47 : decode cX6_foresee 47 = .ok (.aload_n 0, 1) := by decide +kernel
theorem dX6_foresee_48 : decode cX6_foresee 48 = .ok (.iload_n 1, 1) := by decide +kernel
theorem dX6_foresee_49 : decode cX6_foresee 49 = .ok (.invokevirtual 136, 3) := by decide +kernel
theorem dX6_foresee_52 : decode cX6_foresee 52 = .ok (.pop, 1) := by decide +kernel
theorem dX6_foresee_53 : decode cX6_foresee 53 = .ok (.aload_n 0, 1) := by decide +kernel
theorem dX6_foresee_54 : decode cX6_foresee 54 = .ok (.iload_n 2, 1) := by decide +kernel
theorem dX6_foresee_55 : decode cX6_foresee 55 = .ok (.invokevirtual 116, 3) := by decide +kernel
theorem dX6_foresee_58 : decode cX6_foresee 58 = .ok (.istore 4, 2) := by decide +kernel
theorem dX6_foresee_60 : decode cX6_foresee 60 = .ok (.aload_n 0, 1) := by decide +kernel
theorem dX6_foresee_61 : decode cX6_foresee 61 = .ok (.aload_n 3, 1) := by decide +kernel
theorem dX6_foresee_62 : decode cX6_foresee 62 = .ok (.invokevirtual 154, 3) := by decide +kernel
theorem dX6_foresee_65 : decode cX6_foresee 65 = .ok (.iload 4, 2) := by decide +kernel
theorem dX6_foresee_67 : decode cX6_foresee 67 = .ok (.ireturn, 1) := by decide +kernel
set_option maxRecDepth 20000 in
theorem ggX6_allWorth_X6_worth : GoodIn wsX6_allWorth wsX6_worth := goodIn_r _ [6, 7, 8, 9, 5, 10, 11, 12, 13, 14, 15, 16, 17, 18, 19, 20, 21, 22, 23, 24, 25, 26] (by decide +kernel) (by decide +kernel)
set_option maxRecDepth 20000 in
theorem gX6_allWorth_X6_worth : GoodIn wsX6_allWorth (wsV RX6 101 RX6 yX6_worth wsX6_worth) := goodIn_app (goodIn_of _ (by decide +kernel)) ggX6_allWorth_X6_worth
theorem dX6_allWorth_0 : decode cX6_allWorth 0 = .ok (.iconst 0, 1) := by decide +kernel
theorem dX6_allWorth_1 : decode cX6_allWorth 1 = .ok (.istore_n 1, 1) := by decide +kernel
theorem dX6_allWorth_2 : decode cX6_allWorth 2 = .ok (.iconst 0, 1) := by decide +kernel
theorem dX6_allWorth_3 : decode cX6_allWorth 3 = .ok (.istore_n 2, 1) := by decide +kernel
theorem dX6_allWorth_4 : decode cX6_allWorth 4 = .ok (.iload_n 2, 1) := by decide +kernel
theorem dX6_allWorth_5 : decode cX6_allWorth 5 = .ok (.aload_n 0, 1) := by decide +kernel
theorem dX6_allWorth_6 : decode cX6_allWorth 6 = .ok (.getfield 25, 3) := by decide +kernel
theorem dX6_allWorth_9 : decode cX6_allWorth 9 = .ok (.iconst 2, 1) := by decide +kernel
theorem dX6_allWorth_10 : decode cX6_allWorth 10 = .ok (.iaload, 1) := by decide +kernel
theorem dX6_allWorth_11 : decode cX6_allWorth 11 = .ok (.if_icmp .ge 17, 3) := by decide +kernel
theorem dX6_allWorth_14 : decode cX6_allWorth 14 = .ok (.iload_n 1, 1) := by decide +kernel
theorem dX6_allWorth_15 : decode cX6_allWorth 15 = .ok (.aload_n 0, 1) := by decide +kernel
theorem dX6_allWorth_16 : decode cX6_allWorth 16 = .ok (.iload_n 2, 1) := by decide +kernel
theorem dX6_allWorth_17 : decode cX6_allWorth 17 = .ok (.invokevirtual 101, 3) := by decide +kernel
theorem dX6_allWorth_20 : decode cX6_allWorth 20 = .ok (.iadd, 1) := by decide +kernel
theorem dX6_allWorth_21 : decode cX6_allWorth 21 = .ok (.istore_n 1, 1) := by decide +kernel
theorem dX6_allWorth_22 : decode cX6_allWorth 22 = .ok (.iinc 2 1, 3) := by decide +kernel
theorem dX6_allWorth_25 : decode cX6_allWorth 25 = .ok (.goto (-21), 3) := by decide +kernel
theorem dX6_allWorth_28 : decode cX6_allWorth 28 = .ok (.iload_n 1, 1) := by decide +kernel
theorem dX6_allWorth_29 : decode cX6_allWorth 29 = .ok (.ireturn, 1) := by decide +kernel
set_option maxRecDepth 20000 in
theorem ggX6_advise_X6_isQuarrier : GoodIn wsX6_advise wsX6_isQuarrier := goodIn_r _ [7, 8, 9, 10, 6, 11, 100, 101, 102, 103, 104, 105, 106, 107, 108, 109] (by decide +kernel) (by decide +kernel)
set_option maxRecDepth 20000 in
theorem gX6_advise_X6_isQuarrier : GoodIn wsX6_advise (wsV RX6 53 RX6 yX6_isQuarrier wsX6_isQuarrier) := goodIn_app (goodIn_of _ (by decide +kernel)) ggX6_advise_X6_isQuarrier
set_option maxRecDepth 20000 in
theorem ggX6_advise_X6_fail : GoodIn wsX6_advise wsX6_fail := goodIn_r _ [15, 1, 100, 101, 102, 103, 104, 105, 106, 107, 108, 109] (by decide +kernel) (by decide +kernel)
set_option maxRecDepth 20000 in
theorem gX6_advise_X6_fail : GoodIn wsX6_advise (wsV RX6 45 RX6 yX6_fail wsX6_fail) := goodIn_app (goodIn_of _ (by decide +kernel)) ggX6_advise_X6_fail
set_option maxRecDepth 20000 in
theorem ggX6_advise_X6_isIn : GoodIn wsX6_advise wsX6_isIn := goodIn_r _ [11] (by decide +kernel) (by decide +kernel)
set_option maxRecDepth 20000 in
theorem gX6_advise_X6_isIn : GoodIn wsX6_advise (va_wsS RX6 35 yX6_isIn wsX6_isIn) := goodIn_app (goodIn_of _ (by decide +kernel)) ggX6_advise_X6_isIn
set_option maxRecDepth 20000 in
theorem ggX6_advise_X6_kept : GoodIn wsX6_advise wsX6_kept := goodIn_r _ [19, 20, 21, 22, 23, 24, 25, 26, 27, 28, 29, 30, 100, 101, 102, 103, 104, 105, 106, 107, 108, 109] (by decide +kernel) (by decide +kernel)
set_option maxRecDepth 20000 in
theorem gX6_advise_X6_kept : GoodIn wsX6_advise (wsV RX6 150 RX6 yX6_kept wsX6_kept) := goodIn_app (goodIn_of _ (by decide +kernel)) ggX6_advise_X6_kept
set_option maxRecDepth 20000 in
theorem ggX6_advise_X6_put : GoodIn wsX6_advise wsX6_put := goodIn_r _ [34, 27, 100, 101, 102, 103, 104, 105, 106, 107, 108, 109] (by decide +kernel) (by decide +kernel)
set_option maxRecDepth 20000 in
theorem gX6_advise_X6_put : GoodIn wsX6_advise (wsV RX6 49 RX6 yX6_put wsX6_put) := goodIn_app (goodIn_of _ (by decide +kernel)) ggX6_advise_X6_put
set_option maxRecDepth 20000 in
theorem ggX6_advise_X6_daysOn : GoodIn wsX6_advise wsX6_daysOn := goodIn_r _ [38, 30, 39, 40, 41, 6, 42, 8, 28, 43, 29, 44, 45, 46, 47, 48, 49, 50, 51, 52, 53, 54, 55, 27, 31, 32, 33, 34, 56, 57, 58, 59, 21, 60, 61, 62, 63, 64, 65, 66, 67, 68, 69, 70, 71, 72, 73, 74, 75, 76, 77, 78, 79, 80, 81, 82, 83, 100, 101, 102, 103, 104, 105, 106, 107, 108, 109] (by decide +kernel) (by decide +kernel)
set_option maxRecDepth 20000 in
theorem gX6_advise_X6_daysOn : GoodIn wsX6_advise (wsV RX6 136 RX6 yX6_daysOn wsX6_daysOn) := goodIn_app (goodIn_of _ (by decide +kernel)) ggX6_advise_X6_daysOn
set_option maxRecDepth 20000 in
theorem ggX6_advise_X6_allWorth : GoodIn wsX6_advise wsX6_allWorth := goodIn_r _ [87, 30, 88, 89, 90, 6, 91, 76, 77, 78, 79, 28, 56, 57, 58, 59, 21, 100, 101, 102, 103, 104, 105, 106, 107, 108, 109] (by decide +kernel) (by decide +kernel)
set_option maxRecDepth 20000 in
theorem gX6_advise_X6_allWorth : GoodIn wsX6_advise (wsV RX6 158 RX6 yX6_allWorth wsX6_allWorth) := goodIn_app (goodIn_of _ (by decide +kernel)) ggX6_advise_X6_allWorth
set_option maxRecDepth 20000 in
theorem ggX6_advise_X6_bringBack : GoodIn wsX6_advise wsX6_bringBack := goodIn_r _ [95, 20, 21, 27, 28, 29, 30, 96, 97, 98, 99, 100, 101, 102, 103, 104, 105, 106, 107, 108, 109] (by decide +kernel) (by decide +kernel)
set_option maxRecDepth 20000 in
theorem gX6_advise_X6_bringBack : GoodIn wsX6_advise (wsV RX6 154 RX6 yX6_bringBack wsX6_bringBack) := goodIn_app (goodIn_of _ (by decide +kernel)) ggX6_advise_X6_bringBack
theorem dX6_advise_0 : decode cX6_advise 0 = .ok (.aload_n 0, 1) := by decide +kernel
theorem dX6_advise_1 : decode cX6_advise 1 = .ok (.iconst 0, 1) := by decide +kernel
theorem dX6_advise_2 : decode cX6_advise 2 = .ok (.putfield 28, 3) := by decide +kernel
theorem dX6_advise_5 : decode cX6_advise 5 = .ok (.aload_n 0, 1) := by decide +kernel
theorem dX6_advise_6 : decode cX6_advise 6 = .ok (.iload_n 1, 1) := by decide +kernel
theorem dX6_advise_7 : decode cX6_advise 7 = .ok (.invokevirtual 53, 3) := by decide +kernel
theorem dX6_advise_10 : decode cX6_advise 10 = .ok (.ifCond .ne 9, 3) := by decide +kernel
theorem dX6_advise_13 : decode cX6_advise 13 = .ok (.aload_n 0, 1) := by decide +kernel
theorem dX6_advise_14 : decode cX6_advise 14 = .ok (.iconst 1, 1) := by decide +kernel
theorem dX6_advise_15 : decode cX6_advise 15 = .ok (.invokevirtual 45, 3) := by decide +kernel
theorem dX6_advise_18 : decode cX6_advise 18 = .ok (.ireturn, 1) := by decide +kernel
theorem dX6_advise_19 : decode cX6_advise 19 = .ok (.iload_n 2, 1) := by decide +kernel
theorem dX6_advise_20 : decode cX6_advise 20 = .ok (.iconst 1, 1) := by decide +kernel
theorem dX6_advise_21 : decode cX6_advise 21 = .ok (.bipush 20, 2) := by decide +kernel
theorem dX6_advise_23 : decode cX6_advise 23 = .ok (.invokestatic 35, 3) := by decide +kernel
theorem dX6_advise_26 : decode cX6_advise 26 = .ok (.ifCond .ne 9, 3) := by decide +kernel
theorem dX6_advise_29 : decode cX6_advise 29 = .ok (.aload_n 0, 1) := by decide +kernel
theorem dX6_advise_30 : decode cX6_advise 30 = .ok (.iconst 2, 1) := by decide +kernel
theorem dX6_advise_31 : decode cX6_advise 31 = .ok (.invokevirtual 45, 3) := by decide +kernel
theorem dX6_advise_34 : decode cX6_advise 34 = .ok (.ireturn, 1) := by decide +kernel
theorem dX6_advise_35 : decode cX6_advise 35 = .ok (.aload_n 0, 1) := by decide +kernel
theorem dX6_advise_36 : decode cX6_advise 36 = .ok (.invokevirtual 150, 3) := by decide +kernel
theorem dX6_advise_39 : decode cX6_advise 39 = .ok (.astore_n 3, 1) := by decide +kernel
theorem dX6_advise_40 : decode cX6_advise 40 = .ok (.iconst (-1), 1) := by decide +kernel
theorem dX6_advise_41 : decode cX6_advise 41 = .ok (.istore 4, 2) := by decide +kernel
theorem dX6_advise_43 : decode cX6_advise 43 = .ok (.iconst (-1), 1) := by decide +kernel
theorem dX6_advise_44 : decode cX6_advise 44 = .ok (.istore 5, 2) := by decide +kernel
theorem dX6_advise_46 : decode cX6_advise 46 = .ok (.iconst 0, 1) := by decide +kernel
theorem dX6_advise_47 : decode cX6_advise 47 = .ok (.istore 6, 2) := by decide +kernel
theorem dX6_advise_49 : decode cX6_advise 49 = .ok (.iload 6, 2) := by decide +kernel
theorem dX6_advise_51 : decode cX6_advise 51 = .ok (.aload_n 0, 1) := by decide +kernel
