theorem dX5_hire_35 : decode cX5_hire 35 = .ok (.new 58, 3) := by decide +kernel
theorem dX5_hire_38 : decode cX5_hire 38 = .ok (.dup, 1) := by decide +kernel
theorem dX5_hire_39 : decode cX5_hire 39 = .ok (.ldc 76, 2) := by decide +kernel
theorem dX5_hire_41 : decode cX5_hire 41 = .ok (.invokespecial 62, 3) := by decide +kernel
theorem dX5_hire_44 : decode cX5_hire 44 = .ok (.athrow, 1) := by decide +kernel
theorem dX5_hire_45 : decode cX5_hire 45 = .ok (.aload_n 0, 1) := by decide +kernel
theorem dX5_hire_46 : decode cX5_hire 46 = .ok (.getfield 10, 3) := by decide +kernel
theorem dX5_hire_49 : decode cX5_hire 49 = .ok (.getfield 69, 3) := by decide +kernel
theorem dX5_hire_52 : decode cX5_hire 52 = .ok (.iload_n 1, 1) := by decide +kernel
theorem dX5_hire_53 : decode cX5_hire 53 = .ok (.invokevirtual 78, 3) := by decide +kernel
theorem dX5_hire_56 : decode cX5_hire 56 = .ok (.ireturn, 1) := by decide +kernel
set_option maxRecDepth 20000 in
theorem ggX5_send_X1_has : GoodIn wsX5_send wsX1_has := goodIn_r _ [11, 12, 28, 29, 30, 31, 32] (by decide +kernel) (by decide +kernel)
set_option maxRecDepth 20000 in
theorem gX5_send_X1_has : GoodIn wsX5_send (wsV RX5 81 RX1 yX1_has wsX1_has) := goodIn_app (goodIn_of _ (by decide +kernel)) ggX5_send_X1_has
set_option maxRecDepth 20000 in
theorem ggX5_send_X0_has : GoodIn wsX5_send wsX0_has := goodIn_r _ [17, 18, 33, 34, 35, 36, 37] (by decide +kernel) (by decide +kernel)
set_option maxRecDepth 20000 in
theorem gX5_send_X0_has : GoodIn wsX5_send (wsV RX5 87 RX0 yX0_has wsX0_has) := goodIn_app (goodIn_of _ (by decide +kernel)) ggX5_send_X0_has
theorem dX5_send_0 : decode cX5_send 0 = .ok (.aload_n 0, 1) := by decide +kernel
theorem dX5_send_1 : decode cX5_send 1 = .ok (.getfield 10, 3) := by decide +kernel
theorem dX5_send_4 : decode cX5_send 4 = .ok (.getfield 69, 3) := by decide +kernel
theorem dX5_send_7 : decode cX5_send 7 = .ok (.iload_n 1, 1) := by decide +kernel
theorem dX5_send_8 : decode cX5_send 8 = .ok (.invokevirtual 81, 3) := by decide +kernel
theorem dX5_send_11 : decode cX5_send 11 = .ok (.ifCond .ne 13, 3) := by decide +kernel
theorem dX5_send_14 : decode cX5_send 14 = .ok (.new 30, 3) := by decide +kernel
theorem dX5_send_17 : decode cX5_send 17 = .ok (.dup, 1) := by decide +kernel
theorem dX5_send_18 : decode cX5_send 18 = .ok (.ldc 85, 2) := by decide +kernel
theorem dX5_send_20 : decode cX5_send 20 = .ok (.invokespecial 34, 3) := by decide +kernel
theorem dX5_send_23 : decode cX5_send 23 = .ok (.athrow, 1) := by decide +kernel
theorem dX5_send_24 : decode cX5_send 24 = .ok (.iload_n 2, 1) := by decide +kernel
theorem dX5_send_25 : decode cX5_send 25 = .ok (.iconst (-1), 1) := by decide +kernel
theorem dX5_send_26 : decode cX5_send 26 = .ok (.if_icmp .eq 27, 3) := by decide +kernel
theorem dX5_send_29 : decode cX5_send 29 = .ok (.aload_n 0, 1) := by decide +kernel
theorem dX5_send_30 : decode cX5_send 30 = .ok (.getfield 10, 3) := by decide +kernel
theorem dX5_send_33 : decode cX5_send 33 = .ok (.getfield 48, 3) := by decide +kernel
theorem dX5_send_36 : decode cX5_send 36 = .ok (.iload_n 2, 1) := by decide +kernel
theorem dX5_send_37 : decode cX5_send 37 = .ok (.invokevirtual 87, 3) := by decide +kernel
theorem dX5_send_40 : decode cX5_send 40 = .ok (.ifCond .ne 13, 3) := by decide +kernel
theorem dX5_send_43 : decode cX5_send 43 = .ok (.new 30, 3) := by decide +kernel
theorem dX5_send_46 : decode cX5_send 46 = .ok (.dup, 1) := by decide +kernel
theorem dX5_send_47 : decode cX5_send 47 = .ok (.ldc 88, 2) := by decide +kernel
theorem dX5_send_49 : decode cX5_send 49 = .ok (.invokespecial 34, 3) := by decide +kernel
theorem dX5_send_52 : decode cX5_send 52 = .ok (.athrow, 1) := by decide +kernel
theorem dX5_send_53 : decode cX5_send 53 = .ok (.aload_n 0, 1) := by decide +kernel
theorem dX5_send_54 : decode cX5_send 54 = .ok (.getfield 10, 3) := by decide +kernel
theorem dX5_send_57 : decode cX5_send 57 = .ok (.getfield 69, 3) := by decide +kernel
theorem dX5_send_60 : decode cX5_send 60 = .ok (.getfield 90, 3) := by decide +kernel
theorem dX5_send_63 : decode cX5_send 63 = .ok (.iload_n 1, 1) := by decide +kernel
theorem dX5_send_64 : decode cX5_send 64 = .ok (.iaload, 1) := by decide +kernel
theorem dX5_send_65 : decode cX5_send 65 = .ok (.istore_n 3, 1) := by decide +kernel
theorem dX5_send_66 : decode cX5_send 66 = .ok (.aload_n 0, 1) := by decide +kernel
theorem dX5_send_67 : decode cX5_send 67 = .ok (.getfield 10, 3) := by decide +kernel
theorem dX5_send_70 : decode cX5_send 70 = .ok (.getfield 69, 3) := by decide +kernel
theorem dX5_send_73 : decode cX5_send 73 = .ok (.getfield 90, 3) := by decide +kernel
theorem dX5_send_76 : decode cX5_send 76 = .ok (.iload_n 1, 1) := by decide +kernel
theorem dX5_send_77 : decode cX5_send 77 = .ok (.iload_n 2, 1) := by decide +kernel
theorem dX5_send_78 : decode cX5_send 78 = .ok (.iastore, 1) := by decide +kernel
theorem dX5_send_79 : decode cX5_send 79 = .ok (.iload_n 3, 1) := by decide +kernel
theorem dX5_send_80 : decode cX5_send 80 = .ok (.ireturn, 1) := by decide +kernel
set_option maxRecDepth 20000 in
theorem ggX5_ring_X4_has : GoodIn wsX5_ring wsX4_has := goodIn_r _ [12, 13, 30, 31, 32, 33, 34, 35, 36] (by decide +kernel) (by decide +kernel)
set_option maxRecDepth 20000 in
theorem gX5_ring_X4_has : GoodIn wsX5_ring (wsV RX5 97 RX4 yX4_has wsX4_has) := goodIn_app (goodIn_of _ (by decide +kernel)) ggX5_ring_X4_has
set_option maxRecDepth 20000 in
theorem ggX5_ring_X4_tone : GoodIn wsX5_ring wsX4_tone := goodIn_r _ [17, 18, 19, 20, 30, 31, 32, 33, 34, 35, 36] (by decide +kernel) (by decide +kernel)
set_option maxRecDepth 20000 in
theorem gX5_ring_X4_tone : GoodIn wsX5_ring (wsV RX5 107 RX4 yX4_tone wsX4_tone) := goodIn_app (goodIn_of _ (by decide +kernel)) ggX5_ring_X4_tone
theorem dX5_ring_0 : decode cX5_ring 0 = .ok (.aload_n 0, 1) := by decide +kernel
theorem dX5_ring_1 : decode cX5_ring 1 = .ok (.getfield 10, 3) := by decide +kernel
theorem dX5_ring_4 : decode cX5_ring 4 = .ok (.getfield 93, 3) := by decide +kernel
theorem dX5_ring_7 : decode cX5_ring 7 = .ok (.iload_n 1, 1) := by decide +kernel
theorem dX5_ring_8 : decode cX5_ring 8 = .ok (.invokevirtual 97, 3) := by decide +kernel
theorem dX5_ring_11 : decode cX5_ring 11 = .ok (.ifCond .ne 13, 3) := by decide +kernel
theorem dX5_ring_14 : decode cX5_ring 14 = .ok (.new 30, 3) := by decide +kernel
theorem dX5_ring_17 : decode cX5_ring 17 = .ok (.dup, 1) := by decide +kernel
theorem dX5_ring_18 : decode cX5_ring 18 = .ok (.ldc 100, 2) := by decide +kernel
theorem dX5_ring_20 : decode cX5_ring 20 = .ok (.invokespecial 34, 3) := by decide +kernel
theorem dX5_ring_23 : decode cX5_ring 23 = .ok (.athrow, 1) := by decide +kernel
theorem dX5_ring_24 : decode cX5_ring 24 = .ok (.aload_n 0, 1) := by decide +kernel
theorem dX5_ring_25 : decode cX5_ring 25 = .ok (.getfield 10, 3) := by decide +kernel
theorem dX5_ring_28 : decode cX5_ring 28 = .ok (.getfield 93, 3) := by decide +kernel
theorem dX5_ring_31 : decode cX5_ring 31 = .ok (.getfield 102, 3) := by decide +kernel
theorem dX5_ring_34 : decode cX5_ring 34 = .ok (.iload_n 1, 1) := by decide +kernel
theorem dX5_ring_35 : decode cX5_ring 35 = .ok (.iaload, 1) := by decide +kernel
theorem dX5_ring_36 : decode cX5_ring 36 = .ok (.iconst 3, 1) := by decide +kernel
theorem dX5_ring_37 : decode cX5_ring 37 = .ok (.if_icmp .lt 13, 3) := by decide +kernel
theorem dX5_ring_40 : decode cX5_ring 40 = .ok (.new 58, 3) := by decide +kernel
theorem dX5_ring_43 : decode cX5_ring 43 = .ok (.dup, 1) := by decide +kernel
theorem dX5_ring_44 : decode cX5_ring 44 = .ok (.ldc 105, 2) := by decide +kernel
theorem dX5_ring_46 : decode cX5_ring 46 = .ok (.invokespecial 62, 3) := by decide +kernel
theorem dX5_ring_49 : decode cX5_ring 49 = .ok (.athrow, 1) := by decide +kernel
theorem dX5_ring_50 : decode cX5_ring 50 = .ok (.aload_n 0, 1) := by decide +kernel
theorem dX5_ring_51 : decode cX5_ring 51 = .ok (.getfield 10, 3) := by decide +kernel
theorem dX5_ring_54 : decode cX5_ring 54 = .ok (.getfield 93, 3) := by decide +kernel
theorem dX5_ring_57 : decode cX5_ring 57 = .ok (.iload_n 1, 1) := by decide +kernel
theorem dX5_ring_58 : decode cX5_ring 58 = .ok (.invokevirtual 107, 3) := by decide +kernel
theorem dX5_ring_61 : decode cX5_ring 61 = .ok (.ireturn, 1) := by decide +kernel
set_option maxRecDepth 20000 in
theorem ggX5_smash_X4_has : GoodIn wsX5_smash wsX4_has := goodIn_r _ [15, 16, 41, 42, 43, 44, 45, 46, 47] (by decide +kernel) (by decide +kernel)
set_option maxRecDepth 20000 in
theorem gX5_smash_X4_has : GoodIn wsX5_smash (wsV RX5 97 RX4 yX4_has wsX4_has) := goodIn_app (goodIn_of _ (by decide +kernel)) ggX5_smash_X4_has
set_option maxRecDepth 20000 in
theorem ggX5_smash_X0_giveBack : GoodIn wsX5_smash wsX0_giveBack := goodIn_r _ [21, 22, 23, 24, 25, 26, 27, 28, 29, 20, 30, 31, 48, 49, 50, 51, 52] (by decide +kernel) (by decide +kernel)
set_option maxRecDepth 20000 in
theorem gX5_smash_X0_giveBack : GoodIn wsX5_smash (wsV RX5 118 RX0 yX0_giveBack wsX0_giveBack) := goodIn_app (goodIn_of _ (by decide +kernel)) ggX5_smash_X0_giveBack
theorem dX5_smash_0 : decode cX5_smash 0 = .ok (.aload_n 0, 1) := by decide +kernel
theorem dX5_smash_1 : decode cX5_smash 1 = .ok (.getfield 10, 3) := by decide +kernel
theorem dX5_smash_4 : decode cX5_smash 4 = .ok (.getfield 93, 3) := by decide +kernel
theorem dX5_smash_7 : decode cX5_smash 7 = .ok (.iload_n 1, 1) := by decide +kernel
theorem dX5_smash_8 : decode cX5_smash 8 = .ok (.invokevirtual 97, 3) := by decide +kernel
theorem dX5_smash_11 : decode cX5_smash 11 = .ok (.ifCond .ne 13, 3) := by decide +kernel
theorem dX5_smash_14 : decode cX5_smash 14 = .ok (.new 30, 3) := by decide +kernel
theorem dX5_smash_17 : decode cX5_smash 17 = .ok (.dup, 1) := by decide +kernel
theorem dX5_smash_18 : decode cX5_smash 18 = .ok (.ldc 100, 2) := by decide +kernel
theorem dX5_smash_20 : decode cX5_smash 20 = .ok (.invokespecial 34, 3) := by decide +kernel
theorem dX5_smash_23 : decode cX5_smash 23 = .ok (.athrow, 1) := by decide +kernel
theorem dX5_smash_24 : decode cX5_smash 24 = .ok (.aload_n 0, 1) := by decide +kernel
theorem dX5_smash_25 : decode cX5_smash 25 = .ok (.getfield 10, 3) := by decide +kernel
theorem dX5_smash_28 : decode cX5_smash 28 = .ok (.getfield 93, 3) := by decide +kernel
theorem dX5_smash_31 : decode cX5_smash 31 = .ok (.getfield 102, 3) := by decide +kernel
theorem dX5_smash_34 : decode cX5_smash 34 = .ok (.iload_n 1, 1) := by decide +kernel
theorem dX5_smash_35 : decode cX5_smash 35 = .ok (.iaload, 1) := by decide +kernel
theorem dX5_smash_36 : decode cX5_smash 36 = .ok (.iconst 2, 1) := by decide +kernel
theorem dX5_smash_37 : decode cX5_smash 37 = .ok (.if_icmp .lt 13, 3) := by decide +kernel
theorem dX5_smash_40 : decode cX5_smash 40 = .ok (.new 58, 3) := by decide +kernel
theorem dX5_smash_43 : decode cX5_smash 43 = .ok (.dup, 1) := by decide +kernel
theorem dX5_smash_44 : decode cX5_smash 44 = .ok (.ldc 110, 2) := by decide +kernel
theorem dX5_smash_46 : decode cX5_smash 46 = .ok (.invokespecial 62, 3) := by decide +kernel
theorem dX5_smash_49 : decode cX5_smash 49 = .ok (.athrow, 1) := by decide +kernel
theorem dX5_smash_50 : decode cX5_smash 50 = .ok (.aload_n 0, 1) := by decide +kernel
theorem dX5_smash_51 : decode cX5_smash 51 = .ok (.getfield 10, 3) := by decide +kernel
theorem dX5_smash_54 : decode cX5_smash 54 = .ok (.getfield 93, 3) := by decide +kernel
theorem dX5_smash_57 : decode cX5_smash 57 = .ok (.getfield 102, 3) := by decide +kernel
theorem dX5_smash_60 : decode cX5_smash 60 = .ok (.iload_n 1, 1) := by decide +kernel
theorem dX5_smash_61 : decode cX5_smash 61 = .ok (.iconst 4, 1) := by decide +kernel
theorem dX5_smash_62 : decode cX5_smash 62 = .ok (.iastore, 1) := by decide +kernel
theorem dX5_smash_63 : decode cX5_smash 63 = .ok (.aload_n 0, 1) := by decide +kernel
theorem dX5_smash_64 : decode cX5_smash 64 = .ok (.getfield 10, 3) := by decide +kernel
theorem dX5_smash_67 : decode cX5_smash 67 = .ok (.getfield 48, 3) := by decide +kernel
theorem dX5_smash_70 : decode cX5_smash 70 = .ok (.aload_n 0, 1) := by decide +kernel
theorem dX5_smash_71 : decode cX5_smash 71 = .ok (.getfield 10, 3) := by decide +kernel
theorem dX5_smash_74 : decode cX5_smash 74 = .ok (.getfield 93, 3) := by decide +kernel
theorem dX5_smash_77 : decode cX5_smash 77 = .ok (.getfield 112, 3) := by decide +kernel
theorem dX5_smash_80 : decode cX5_smash 80 = .ok (.iload_n 1, 1) := by decide +kernel
theorem dX5_smash_81 : decode cX5_smash 81 = .ok (.iaload, 1) := by decide +kernel
theorem dX5_smash_82 : decode cX5_smash 82 = .ok (.aload_n 0, 1) := by decide +kernel
theorem dX5_smash_83 : decode cX5_smash 83 = .ok (.getfield 10, 3) := by decide +kernel
theorem dX5_smash_86 : decode cX5_smash 86 = .ok (.getfield 93, 3) := by decide +kernel
theorem dX5_smash_89 : decode cX5_smash 89 = .ok (.getfield 115, 3) := by decide +kernel
theorem dX5_smash_92 : decode cX5_smash 92 = .ok (.iload_n 1, 1) := by decide +kernel
theorem dX5_smash_93 : decode cX5_smash 93 = .ok (.iaload, 1) := by decide +kernel
theorem dX5_smash_94 : decode cX5_smash 94 = .ok (.iconst 2, 1) := by decide +kernel
theorem dX5_smash_95 : decode cX5_smash 95 = .ok (.idiv, 1) := by decide +kernel
theorem dX5_smash_96 : decode cX5_smash 96 = .ok (.invokevirtual 118, 3) := by decide +kernel
theorem dX5_smash_99 : decode cX5_smash 99 = .ok (.ireturn, 1) := by decide +kernel
set_option maxRecDepth 20000 in
theorem ggX5_build_X5_isWithin : GoodIn wsX5_build wsX5_isWithin := goodIn_r _ [10] (by decide +kernel) (by decide +kernel)
set_option maxRecDepth 20000 in
theorem gX5_build_X5_isWithin : GoodIn wsX5_build (va_wsS RX5 26 yX5_isWithin wsX5_isWithin) := goodIn_app (goodIn_of _ (by decide +kernel)) ggX5_build_X5_isWithin
set_option maxRecDepth 20000 in
theorem ggX5_build_X3_add : GoodIn wsX5_build wsX3_add := goodIn_r _ [15, 16, 17, 22, 23, 24] (by decide +kernel) (by decide +kernel)
set_option maxRecDepth 20000 in
theorem gX5_build_X3_add : GoodIn wsX5_build (wsV RX5 127 RX3 yX3_add wsX3_add) := goodIn_app (goodIn_of _ (by decide +kernel)) ggX5_build_X3_add
theorem dX5_build_0 : decode cX5_build 0 = .ok (.iload_n 1, 1) := by decide +kernel
theorem dX5_build_1 : decode cX5_build 1 = .ok (.bipush 20, 2) := by decide +kernel
theorem dX5_build_3 : decode cX5_build 3 = .ok (.sipush 400, 3) := by decide +kernel
theorem dX5_build_6 : decode cX5_build 6 = .ok (.invokestatic 26, 3) := by decide +kernel
theorem dX5_build_9 : decode cX5_build 9 = .ok (.ifCond .ne 13, 3) := by decide +kernel
theorem dX5_build_12 : decode cX5_build 12 = .ok (.new 37, 3) := by decide +kernel
theorem dX5_build_15 : decode cX5_build 15 = .ok (.dup, 1) := by decide +kernel
theorem dX5_build_16 : decode cX5_build 16 = .ok (.ldc 122, 2) := by decide +kernel
theorem dX5_build_18 : decode cX5_build 18 = .ok (.invokespecial 41, 3) := by decide +kernel
theorem dX5_build_21 : decode cX5_build 21 = .ok (.athrow, 1) := by decide +kernel
theorem dX5_build_22 : decode cX5_build 22 = .ok (.aload_n 0, 1) := by decide +kernel
theorem dX5_build_23 : decode cX5_build 23 = .ok (.getfield 22, 3) := by decide +kernel
theorem dX5_build_26 : decode cX5_build 26 = .ok (.getfield 124, 3) := by decide +kernel
theorem dX5_build_29 : decode cX5_build 29 = .ok (.iconst 3, 1) := by decide +kernel
theorem dX5_build_30 : decode cX5_build 30 = .ok (.if_icmp .lt 13, 3) := by decide +kernel
theorem dX5_build_33 : decode cX5_build 33 = .ok (.new 58, 3) := by decide +kernel
theorem dX5_build_36 : decode cX5_build 36 = .ok (.dup, 1) := by decide +kernel
theorem dX5_build_37 : decode cX5_build 37 = .ok (.ldc 125, 2) := by decide +kernel
theorem dX5_build_39 : decode cX5_build 39 = .ok (.invokespecial 62, 3) := by decide +kernel
theorem dX5_build_42 : decode cX5_build 42 = .ok (.athrow, 1) := by decide +kernel
theorem dX5_build_43 : decode cX5_build 43 = .ok (.aload_n 0, 1) := by decide +kernel
theorem dX5_build_44 : decode cX5_build 44 = .ok (.getfield 22, 3) := by decide +kernel
theorem dX5_build_47 : decode cX5_build 47 = .ok (.iload_n 1, 1) := by decide +kernel
theorem dX5_build_48 : decode cX5_build 48 = .ok (.invokevirtual 127, 3) := by decide +kernel
theorem dX5_build_51 : decode cX5_build 51 = .ok (.ireturn, 1) := by decide +kernel
set_option maxRecDepth 20000 in
theorem ggX5_load_X4_has : GoodIn wsX5_load wsX4_has := goodIn_r _ [14, 15, 58, 59, 60, 61, 62, 63, 64] (by decide +kernel) (by decide +kernel)
set_option maxRecDepth 20000 in
theorem gX5_load_X4_has : GoodIn wsX5_load (wsV RX5 97 RX4 yX4_has wsX4_has) := goodIn_app (goodIn_of _ (by decide +kernel)) ggX5_load_X4_has
set_option maxRecDepth 20000 in
theorem ggX5_load_X3_has : GoodIn wsX5_load wsX3_has := goodIn_r _ [20, 21, 65, 66, 67] (by decide +kernel) (by decide +kernel)
set_option maxRecDepth 20000 in
theorem gX5_load_X3_has : GoodIn wsX5_load (wsV RX5 128 RX3 yX3_has wsX3_has) := goodIn_app (goodIn_of _ (by decide +kernel)) ggX5_load_X3_has
set_option maxRecDepth 20000 in
theorem ggX5_load_X3_isAway : GoodIn wsX5_load wsX3_isAway := goodIn_r _ [25, 26, 65, 66, 67] (by decide +kernel) (by decide +kernel)
set_option maxRecDepth 20000 in
theorem gX5_load_X3_isAway : GoodIn wsX5_load (wsV RX5 136 RX3 yX3_isAway wsX3_isAway) := goodIn_app (goodIn_of _ (by decide +kernel)) ggX5_load_X3_isAway
set_option maxRecDepth 20000 in
theorem ggX5_load_X4_weight : GoodIn wsX5_load wsX4_weight := goodIn_r _ [30, 31, 58, 59, 60, 61, 62, 63, 64] (by decide +kernel) (by decide +kernel)
set_option maxRecDepth 20000 in
theorem gX5_load_X4_weight : GoodIn wsX5_load (wsV RX5 142 RX4 yX4_weight wsX4_weight) := goodIn_app (goodIn_of _ (by decide +kernel)) ggX5_load_X4_weight
set_option maxRecDepth 20000 in
theorem ggX5_load_X5_stillCarried : GoodIn wsX5_load wsX5_stillCarried := goodIn_r _ [36, 7, 37, 5, 6, 38, 39, 40, 13, 41, 15, 42, 43, 28, 29, 30, 31, 49, 50, 51, 52, 65, 66, 67, 53, 54, 55, 56, 57, 58, 59, 60, 61, 62, 63, 64] (by decide +kernel) (by decide +kernel)
set_option maxRecDepth 20000 in
theorem gX5_load_X5_stillCarried : GoodIn wsX5_load (wsV RX5 145 RX5 yX5_stillCarried wsX5_stillCarried) := goodIn_app (goodIn_of _ (by decide +kernel)) ggX5_load_X5_stillCarried
set_option maxRecDepth 20000 in
theorem ggX5_load_X4_putOn : GoodIn wsX5_load wsX4_putOn := goodIn_r _ [47, 48, 42, 58, 59, 60, 61, 62, 63, 64] (by decide +kernel) (by decide +kernel)
set_option maxRecDepth 20000 in
theorem gX5_load_X4_putOn : GoodIn wsX5_load (wsV RX5 150 RX4 yX4_putOn wsX4_putOn) := goodIn_app (goodIn_of _ (by decide +kernel)) ggX5_load_X4_putOn
theorem dX5_load_0 : decode cX5_load 0 = .ok (.aload_n 0, 1) := by decide +kernel
theorem dX5_load_1 : decode cX5_load 1 = .ok (.getfield 10, 3) := by decide +kernel
theorem dX5_load_4 : decode cX5_load 4 = .ok (.getfield 93, 3) := by decide +kernel
theorem dX5_load_7 : decode cX5_load 7 = .ok (.iload_n 1, 1) := by decide +kernel
theorem dX5_load_8 : decode cX5_load 8 = .ok (.invokevirtual 97, 3) := by decide +kernel
theorem dX5_load_11 : decode cX5_load 11 = .ok (.ifCond .eq 14, 3) := by decide +kernel
theorem dX5_load_14 : decode cX5_load 14 = .ok (.aload_n 0, 1) := by decide +kernel
theorem dX5_load_15 : decode cX5_load 15 = .ok (.getfield 22, 3) := by decide +kernel
theorem dX5_load_18 : decode cX5_load 18 = .ok (.iload_n 2, 1) := by decide +kernel
theorem dX5_load_19 : decode cX5_load 19 = .ok (.invokevirtual 128, 3) := by decide +kernel
theorem dX5_load_22 : decode cX5_load 22 = .ok (.ifCond .ne 13, 3) := by decide +kernel
theorem dX5_load_25 : decode cX5_load 25 = .ok (.new 30, 3) := by decide +kernel
theorem dX5_load_28 : decode cX5_load 28 = .ok (.dup, 1) := by decide +kernel
theorem dX5_load_29 : decode cX5_load 29 = .ok (.ldc 129, 2) := by decide +kernel
theorem dX5_load_31 : decode cX5_load 31 = .ok (.invokespecial 34, 3) := by decide +kernel
theorem dX5_load_34 : decode cX5_load 34 = .ok (.athrow, 1) := by decide +kernel
theorem dX5_load_35 : decode cX5_load 35 = .ok (.aload_n 0, 1) := by decide +kernel
theorem dX5_load_36 : decode cX5_load 36 = .ok (.getfield 10, 3) := by decide +kernel
theorem dX5_load_39 : decode cX5_load 39 = .ok (.getfield 93, 3) := by decide +kernel
theorem dX5_load_42 : decode cX5_load 42 = .ok (.getfield 102, 3) := by decide +kernel
theorem dX5_load_45 : decode cX5_load 45 = .ok (.iload_n 1, 1) := by decide +kernel
theorem dX5_load_46 : decode cX5_load 46 = .ok (.iaload, 1) := by decide +kernel
theorem dX5_load_47 : decode cX5_load 47 = .ok (.iconst 1, 1) := by decide +kernel
theorem dX5_load_48 : decode cX5_load 48 = .ok (.if_icmp .eq 13, 3) := by decide +kernel
theorem dX5_load_51 : decode cX5_load 51 = .ok (.new 58, 3) := by decide +kernel
theorem dX5_load_54 : decode cX5_load 54 = .ok (.dup, 1) := by decide +kernel
theorem dX5_load_55 : decode cX5_load 55 = .ok (.ldc 131, 2) := by decide +kernel
theorem dX5_load_57 : decode cX5_load 57 = .ok (.invokespecial 62, 3) := by decide +kernel
theorem dX5_load_60 : decode cX5_load 60 = .ok (.athrow, 1) := by decide +kernel
theorem dX5_load_61 : decode cX5_load 61 = .ok (.aload_n 0, 1) := by decide +kernel
theorem dX5_load_62 : decode cX5_load 62 = .ok (.getfield 22, 3) := by decide +kernel
theorem dX5_load_65 : decode cX5_load 65 = .ok (.iload_n 2, 1) := by decide +kernel
theorem dX5_load_66 : decode cX5_load 66 = .ok (.aload_n 0, 1) := by decide +kernel
theorem dX5_load_67 : decode cX5_load 67 = .ok (.getfield 10, 3) := by decide +kernel
theorem dX5_load_70 : decode cX5_load 70 = .ok (.getfield 133, 3) := by decide +kernel
theorem dX5_load_73 : decode cX5_load 73 = .ok (.invokevirtual 136, 3) := by decide +kernel
theorem dX5_load_76 : decode cX5_load 76 = .ok (.ifCond .eq 13, 3) := by decide +kernel
theorem dX5_load_79 : decode cX5_load 79 = .ok (.new 58, 3) := by decide +kernel
theorem dX5_load_82 : decode cX5_load 82 = .ok (.dup, 1) := by decide +kernel
theorem dX5_load_83 : decode cX5_load 83 = .ok (.ldc 140, 2) := by decide +kernel
theorem dX5_load_85 : decode cX5_load 85 = .ok (.invokespecial 62, 3) := by decide +kernel
theorem dX5_load_88 : decode cX5_load 88 = .ok (.athrow, 1) := by decide +kernel
theorem dX5_load_89 : decode cX5_load 89 = .ok (.aload_n 0, 1) := by decide +kernel
theorem dX5_load_90 : decode cX5_load 90 = .ok (.getfield 10, 3) := by decide +kernel
theorem dX5_load_93 : decode cX5_load 93 = .ok (.getfield 93, 3) := by decide +kernel
theorem dX5_load_96 : decode cX5_load 96 = .ok (.iload_n 1, 1) := by decide +kernel
theorem dX5_load_97 : decode cX5_load 97 = .ok (.invokevirtual 142, 3) := by decide +kernel
theorem dX5_load_100 : decode cX5_load 100 = .ok (.aload_n 0, 1) := by decide +kernel
theorem dX5_load_101 : decode cX5_load 101 = .ok (.iload_n 2, 1) := by decide +kernel
theorem dX5_load_102 : decode cX5_load 102 = .ok (.invokevirtual 145, 3) := by decide +kernel
theorem dX5_load_105 : decode cX5_load 105 = .ok (.if_icmp .le 13, 3) := by decide +kernel
theorem dX5_load_108 : decode cX5_load 108 = .ok (.new 58, 3) := by decide +kernel
theorem dX5_load_111 : decode cX5_load 111 = .ok (.dup, 1) := by decide +kernel
theorem dX5_load_112 : decode cX5_load 112 = .ok (.ldc 148, 2) := by decide +kernel
theorem dX5_load_114 : decode cX5_load 114 = .ok (.invokespecial 62, 3) := by decide +kernel
theorem dX5_load_117 : decode cX5_load 117 = .ok (.athrow, 1) := by decide +kernel
theorem dX5_load_118 : decode cX5_load 118 = .ok (.aload_n 0, 1) := by decide +kernel
theorem dX5_load_119 : decode cX5_load 119 = .ok (.getfield 10, 3) := by decide +kernel
theorem dX5_load_122 : decode cX5_load 122 = .ok (.getfield 93, 3) := by decide +kernel
theorem dX5_load_125 : decode cX5_load 125 = .ok (.iload_n 1, 1) := by decide +kernel
theorem dX5_load_126 : decode cX5_load 126 = .ok (.iload_n 2, 1) := by decide +kernel
theorem dX5_load_127 : decode cX5_load 127 = .ok (.invokevirtual 150, 3) := by decide +kernel
theorem dX5_load_130 : decode cX5_load 130 = .ok (.aload_n 0, 1) := by decide +kernel
theorem dX5_load_131 : decode cX5_load 131 = .ok (.iload_n 2, 1) := by decide +kernel
theorem dX5_load_132 : decode cX5_load 132 = .ok (.invokevirtual 145, 3) := by decide +kernel
theorem dX5_load_135 : decode cX5_load 135 = .ok (.ireturn, 1) := by decide +kernel
set_option maxRecDepth 20000 in
theorem ggX5_ship_X3_has : GoodIn wsX5_ship wsX3_has := goodIn_r _ [14, 15, 64, 65, 66] (by decide +kernel) (by decide +kernel)
set_option maxRecDepth 20000 in
theorem gX5_ship_X3_has : GoodIn wsX5_ship (wsV RX5 128 RX3 yX3_has wsX3_has) := goodIn_app (goodIn_of _ (by decide +kernel)) ggX5_ship_X3_has
set_option maxRecDepth 20000 in
theorem ggX5_ship_X3_isAway : GoodIn wsX5_ship wsX3_isAway := goodIn_r _ [19, 20, 64, 65, 66] (by decide +kernel) (by decide +kernel)
set_option maxRecDepth 20000 in
theorem gX5_ship_X3_isAway : GoodIn wsX5_ship (wsV RX5 136 RX3 yX3_isAway wsX3_isAway) := goodIn_app (goodIn_of _ (by decide +kernel)) ggX5_ship_X3_isAway
set_option maxRecDepth 20000 in
theorem ggX5_ship_X4_numberOn : GoodIn wsX5_ship wsX4_numberOn := goodIn_r _ [25, 26, 27, 67, 68, 69, 70, 71, 72, 73] (by decide +kernel) (by decide +kernel)
set_option maxRecDepth 20000 in
theorem gX5_ship_X4_numberOn : GoodIn wsX5_ship (wsV RX5 156 RX4 yX4_numberOn wsX4_numberOn) := goodIn_app (goodIn_of _ (by decide +kernel)) ggX5_ship_X4_numberOn
set_option maxRecDepth 20000 in
theorem ggX5_ship_X2_water : GoodIn wsX5_ship wsX2_water := goodIn_r _ [32, 33, 34, 35, 36, 37, 38, 59, 60, 61, 62, 63] (by decide +kernel) (by decide +kernel)
set_option maxRecDepth 20000 in
theorem gX5_ship_X2_water : GoodIn wsX5_ship (wsV RX5 159 RX2 yX2_water wsX2_water) := goodIn_app (goodIn_of _ (by decide +kernel)) ggX5_ship_X2_water
set_option maxRecDepth 20000 in
theorem ggX5_ship_X4_goWith : GoodIn wsX5_ship wsX4_goWith := goodIn_r _ [42, 26, 27, 43, 44, 45, 46, 24, 47, 48, 49, 50, 67, 68, 69, 70, 71, 72, 73] (by decide +kernel) (by decide +kernel)
set_option maxRecDepth 20000 in
theorem gX5_ship_X4_goWith : GoodIn wsX5_ship (wsV RX5 165 RX4 yX4_goWith wsX4_goWith) := goodIn_app (goodIn_of _ (by decide +kernel)) ggX5_ship_X4_goWith
set_option maxRecDepth 20000 in
theorem ggX5_ship_X3_leave : GoodIn wsX5_ship wsX3_leave := goodIn_r _ [54, 20, 64, 65, 66] (by decide +kernel) (by decide +kernel)
set_option maxRecDepth 20000 in
theorem gX5_ship_X3_leave : GoodIn wsX5_ship (wsV RX5 171 RX3 yX3_leave wsX3_leave) := goodIn_app (goodIn_of _ (by decide +kernel)) ggX5_ship_X3_leave
theorem dX5_ship_0 : decode cX5_ship 0 = .ok (.aload_n 0, 1) := by decide +kernel
theorem dX5_ship_1 : decode cX5_ship 1 = .ok (.getfield 22, 3) := by decide +kernel
theorem dX5_ship_4 : decode cX5_ship 4 = .ok (.iload_n 1, 1) := by decide +kernel
theorem dX5_ship_5 : decode cX5_ship 5 = .ok (.invokevirtual 128, 3) := by decide +kernel
theorem dX5_ship_8 : decode cX5_ship 8 = .ok (.ifCond .ne 13, 3) := by decide +kernel
theorem dX5_ship_11 : decode cX5_ship 11 = .ok (.new 30, 3) := by decide +kernel
theorem dX5_ship_14 : decode cX5_ship 14 = .ok (.dup, 1) := by decide +kernel
theorem dX5_ship_15 : decode cX5_ship 15 = .ok (.ldc 154, 2) := by decide +kernel
theorem dX5_ship_17 : decode cX5_ship 17 = .ok (.invokespecial 34, 3) := by decide +kernel
theorem dX5_ship_20 : decode cX5_ship 20 = .ok (.athrow, 1) := by decide +kernel
theorem dX5_ship_21 : decode cX5_ship 21 = .ok (.aload_n 0, 1) := by decide +kernel
theorem dX5_ship_22 : decode cX5_ship 22 = .ok (.getfield 22, 3) := by decide +kernel
theorem dX5_ship_25 : decode cX5_ship 25 = .ok (.iload_n 1, 1) := by decide +kernel
theorem dX5_ship_26 : decode cX5_ship 26 = .ok (.aload_n 0, 1) := by decide +kernel
theorem dX5_ship_27 : decode cX5_ship 27 = .ok (.getfield 10, 3) := by decide +kernel
theorem dX5_ship_30 : decode cX5_ship 30 = .ok (.getfield 133, 3) := by decide +kernel
theorem dX5_ship_33 : decode cX5_ship 33 = .ok (.invokevirtual 136, 3) := by decide +kernel
theorem dX5_ship_36 : decode cX5_ship 36 = .ok (.ifCond .ne 28, 3) := by decide +kernel
theorem dX5_ship_39 : decode cX5_ship 39 = .ok (.aload_n 0, 1) := by decide +kernel
theorem dX5_ship_40 : decode cX5_ship 40 = .ok (.getfield 10, 3) := by decide +kernel
theorem dX5_ship_43 : decode cX5_ship 43 = .ok (.getfield 93, 3) := by decide +kernel
theorem dX5_ship_46 : decode cX5_ship 46 = .ok (.iload_n 1, 1) := by decide +kernel
theorem dX5_ship_47 : decode cX5_ship 47 = .ok (.invokevirtual 156, 3) := by decide +kernel
theorem dX5_ship_50 : decode cX5_ship 50 = .ok (.ifCond .eq 14, 3) := by decide +kernel
theorem dX5_ship_53 : decode cX5_ship 53 = .ok (.aload_n 0, 1) := by decide +kernel
theorem dX5_ship_54 : decode cX5_ship 54 = .ok (.getfield 10, 3) := by decide +kernel
theorem dX5_ship_57 : decode cX5_ship 57 = .ok (.invokevirtual 159, 3) := by decide +kernel
theorem dX5_ship_60 : decode cX5_ship 60 = .ok (.iconst 2, 1) := by decide +kernel
theorem dX5_ship_61 : decode cX5_ship 61 = .ok (.if_icmp .ge 13, 3) := by decide +kernel
theorem dX5_ship_64 : decode cX5_ship 64 = .ok (.new 58, 3) := by decide +kernel
theorem dX5_ship_67 : decode cX5_ship 67 = .ok (.dup, 1) := by decide +kernel
theorem dX5_ship_68 : decode cX5_ship 68 = .ok (.ldc 163, 2) := by decide +kernel
theorem dX5_ship_70 : decode cX5_ship 70 = .ok (.invokespecial 62, 3) := by decide +kernel
theorem dX5_ship_73 : decode cX5_ship 73 = .ok (.athrow, 1) := by decide +kernel
theorem dX5_ship_74 : decode cX5_ship 74 = .ok (.aload_n 0, 1) := by decide +kernel
theorem dX5_ship_75 : decode cX5_ship 75 = .ok (.getfield 10, 3) := by decide +kernel
theorem dX5_ship_78 : decode cX5_ship 78 = .ok (.getfield 93, 3) := by decide +kernel
theorem dX5_ship_81 : decode cX5_ship 81 = .ok (.iload_n 1, 1) := by decide +kernel
theorem dX5_ship_82 : decode cX5_ship 82 = .ok (.invokevirtual 165, 3) := by decide +kernel
theorem dX5_ship_85 : decode cX5_ship 85 = .ok (.istore_n 2, 1) := by decide +kernel
theorem dX5_ship_86 : decode cX5_ship 86 = .ok (.aload_n 0, 1) := by decide +kernel
theorem dX5_ship_87 : decode cX5_ship 87 = .ok (.dup, 1) := by decide +kernel
theorem dX5_ship_88 : decode cX5_ship 88 = .ok (.getfield 168, 3) := by decide +kernel
theorem dX5_ship_91 : decode cX5_ship 91 = .ok (.iload_n 2, 1) := by decide +kernel
theorem dX5_ship_92 : decode cX5_ship 92 = .ok (.iadd, 1) := by decide +kernel
theorem dX5_ship_93 : decode cX5_ship 93 = .ok (.putfield 168, 3) := by decide +kernel
theorem dX5_ship_96 : decode cX5_ship 96 = .ok (.aload_n 0, 1) := by decide +kernel
theorem dX5_ship_97 : decode cX5_ship 97 = .ok (.getfield 22, 3) := by decide +kernel
theorem dX5_ship_100 : decode cX5_ship 100 = .ok (.iload_n 1, 1) := by decide +kernel
theorem dX5_ship_101 : decode cX5_ship 101 = .ok (.aload_n 0, 1) := by decide +kernel
theorem dX5_ship_102 : decode cX5_ship 102 = .ok (.getfield 10, 3) := by decide +kernel
theorem dX5_ship_105 : decode cX5_ship 105 = .ok (.getfield 133, 3) := by decide +kernel
theorem dX5_ship_108 : decode cX5_ship 108 = .ok (.invokevirtual 171, 3) := by decide +kernel
theorem dX5_ship_111 : decode cX5_ship 111 = .ok (.iload_n 2, 1) := by decide +kernel
theorem dX5_ship_112 : decode cX5_ship 112 = .ok (.ireturn, 1) := by decide +kernel
set_option maxRecDepth 20000 in
theorem ggX5_bed_X0_has : GoodIn wsX5_bed wsX0_has := goodIn_r _ [9, 10, 51, 52, 53, 54, 55] (by decide +kernel) (by decide +kernel)
set_option maxRecDepth 20000 in
theorem gX5_bed_X0_has : GoodIn wsX5_bed (wsV RX5 87 RX0 yX0_has wsX0_has) := goodIn_app (goodIn_of _ (by decide +kernel)) ggX5_bed_X0_has
set_option maxRecDepth 20000 in
theorem ggX5_bed_X5_isWithin : GoodIn wsX5_bed wsX5_isWithin := goodIn_r _ [14] (by decide +kernel) (by decide +kernel)
set_option maxRecDepth 20000 in
theorem gX5_bed_X5_isWithin : GoodIn wsX5_bed (va_wsS RX5 26 yX5_isWithin wsX5_isWithin) := goodIn_app (goodIn_of _ (by decide +kernel)) ggX5_bed_X5_isWithin
set_option maxRecDepth 20000 in
theorem ggX5_bed_X2_bedFact : GoodIn wsX5_bed wsX2_bedFact := goodIn_r _ [19, 20, 21, 22, 23, 24, 25, 26, 27, 28, 29, 30, 31, 32, 33, 34, 35, 36, 37, 38, 39, 40, 41, 46, 47, 48, 49, 50, 51, 52, 53, 54, 55, 56, 57, 58, 59, 60, 61, 62, 63, 64, 65, 66, 67] (by decide +kernel) (by decide +kernel)
set_option maxRecDepth 20000 in
theorem gX5_bed_X2_bedFact : GoodIn wsX5_bed (wsV RX5 176 RX2 yX2_bedFact wsX2_bedFact) := goodIn_app (goodIn_of _ (by decide +kernel)) ggX5_bed_X2_bedFact
theorem dX5_bed_0 : decode cX5_bed 0 = .ok (.aload_n 0, 1) := by decide +kernel
theorem dX5_bed_1 : decode cX5_bed 1 = .ok (.getfield 10, 3) := by decide +kernel
theorem dX5_bed_4 : decode cX5_bed 4 = .ok (.getfield 48, 3) := by decide +kernel
theorem dX5_bed_7 : decode cX5_bed 7 = .ok (.iload_n 1, 1) := by decide +kernel
theorem dX5_bed_8 : decode cX5_bed 8 = .ok (.invokevirtual 87, 3) := by decide +kernel
theorem dX5_bed_11 : decode cX5_bed 11 = .ok (.ifCond .eq 12, 3) := by decide +kernel
theorem dX5_bed_14 : decode cX5_bed 14 = .ok (.iload_n 2, 1) := by decide +kernel
theorem dX5_bed_15 : decode cX5_bed 15 = .ok (.iconst 0, 1) := by decide +kernel
theorem dX5_bed_16 : decode cX5_bed 16 = .ok (.iconst 5, 1) := by decide +kernel
theorem dX5_bed_17 : decode cX5_bed 17 = .ok (.invokestatic 26, 3) := by decide +kernel
theorem dX5_bed_20 : decode cX5_bed 20 = .ok (.ifCond .ne 13, 3) := by decide +kernel
theorem dX5_bed_23 : decode cX5_bed 23 = .ok (.new 30, 3) := by decide +kernel
theorem dX5_bed_26 : decode cX5_bed 26 = .ok (.dup, 1) := by decide +kernel
theorem dX5_bed_27 : decode cX5_bed 27 = .ok (.ldc 174, 2) := by decide +kernel
theorem dX5_bed_29 : decode cX5_bed 29 = .ok (.invokespecial 34, 3) := by decide +kernel
theorem dX5_bed_32 : decode cX5_bed 32 = .ok (.athrow, 1) := by decide +kernel
theorem dX5_bed_33 : decode cX5_bed 33 = .ok (.aload_n 0, 1) := by decide +kernel
theorem dX5_bed_34 : decode cX5_bed 34 = .ok (.getfield 10, 3) := by decide +kernel
theorem dX5_bed_37 : decode cX5_bed 37 = .ok (.iload_n 1, 1) := by decide +kernel
theorem dX5_bed_38 : decode cX5_bed 38 = .ok (.iload_n 2, 1) := by decide +kernel
theorem dX5_bed_39 : decode cX5_bed 39 = .ok (.invokevirtual 176, 3) := by decide +kernel
theorem dX5_bed_42 : decode cX5_bed 42 = .ok (.ireturn, 1) := by decide +kernel
set_option maxRecDepth 20000 in
theorem ggX5_quarrier_X1_has : GoodIn wsX5_quarrier wsX1_has := goodIn_r _ [9, 10, 50, 51, 52, 53, 54] (by decide +kernel) (by decide +kernel)
set_option maxRecDepth 20000 in
theorem gX5_quarrier_X1_has : GoodIn wsX5_quarrier (wsV RX5 81 RX1 yX1_has wsX1_has) := goodIn_app (goodIn_of _ (by decide +kernel)) ggX5_quarrier_X1_has
set_option maxRecDepth 20000 in
theorem ggX5_quarrier_X5_isWithin : GoodIn wsX5_quarrier wsX5_isWithin := goodIn_r _ [14] (by decide +kernel) (by decide +kernel)
set_option maxRecDepth 20000 in
theorem gX5_quarrier_X5_isWithin : GoodIn wsX5_quarrier (va_wsS RX5 26 yX5_isWithin wsX5_isWithin) := goodIn_app (goodIn_of _ (by decide +kernel)) ggX5_quarrier_X5_isWithin
set_option maxRecDepth 20000 in
theorem ggX5_quarrier_X2_quarrierFact : GoodIn wsX5_quarrier wsX2_quarrierFact := goodIn_r _ [19, 20, 21, 22, 23, 24, 25, 26, 27, 18, 28, 29, 30, 31, 32, 33, 34, 35, 36, 37, 38, 39, 40, 45, 46, 47, 48, 49, 50, 51, 52, 53, 54, 55, 56, 57, 58, 59] (by decide +kernel) (by decide +kernel)
set_option maxRecDepth 20000 in
theorem gX5_quarrier_X2_quarrierFact : GoodIn wsX5_quarrier (wsV RX5 181 RX2 yX2_quarrierFact wsX2_quarrierFact) := goodIn_app (goodIn_of _ (by decide +kernel)) ggX5_quarrier_X2_quarrierFact
theorem dX5_quarrier_0 : decode cX5_quarrier 0 = .ok (.aload_n 0, 1) := by decide +kernel
theorem dX5_quarrier_1 : decode cX5_quarrier 1 = .ok (.getfield 10, 3) := by decide +kernel
theorem dX5_quarrier_4 : decode cX5_quarrier 4 = .ok (.getfield 69, 3) := by decide +kernel
theorem dX5_quarrier_7 : decode cX5_quarrier 7 = .ok (.iload_n 1, 1) := by decide +kernel
theorem dX5_quarrier_8 : decode cX5_quarrier 8 = .ok (.invokevirtual 81, 3) := by decide +kernel
theorem dX5_quarrier_11 : decode cX5_quarrier 11 = .ok (.ifCond .eq 12, 3) := by decide +kernel
theorem dX5_quarrier_14 : decode cX5_quarrier 14 = .ok (.iload_n 2, 1) := by decide +kernel
theorem dX5_quarrier_15 : decode cX5_quarrier 15 = .ok (.iconst 0, 1) := by decide +kernel
theorem dX5_quarrier_16 : decode cX5_quarrier 16 = .ok (.iconst 4, 1) := by decide +kernel
theorem dX5_quarrier_17 : decode cX5_quarrier 17 = .ok (.invokestatic 26, 3) := by decide +kernel
theorem dX5_quarrier_20 : decode cX5_quarrier 20 = .ok (.ifCond .ne 13, 3) := by decide +kernel
theorem dX5_quarrier_23 : decode cX5_quarrier 23 = .ok (.new 30, 3) := by decide +kernel
theorem dX5_quarrier_26 : decode cX5_quarrier 26 = .ok (.dup, 1) := by decide +kernel
theorem dX5_quarrier_27 : decode cX5_quarrier 27 = .ok (.ldc 179, 2) := by decide +kernel
theorem dX5_quarrier_29 : decode cX5_quarrier 29 = .ok (.invokespecial 34, 3) := by decide +kernel
theorem dX5_quarrier_32 : decode cX5_quarrier 32 = .ok (.athrow, 1) := by decide +kernel
theorem dX5_quarrier_33 : decode cX5_quarrier 33 = .ok (.aload_n 0, 1) := by decide +kernel
theorem dX5_quarrier_34 : decode cX5_quarrier 34 = .ok (.getfield 10, 3) := by decide +kernel
theorem dX5_quarrier_37 : decode cX5_quarrier 37 = .ok (.iload_n 1, 1) := by decide +kernel
theorem dX5_quarrier_38 : decode cX5_quarrier 38 = .ok (.iload_n 2, 1) := by decide +kernel
theorem dX5_quarrier_39 : decode cX5_quarrier 39 = .ok (.invokevirtual 181, 3) := by decide +kernel
theorem dX5_quarrier_42 : decode cX5_quarrier 42 = .ok (.ireturn, 1) := by decide +kernel
set_option maxRecDepth 20000 in
theorem ggX5_wheel_X4_has : GoodIn wsX5_wheel wsX4_has := goodIn_r _ [9, 10, 42, 43, 44, 45, 46, 47, 48] (by decide +kernel) (by decide +kernel)
set_option maxRecDepth 20000 in
theorem gX5_wheel_X4_has : GoodIn wsX5_wheel (wsV RX5 97 RX4 yX4_has wsX4_has) := goodIn_app (goodIn_of _ (by decide +kernel)) ggX5_wheel_X4_has
set_option maxRecDepth 20000 in
theorem ggX5_wheel_X5_isWithin : GoodIn wsX5_wheel wsX5_isWithin := goodIn_r _ [14] (by decide +kernel) (by decide +kernel)
set_option maxRecDepth 20000 in
theorem gX5_wheel_X5_isWithin : GoodIn wsX5_wheel (va_wsS RX5 26 yX5_isWithin wsX5_isWithin) := goodIn_app (goodIn_of _ (by decide +kernel)) ggX5_wheel_X5_isWithin
set_option maxRecDepth 20000 in
theorem ggX5_wheel_X4_fact : GoodIn wsX5_wheel wsX4_fact := goodIn_r _ [18, 19, 20, 21, 22, 23, 24, 25, 8, 26, 27, 28, 29, 30, 31, 32, 42, 43, 44, 45, 46, 47, 48] (by decide +kernel) (by decide +kernel)
set_option maxRecDepth 20000 in
theorem gX5_wheel_X4_fact : GoodIn wsX5_wheel (wsV RX5 186 RX4 yX4_fact wsX4_fact) := goodIn_app (goodIn_of _ (by decide +kernel)) ggX5_wheel_X4_fact
theorem dX5_wheel_0 : decode cX5_wheel 0 = .ok (.aload_n 0, 1) := by decide +kernel
theorem dX5_wheel_1 : decode cX5_wheel 1 = .ok (.getfield 10, 3) := by decide +kernel
theorem dX5_wheel_4 : decode cX5_wheel 4 = .ok (.getfield 93, 3) := by decide +kernel
theorem dX5_wheel_7 : decode cX5_wheel 7 = .ok (.iload_n 1, 1) := by decide +kernel
theorem dX5_wheel_8 : decode cX5_wheel 8 = .ok (.invokevirtual 97, 3) := by decide +kernel
theorem dX5_wheel_11 : decode cX5_wheel 11 = .ok (.ifCond .eq 12, 3) := by decide +kernel
theorem dX5_wheel_14 : decode cX5_wheel 14 = .ok (.iload_n 2, 1) := by decide +kernel
theorem dX5_wheel_15 : decode cX5_wheel 15 = .ok (.iconst 0, 1) := by decide +kernel
theorem dX5_wheel_16 : decode cX5_wheel 16 = .ok (.iconst 5, 1) := by decide +kernel
theorem dX5_wheel_17 : decode cX5_wheel 17 = .ok (.invokestatic 26, 3) := by decide +kernel
theorem dX5_wheel_20 : decode cX5_wheel 20 = .ok (.ifCond .ne 13, 3) := by decide +kernel
theorem dX5_wheel_23 : decode cX5_wheel 23 = .ok (.new 30, 3) := by decide +kernel
theorem dX5_wheel_26 : decode cX5_wheel 26 = .ok (.dup, 1) := by decide +kernel
theorem dX5_wheel_27 : decode cX5_wheel 27 = .ok (.ldc 184, 2) := by decide +kernel
theorem dX5_wheel_29 : decode cX5_wheel 29 = .ok (.invokespecial 34, 3) := by decide +kernel
theorem dX5_wheel_32 : decode cX5_wheel 32 = .ok (.athrow, 1) := by decide +kernel
theorem dX5_wheel_33 : decode cX5_wheel 33 = .ok (.aload_n 0, 1) := by decide +kernel
theorem dX5_wheel_34 : decode cX5_wheel 34 = .ok (.getfield 10, 3) := by decide +kernel
theorem dX5_wheel_37 : decode cX5_wheel 37 = .ok (.getfield 93, 3) := by decide +kernel
theorem dX5_wheel_40 : decode cX5_wheel 40 = .ok (.iload_n 1, 1) := by decide +kernel
theorem dX5_wheel_41 : decode cX5_wheel 41 = .ok (.iload_n 2, 1) := by decide +kernel
theorem dX5_wheel_42 : decode cX5_wheel 42 = .ok (.invokevirtual 186, 3) := by decide +kernel
theorem dX5_wheel_45 : decode cX5_wheel 45 = .ok (.ireturn, 1) := by decide +kernel
set_option maxRecDepth 20000 in
theorem ggX5_raft_X3_has : GoodIn wsX5_raft wsX3_has := goodIn_r _ [8, 9, 51, 52, 53] (by decide +kernel) (by decide +kernel)
set_option maxRecDepth 20000 in
theorem gX5_raft_X3_has : GoodIn wsX5_raft (wsV RX5 128 RX3 yX3_has wsX3_has) := goodIn_app (goodIn_of _ (by decide +kernel)) ggX5_raft_X3_has
set_option maxRecDepth 20000 in
theorem ggX5_raft_X5_isWithin : GoodIn wsX5_raft wsX5_isWithin := goodIn_r _ [13] (by decide +kernel) (by decide +kernel)
set_option maxRecDepth 20000 in
theorem gX5_raft_X5_isWithin : GoodIn wsX5_raft (va_wsS RX5 26 yX5_isWithin wsX5_isWithin) := goodIn_app (goodIn_of _ (by decide +kernel)) ggX5_raft_X5_isWithin
set_option maxRecDepth 20000 in
theorem ggX5_raft_X5_raftFact : GoodIn wsX5_raft wsX5_raftFact := goodIn_r _ [17, 3, 18, 19, 20, 21, 22, 23, 24, 12, 25, 26, 27, 28, 29, 30, 31, 32, 33, 34, 35, 36, 37, 38, 39, 40, 41, 42, 43, 44, 7, 45, 46, 47, 48, 49, 50, 51, 52, 53, 54, 55, 56, 57, 58, 59, 60, 61, 62, 63, 64, 65] (by decide +kernel) (by decide +kernel)
set_option maxRecDepth 20000 in
theorem gX5_raft_X5_raftFact : GoodIn wsX5_raft (wsV RX5 191 RX5 yX5_raftFact wsX5_raftFact) := goodIn_app (goodIn_of _ (by decide +kernel)) ggX5_raft_X5_raftFact
theorem dX5_raft_0 : decode cX5_raft 0 = .ok (.aload_n 0, 1) := by decide +kernel
theorem dX5_raft_1 : decode cX5_raft 1 = .ok (.getfield 22, 3) := by decide +kernel
theorem dX5_raft_4 : decode cX5_raft 4 = .ok (.iload_n 1, 1) := by decide +kernel
theorem dX5_raft_5 : decode cX5_raft 5 = .ok (.invokevirtual 128, 3) := by decide +kernel
theorem dX5_raft_8 : decode cX5_raft 8 = .ok (.ifCond .eq 12, 3) := by decide +kernel
theorem dX5_raft_11 : decode cX5_raft 11 = .ok (.iload_n 2, 1) := by decide +kernel
theorem dX5_raft_12 : decode cX5_raft 12 = .ok (.iconst 0, 1) := by decide +kernel
theorem dX5_raft_13 : decode cX5_raft 13 = .ok (.iconst 3, 1) := by decide +kernel
theorem dX5_raft_14 : decode cX5_raft 14 = .ok (.invokestatic 26, 3) := by decide +kernel
theorem dX5_raft_17 : decode cX5_raft 17 = .ok (.ifCond .ne 13, 3) := by decide +kernel
theorem dX5_raft_20 : decode cX5_raft 20 = .ok (.new 30, 3) := by decide +kernel
theorem dX5_raft_23 : decode cX5_raft 23 = .ok (.dup, 1) := by decide +kernel
theorem dX5_raft_24 : decode cX5_raft 24 = .ok (.ldc 189, 2) := by decide +kernel
theorem dX5_raft_26 : decode cX5_raft 26 = .ok (.invokespecial 34, 3) := by decide +kernel
theorem dX5_raft_29 : decode cX5_raft 29 = .ok (.athrow, 1) := by decide +kernel
theorem dX5_raft_30 : decode cX5_raft 30 = .ok (.aload_n 0, 1) := by decide +kernel
theorem dX5_raft_31 : decode cX5_raft 31 = .ok (.iload_n 1, 1) := by decide +kernel
theorem dX5_raft_32 : decode cX5_raft 32 = .ok (.iload_n 2, 1) := by decide +kernel
theorem dX5_raft_33 : decode cX5_raft 33 = .ok (.invokevirtual 191, 3) := by decide +kernel
theorem dX5_raft_36 : decode cX5_raft 36 = .ok (.ireturn, 1) := by decide +kernel
set_option maxRecDepth 20000 in
theorem ggX5_count_X5_isWithin : GoodIn wsX5_count wsX5_isWithin := goodIn_r _ [6] (by decide +kernel) (by decide +kernel)
set_option maxRecDepth 20000 in
theorem gX5_count_X5_isWithin : GoodIn wsX5_count (va_wsS RX5 26 yX5_isWithin wsX5_isWithin) := goodIn_app (goodIn_of _ (by decide +kernel)) ggX5_count_X5_isWithin
set_option maxRecDepth 20000 in
theorem ggX5_count_X5_countOf : GoodIn wsX5_count wsX5_countOf := goodIn_r _ [10, 11, 12, 13, 14, 15, 16, 17, 18, 19, 20, 21, 22, 23, 24, 25, 26, 27, 28, 29, 30, 31, 32, 33, 34, 35, 36, 37, 38, 39, 40, 41, 42, 43, 44, 45, 46, 47, 48, 49, 50, 51, 52, 53, 54, 55, 56, 57, 58, 59, 60, 61, 62, 63, 64, 65, 66, 67, 68, 69] (by decide +kernel) (by decide +kernel)
set_option maxRecDepth 20000 in
theorem gX5_count_X5_countOf : GoodIn wsX5_count (wsV RX5 196 RX5 yX5_countOf wsX5_countOf) := goodIn_app (goodIn_of _ (by decide +kernel)) ggX5_count_X5_countOf
theorem dX5_count_0 : decode cX5_count 0 = .ok (.iload_n 1, 1) := by decide +kernel
theorem dX5_count_1 : decode cX5_count 1 = .ok (.iconst 0, 1) := by decide +kernel
theorem dX5_count_2 : decode cX5_count 2 = .ok (.bipush 9, 2) := by decide +kernel
theorem dX5_count_4 : decode cX5_count 4 = .ok (.invokestatic 26, 3) := by decide +kernel
theorem dX5_count_7 : decode cX5_count 7 = .ok (.ifCond .ne 13, 3) := by decide +kernel
theorem dX5_count_10 : decode cX5_count 10 = .ok (.new 30, 3) := by decide +kernel
theorem dX5_count_13 : decode cX5_count 13 = .ok (.dup, 1) := by decide +kernel
theorem dX5_count_14 : decode cX5_count 14 = .ok (.ldc 194, 2) := by decide +kernel
theorem dX5_count_16 : decode cX5_count 16 = .ok (.invokespecial 34, 3) := by decide +kernel
theorem dX5_count_19 : decode cX5_count 19 = .ok (.athrow, 1) := by decide +kernel
theorem dX5_count_20 : decode cX5_count 20 = .ok (.aload_n 0, 1) := by decide +kernel
theorem dX5_count_21 : decode cX5_count 21 = .ok (.iload_n 1, 1) := by decide +kernel
theorem dX5_count_22 : decode cX5_count 22 = .ok (.invokevirtual 196, 3) := by decide +kernel
theorem dX5_count_25 : decode cX5_count 25 = .ok (.ireturn, 1) := by decide +kernel
set_option maxRecDepth 20000 in
theorem ggX5_pass_X5_isWithin : GoodIn wsX5_pass wsX5_isWithin := goodIn_r _ [9] (by decide +kernel) (by decide +kernel)
set_option maxRecDepth 20000 in
theorem gX5_pass_X5_isWithin : GoodIn wsX5_pass (va_wsS RX5 26 yX5_isWithin wsX5_isWithin) := goodIn_app (goodIn_of _ (by decide +kernel)) ggX5_pass_X5_isWithin
set_option maxRecDepth 20000 in
theorem ggX5_pass_X2_goOn : GoodIn wsX5_pass wsX2_goOn := goodIn_r _ [14, 15, 16, 17, 13, 18, 19, 20, 21, 22, 23, 24, 25, 26, 27, 28, 29, 30, 31, 32, 33, 34, 35, 36, 37, 38, 39, 40, 41, 42, 43, 44, 45, 46, 47, 48, 49, 50, 51, 52, 53, 54, 55, 56, 57, 58, 59, 60, 61, 62, 63, 64, 65, 66, 67, 68, 69, 70, 71, 72, 73, 74, 75, 76, 77, 78, 79, 80, 81, 82, 83, 84, 85, 86, 87, 88, 89, 90, 91, 92, 93, 94, 95, 96, 97, 98, 99, 100, 101, 102, 103, 104, 105, 106, 107, 108, 109, 110, 115, 116, 117, 118, 119, 127, 128, 129, 130, 131, 120, 121, 122, 123, 124, 125, 126, 132, 133, 134, 135, 136] (by decide +kernel) (by decide +kernel)
set_option maxRecDepth 20000 in
theorem gX5_pass_X2_goOn : GoodIn wsX5_pass (wsV RX5 202 RX2 yX2_goOn wsX2_goOn) := goodIn_app (goodIn_of _ (by decide +kernel)) ggX5_pass_X2_goOn
theorem dX5_pass_0 : decode cX5_pass 0 = .ok (.iload_n 1, 1) := by decide +kernel
theorem dX5_pass_1 : decode cX5_pass 1 = .ok (.iconst 1, 1) := by decide +kernel
theorem dX5_pass_2 : decode cX5_pass 2 = .ok (.bipush 40, 2) := by decide +kernel
theorem dX5_pass_4 : decode cX5_pass 4 = .ok (.invokestatic 26, 3) := by decide +kernel
theorem dX5_pass_7 : decode cX5_pass 7 = .ok (.ifCond .ne 13, 3) := by decide +kernel
theorem dX5_pass_10 : decode cX5_pass 10 = .ok (.new 37, 3) := by decide +kernel
theorem dX5_pass_13 : decode cX5_pass 13 = .ok (.dup, 1) := by decide +kernel
theorem dX5_pass_14 : decode cX5_pass 14 = .ok (.ldc 199, 2) := by decide +kernel
theorem dX5_pass_16 : decode cX5_pass 16 = .ok (.invokespecial 41, 3) := by decide +kernel
theorem dX5_pass_19 : decode cX5_pass 19 = .ok (.athrow, 1) := by decide +kernel
theorem dX5_pass_20 : decode cX5_pass 20 = .ok (.aload_n 0, 1) := by decide +kernel
theorem dX5_pass_21 : decode cX5_pass 21 = .ok (.getfield 10, 3) := by decide +kernel
theorem dX5_pass_24 : decode cX5_pass 24 = .ok (.getfield 93, 3) := by decide +kernel
theorem dX5_pass_27 : decode cX5_pass 27 = .ok (.getfield 201, 3) := by decide +kernel
theorem dX5_pass_30 : decode cX5_pass 30 = .ok (.istore_n 2, 1) := by decide +kernel
theorem dX5_pass_31 : decode cX5_pass 31 = .ok (.aload_n 0, 1) := by decide +kernel
theorem dX5_pass_32 : decode cX5_pass 32 = .ok (.getfield 10, 3) := by decide +kernel
theorem dX5_pass_35 : decode cX5_pass 35 = .ok (.iload_n 1, 1) := by decide +kernel
theorem dX5_pass_36 : decode cX5_pass 36 = .ok (.invokevirtual 202, 3) := by decide +kernel
theorem dX5_pass_39 : decode cX5_pass 39 = .ok (.aload_n 0, 1) := by decide +kernel
theorem dX5_pass_40 : decode cX5_pass 40 = .ok (.getfield 10, 3) := by decide +kernel
theorem dX5_pass_43 : decode cX5_pass 43 = .ok (.getfield 93, 3) := by decide +kernel
theorem dX5_pass_46 : decode cX5_pass 46 = .ok (.getfield 201, 3) := by decide +kernel
theorem dX5_pass_49 : decode cX5_pass 49 = .ok (.iload_n 2, 1) := by decide +kernel
theorem dX5_pass_50 : decode cX5_pass 50 = .ok (.isub, 1) := by decide +kernel
theorem dX5_pass_51 : decode cX5_pass 51 = .ok (.ireturn, 1) := by decide +kernel
set_option maxRecDepth 20000 in
theorem ggX5_foresee_X5_isWithin : GoodIn wsX5_foresee wsX5_isWithin := goodIn_r _ [10] (by decide +kernel) (by decide +kernel)
set_option maxRecDepth 20000 in
theorem gX5_foresee_X5_isWithin : GoodIn wsX5_foresee (va_wsS RX5 26 yX5_isWithin wsX5_isWithin) := goodIn_app (goodIn_of _ (by decide +kernel)) ggX5_foresee_X5_isWithin
set_option maxRecDepth 20000 in
theorem ggX5_foresee_X2_copyFrom : GoodIn wsX5_foresee wsX2_copyFrom := goodIn_r _ [15, 16, 17, 18, 19, 20, 21, 22, 23, 24, 25, 26, 27, 28, 29, 30, 31, 32, 33, 34, 35, 36, 37, 38, 39, 40, 41, 42, 43, 44, 45, 46, 47, 48, 49, 50, 51, 52, 147, 148, 149, 150, 151, 152, 153, 154, 155, 156, 157, 158, 159, 160, 161, 162, 163, 164, 165, 166, 167, 168] (by decide +kernel) (by decide +kernel)
set_option maxRecDepth 20000 in
theorem gX5_foresee_X2_copyFrom : GoodIn wsX5_foresee (wsV RX5 208 RX2 yX2_copyFrom wsX2_copyFrom) := goodIn_app (goodIn_of _ (by decide +kernel)) ggX5_foresee_X2_copyFrom
set_option maxRecDepth 20000 in
theorem ggX5_foresee_X2_goOn : GoodIn wsX5_foresee wsX2_goOn := goodIn_r _ [56, 57, 58, 59, 14, 60, 19, 61, 20, 16, 62, 63, 64, 65, 66, 18, 67, 68, 69, 70, 71, 72, 73, 24, 74, 26, 75, 76, 77, 34, 78, 39, 79, 80, 81, 82, 27, 83, 84, 85, 86, 40, 37, 87, 88, 89, 90, 91, 92, 93, 94, 95, 96, 97, 98, 99, 100, 101, 102, 103, 104, 105, 106, 107, 44, 108, 46, 47, 48, 49, 50, 51, 52, 109, 110, 111, 112, 36, 38, 113, 114, 115, 116, 117, 118, 119, 120, 121, 122, 17, 123, 124, 125, 126, 127, 128, 129, 130, 147, 148, 149, 150, 151, 157, 158, 159, 160, 161, 162, 163, 164, 165, 166, 167, 168, 152, 153, 154, 155, 156] (by decide +kernel) (by decide +kernel)
set_option maxRecDepth 20000 in
theorem gX5_foresee_X2_goOn : GoodIn wsX5_foresee (wsV RX5 202 RX2 yX2_goOn wsX2_goOn) := goodIn_app (goodIn_of _ (by decide +kernel)) ggX5_foresee_X2_goOn
set_option maxRecDepth 20000 in
theorem ggX5_foresee_X2_countOf : GoodIn wsX5_foresee wsX2_countOf := goodIn_r _ [134, 16, 20, 68, 19, 119, 120, 121, 14, 122, 17, 123, 124, 125, 126, 115, 116, 117, 118, 135, 136, 137, 44, 138, 46, 51, 139, 140, 141, 34, 142, 36, 39, 147, 148, 149, 150, 151, 162, 163, 164, 165, 166, 167, 168, 157, 158, 159, 160, 161] (by decide +kernel) (by decide +kernel)
set_option maxRecDepth 20000 in
theorem gX5_foresee_X2_countOf : GoodIn wsX5_foresee (wsV RX5 212 RX2 yX2_countOf wsX2_countOf) := goodIn_app (goodIn_of _ (by decide +kernel)) ggX5_foresee_X2_countOf
theorem dX5_foresee_0 : decode cX5_foresee 0 = .ok (.iload_n 1, 1) := by decide +kernel
theorem dX5_foresee_1 : decode cX5_foresee 1 = .ok (.iconst 1, 1) := by decide +kernel
theorem dX5_foresee_2 : decode cX5_foresee 2 = .ok (.bipush 40, 2) := by decide +kernel
theorem dX5_foresee_4 : decode cX5_foresee 4 = .ok (.invokestatic 26, 3) := by decide +kernel
theorem dX5_foresee_7 : decode cX5_foresee 7 = .ok (.ifCond .ne 13, 3) := by decide +kernel
theorem dX5_foresee_10 : decode cX5_foresee 10 = .ok (.new 37, 3) := by decide +kernel
theorem dX5_foresee_13 : decode cX5_foresee 13 = .ok (.dup, 1) := by decide +kernel
theorem dX5_foresee_14 : decode cX5_foresee 14 = .ok (.ldc 199, 2) := by decide +kernel
theorem dX5_foresee_16 : decode cX5_foresee 16 = .ok (.invokespecial 41, 3) := by decide +kernel
theorem dX5_foresee_19 : decode cX5_foresee 19 = .ok (.athrow, 1) := by decide +kernel
theorem dX5_foresee_20 : decode cX5_foresee 20 = .ok (.iload_n 2, 1) := by decide +kernel
theorem dX5_foresee_21 : decode cX5_foresee 21 = .ok (.iconst 3, 1) := by decide +kernel
theorem dX5_foresee_22 : decode cX5_foresee 22 = .ok (.iconst 5, 1) := by decide +kernel
theorem dX5_foresee_23 : decode cX5_foresee 23 = .ok (.invokestatic 26, 3) := by decide +kernel
theorem dX5_foresee_26 : decode cX5_foresee 26 = .ok (.ifCond .ne 19, 3) := by decide +kernel
theorem dX5_foresee_29 : decode cX5_foresee 29 = .ok (.iload_n 2, 1) := by decide +kernel
theorem dX5_foresee_30 : decode cX5_foresee 30 = .ok (.bipush 9, 2) := by decide +kernel
theorem dX5_foresee_32 : decode cX5_foresee 32 = .ok (.if_icmp .eq 13, 3) := by decide +kernel
theorem dX5_foresee_35 : decode cX5_foresee 35 = .ok (.new 30, 3) := by decide +kernel
theorem dX5_foresee_38 : decode cX5_foresee 38 = .ok (.dup, 1) := by decide +kernel
theorem dX5_foresee_39 : decode cX5_foresee 39 = .ok (.ldc 206, 2) := by decide +kernel
theorem dX5_foresee_41 : decode cX5_foresee 41 = .ok (.invokespecial 34, 3) := by decide +kernel
theorem dX5_foresee_44 : decode cX5_foresee 44 = .ok (.athrow, 1) := by decide +kernel
theorem dX5_foresee_45 : decode cX5_foresee 45 = .ok (.aload_n 0, 1) := by decide +kernel
theorem dX5_foresee_46 : decode cX5_foresee 46 = .ok (.getfield 16, 3) := by decide +kernel
theorem dX5_foresee_49 : decode cX5_foresee 49 = .ok (.aload_n 0, 1) := by decide +kernel
theorem dX5_foresee_50 : decode cX5_foresee 50 = .ok (.getfield 10, 3) := by decide +kernel
theorem dX5_foresee_53 : decode cX5_foresee 53 = .ok (.invokevirtual 208, 3) := by decide +kernel
theorem dX5_foresee_56 : decode cX5_foresee 56 = .ok (.aload_n 0, 1) := by decide +kernel
theorem dX5_foresee_57 : decode cX5_foresee 57 = .ok (.getfield 16, 3) := by decide +kernel
theorem dX5_foresee_60 : decode cX5_foresee 60 = .ok (.iload_n 1, 1) := by decide +kernel
theorem dX5_foresee_61 : decode cX5_foresee 61 = .ok (.invokevirtual 202, 3) := by decide +kernel
theorem dX5_foresee_64 : decode cX5_foresee 64 = .ok (.aload_n 0, 1) := by decide +kernel
theorem dX5_foresee_65 : decode cX5_foresee 65 = .ok (.getfield 16, 3) := by decide +kernel
theorem dX5_foresee_68 : decode cX5_foresee 68 = .ok (.iload_n 2, 1) := by decide +kernel
theorem dX5_foresee_69 : decode cX5_foresee 69 = .ok (.invokevirtual 212, 3) := by decide +kernel
theorem dX5_foresee_72 : decode cX5_foresee 72 = .ok (.ireturn, 1) := by decide +kernel
set_option maxRecDepth 20000 in
theorem ggX5_advise_X1_has : GoodIn wsX5_advise wsX1_has := goodIn_r _ [13, 14, 166, 167, 168, 169, 170] (by decide +kernel) (by decide +kernel)
set_option maxRecDepth 20000 in
theorem gX5_advise_X1_has : GoodIn wsX5_advise (wsV RX5 81 RX1 yX1_has wsX1_has) := goodIn_app (goodIn_of _ (by decide +kernel)) ggX5_advise_X1_has
set_option maxRecDepth 20000 in
theorem ggX5_advise_X5_isWithin : GoodIn wsX5_advise wsX5_isWithin := goodIn_r _ [18] (by decide +kernel) (by decide +kernel)
set_option maxRecDepth 20000 in
theorem gX5_advise_X5_isWithin : GoodIn wsX5_advise (va_wsS RX5 26 yX5_isWithin wsX5_isWithin) := goodIn_app (goodIn_of _ (by decide +kernel)) ggX5_advise_X5_isWithin
set_option maxRecDepth 20000 in
theorem ggX5_advise_X5_worthIfSent : GoodIn wsX5_advise wsX5_worthIfSent := goodIn_r _ [22, 23, 5, 6, 24, 25, 26, 27, 28, 29, 30, 31, 32, 33, 34, 35, 36, 37, 38, 39, 40, 41, 42, 43, 44, 45, 46, 47, 48, 12, 49, 14, 50, 51, 52, 53, 54, 55, 56, 57, 58, 59, 60, 61, 62, 63, 64, 65, 66, 67, 68, 69, 70, 71, 72, 73, 74, 75, 76, 77, 78, 79, 80, 81, 82, 83, 84, 85, 86, 87, 88, 89, 90, 91, 92, 93, 94, 95, 96, 97, 98, 99, 100, 101, 102, 103, 104, 105, 106, 107, 108, 109, 110, 111, 112, 113, 114, 115, 116, 117, 118, 119, 120, 121, 122, 123, 124, 125, 126, 127, 128, 129, 130, 131, 132, 133, 134, 135, 136, 137, 138, 139, 140, 141, 142, 143, 144, 145, 146, 147, 148, 149, 150, 151, 152, 153, 154, 155, 156, 157, 158, 159, 160, 166, 167, 168, 169, 170, 161, 162, 163, 164, 165, 171, 172, 173, 174, 175, 176, 177] (by decide +kernel) (by decide +kernel)
set_option maxRecDepth 20000 in
theorem gX5_advise_X5_worthIfSent : GoodIn wsX5_advise (wsV RX5 215 RX5 yX5_worthIfSent wsX5_worthIfSent) := goodIn_app (goodIn_of _ (by decide +kernel)) ggX5_advise_X5_worthIfSent
theorem dX5_advise_0 : decode cX5_advise 0 = .ok (.aload_n 0, 1) := by decide +kernel
theorem dX5_advise_1 : decode cX5_advise 1 = .ok (.getfield 10, 3) := by decide +kernel
theorem dX5_advise_4 : decode cX5_advise 4 = .ok (.getfield 69, 3) := by decide +kernel
theorem dX5_advise_7 : decode cX5_advise 7 = .ok (.iload_n 1, 1) := by decide +kernel
theorem dX5_advise_8 : decode cX5_advise 8 = .ok (.invokevirtual 81, 3) := by decide +kernel
theorem dX5_advise_11 : decode cX5_advise 11 = .ok (.ifCond .ne 13, 3) := by decide +kernel
theorem dX5_advise_14 : decode cX5_advise 14 = .ok (.new 30, 3) := by decide +kernel
theorem dX5_advise_17 : decode cX5_advise 17 = .ok (.dup, 1) := by decide +kernel
theorem dX5_advise_18 : decode cX5_advise 18 = .ok (.ldc 85, 2) := by decide +kernel
theorem dX5_advise_20 : decode cX5_advise 20 = .ok (.invokespecial 34, 3) := by decide +kernel
theorem dX5_advise_23 : decode cX5_advise 23 = .ok (.athrow, 1) := by decide +kernel
theorem dX5_advise_24 : decode cX5_advise 24 = .ok (.iload_n 2, 1) := by decide +kernel
theorem dX5_advise_25 : decode cX5_advise 25 = .ok (.iconst 1, 1) := by decide +kernel
theorem dX5_advise_26 : decode cX5_advise 26 = .ok (.bipush 20, 2) := by decide +kernel
theorem dX5_advise_28 : decode cX5_advise 28 = .ok (.invokestatic 26, 3) := by decide +kernel
theorem dX5_advise_31 : decode cX5_advise 31 = .ok (.ifCond .ne 13, 3) := by decide +kernel
theorem dX5_advise_34 : decode cX5_advise 34 = .ok (.new 37, 3) := by decide +kernel
theorem dX5_advise_37 : decode cX5_advise 37 = .ok (.dup, 1) := by decide +kernel
theorem dX5_advise_38 : decode cX5_advise 38 = .ok (.ldc 213, 2) := by decide +kernel
theorem dX5_advise_40 : decode cX5_advise 40 = .ok (.invokespecial 41, 3) := by decide +kernel
theorem dX5_advise_43 : decode cX5_advise 43 = .ok (.athrow, 1) := by decide +kernel
theorem dX5_advise_44 : decode cX5_advise 44 = .ok (.iconst (-1), 1) := by decide +kernel
theorem dX5_advise_45 : decode cX5_advise 45 = .ok (.istore_n 3, 1) := by decide +kernel
theorem dX5_advise_46 : decode cX5_advise 46 = .ok (.iconst 0, 1) := by decide +kernel
theorem dX5_advise_47 : decode cX5_advise 47 = .ok (.istore 4, 2) := by decide +kernel
theorem dX5_advise_49 : decode cX5_advise 49 = .ok (.iconst 0, 1) := by decide +kernel
theorem dX5_advise_50 : decode cX5_advise 50 = .ok (.istore 5, 2) := by decide +kernel
theorem dX5_advise_52 : decode cX5_advise 52 = .ok (.iload 5, 2) := by decide +kernel
theorem dX5_advise_54 : decode cX5_advise 54 = .ok (.aload_n 0, 1) := by decide +kernel
theorem dX5_advise_55 : decode cX5_advise 55 = .ok (.getfield 10, 3) := by decide +kernel
theorem dX5_advise_58 : decode cX5_advise 58 = .ok (.getfield 48, 3) := by decide +kernel
theorem dX5_advise_61 : decode cX5_advise 61 = .ok (.getfield 52, 3) := by decide +kernel
theorem dX5_advise_64 : decode cX5_advise 64 = .ok (.if_icmp .ge 38, 3) := by decide +kernel
theorem dX5_advise_67 : decode cX5_advise 67 = .ok (.aload_n 0, 1) := by decide +kernel
theorem dX5_advise_68 : decode cX5_advise 68 = .ok (.iload_n 1, 1) := by decide +kernel
theorem dX5_advise_69 : decode cX5_advise 69 = .ok (.iload 5, 2) := by decide +kernel
theorem dX5_advise_71 : decode cX5_advise 71 = .ok (.iload_n 2, 1) := by decide +kernel
theorem dX5_advise_72 : decode cX5_advise 72 = .ok (.invokevirtual 215, 3) := by decide +kernel
theorem dX5_advise_75 : decode cX5_advise 75 = .ok (.istore 6, 2) := by decide +kernel
theorem dX5_advise_77 : decode cX5_advise 77 = .ok (.iload_n 3, 1) := by decide +kernel
theorem dX5_advise_78 : decode cX5_advise 78 = .ok (.iconst (-1), 1) := by decide +kernel
theorem dX5_advise_79 : decode cX5_advise 79 = .ok (.if_icmp .eq 10, 3) := by decide +kernel
theorem dX5_advise_82 : decode cX5_advise 82 = .ok (.iload 6, 2) := by decide +kernel
theorem dX5_advise_84 : decode cX5_advise 84 = .ok (.iload 4, 2) := by decide +kernel
theorem dX5_advise_86 : decode cX5_advise 86 = .ok (.if_icmp .le 10, 3) := by decide +kernel
theorem dX5_advise_89 : decode cX5_advise 89 = .ok (.iload 5, 2) := by decide +kernel
theorem dX5_advise_91 : decode cX5_advise 91 = .ok (.istore_n 3, 1) := by decide +kernel
theorem dX5_advise_92 : decode cX5_advise 92 = .ok (.iload 6, 2) := by decide +kernel
theorem dX5_advise_94 : decode cX5_advise 94 = .ok (.istore 4, 2) := by decide +kernel
theorem dX5_advise_96 : decode cX5_advise 96 = .ok (.iinc 5 1, 3) := by decide +kernel
theorem dX5_advise_99 : decode cX5_advise 99 = .ok (.goto (-47), 3) := by decide +kernel
theorem dX5_advise_102 : decode cX5_advise 102 = .ok (.iload_n 3, 1) := by decide +kernel
theorem dX5_advise_103 : decode cX5_advise 103 = .ok (.ireturn, 1) := by decide +kernel
set_option maxRecDepth 20000 in
theorem ggX5_share_X4_numberSound : GoodIn wsX5_share wsX4_numberSound := goodIn_r _ [8, 9, 10, 20, 21, 22, 23, 24, 25, 26] (by decide +kernel) (by decide +kernel)
set_option maxRecDepth 20000 in
theorem gX5_share_X4_numberSound : GoodIn wsX5_share (wsV RX5 218 RX4 yX4_numberSound wsX4_numberSound) := goodIn_app (goodIn_of _ (by decide +kernel)) ggX5_share_X4_numberSound
theorem dX5_share_0 : decode cX5_share 0 = .ok (.aload_n 0, 1) := by decide +kernel
theorem dX5_share_1 : decode cX5_share 1 = .ok (.getfield 10, 3) := by decide +kernel
theorem dX5_share_4 : decode cX5_share 4 = .ok (.getfield 93, 3) := by decide +kernel
theorem dX5_share_7 : decode cX5_share 7 = .ok (.getfield 201, 3) := by decide +kernel
theorem dX5_share_10 : decode cX5_share 10 = .ok (.istore_n 1, 1) := by decide +kernel
theorem dX5_share_11 : decode cX5_share 11 = .ok (.iload_n 1, 1) := by decide +kernel
theorem dX5_share_12 : decode cX5_share 12 = .ok (.ifCond .ne 7, 3) := by decide +kernel
theorem dX5_share_15 : decode cX5_share 15 = .ok (.dconst 0, 1) := by decide +kernel
theorem dX5_share_16 : decode cX5_share 16 = .ok (.goto 17, 3) := by decide +kernel
theorem dX5_share_19 : decode cX5_share 19 = .ok (.aload_n 0, 1) := by decide +kernel
theorem dX5_share_20 : decode cX5_share 20 = .ok (.getfield 10, 3) := by decide +kernel
theorem dX5_share_23 : decode cX5_share 23 = .ok (.getfield 93, 3) := by decide +kernel
theorem dX5_share_26 : decode cX5_share 26 = .ok (.invokevirtual 218, 3) := by decide +kernel
theorem dX5_share_29 : decode cX5_share 29 = .ok (.i2d, 1) := by decide +kernel
theorem dX5_share_30 : decode cX5_share 30 = .ok (.iload_n 1, 1) := by decide +kernel
theorem dX5_share_31 : decode cX5_share 31 = .ok (.i2d, 1) := by decide +kernel
theorem dX5_share_32 : decode cX5_share 32 = .ok (.ddiv, 1) := by decide +kernel
theorem dX5_share_33 : decode cX5_share 33 = .ok (.dreturn, 1) := by decide +kernel
set_option maxRecDepth 20000 in
theorem ggX5_digest_X5_countOf : GoodIn wsX5_digest wsX5_countOf := goodIn_r _ [16, 17, 2, 18, 19, 20, 21, 22, 23, 24, 25, 26, 27, 28, 29, 30, 31, 32, 33, 34, 35, 36, 37, 38, 39, 40, 41, 42, 43, 44, 45, 46, 47, 48, 49, 50, 51, 52, 53, 140, 141, 142, 143, 144, 145, 146, 147, 148, 159, 160, 161, 162, 163, 164, 165, 154, 155, 156, 157, 158] (by decide +kernel) (by decide +kernel)
set_option maxRecDepth 20000 in
theorem gX5_digest_X5_countOf : GoodIn wsX5_digest (wsV RX5 196 RX5 yX5_countOf wsX5_countOf) := goodIn_app (goodIn_of _ (by decide +kernel)) ggX5_digest_X5_countOf
set_option maxRecDepth 20000 in
theorem ggX5_digest_X5_joined : GoodIn wsX5_digest wsX5_joined := goodIn_r _ [56, 57] (by decide +kernel) (by decide +kernel)
set_option maxRecDepth 20000 in
theorem gX5_digest_X5_joined : GoodIn wsX5_digest (va_wsS RX5 223 yX5_joined wsX5_joined) := goodIn_app (goodIn_of _ (by decide +kernel)) ggX5_digest_X5_joined
set_option maxRecDepth 20000 in
theorem ggX5_digest_X2_bedFact : GoodIn wsX5_digest wsX2_bedFact := goodIn_r _ [61, 62, 63, 64, 65, 26, 66, 24, 67, 68, 69, 50, 70, 52, 71, 72, 73, 74, 43, 75, 45, 76, 77, 144, 145, 146, 147, 148, 149, 150, 151, 152, 153, 154, 155, 156, 157, 158, 159, 160, 161, 162, 163, 164, 165] (by decide +kernel) (by decide +kernel)
set_option maxRecDepth 20000 in
theorem gX5_digest_X2_bedFact : GoodIn wsX5_digest (wsV RX5 176 RX2 yX2_bedFact wsX2_bedFact) := goodIn_app (goodIn_of _ (by decide +kernel)) ggX5_digest_X2_bedFact
set_option maxRecDepth 20000 in
theorem ggX5_digest_X2_quarrierFact : GoodIn wsX5_digest wsX2_quarrierFact := goodIn_r _ [81, 26, 82, 83, 84, 85, 86, 87, 88, 21, 89, 62, 90, 91, 92, 93, 94, 95, 96, 97, 98, 99, 100, 144, 145, 146, 147, 148, 154, 155, 156, 157, 158, 149, 150, 151, 152, 153] (by decide +kernel) (by decide +kernel)
set_option maxRecDepth 20000 in
theorem gX5_digest_X2_quarrierFact : GoodIn wsX5_digest (wsV RX5 181 RX2 yX2_quarrierFact wsX2_quarrierFact) := goodIn_app (goodIn_of _ (by decide +kernel)) ggX5_digest_X2_quarrierFact
set_option maxRecDepth 20000 in
theorem ggX5_digest_X4_fact : GoodIn wsX5_digest wsX4_fact := goodIn_r _ [104, 76, 105, 46, 106, 107, 108, 109, 43, 110, 111, 112, 113, 114, 115, 77, 159, 160, 161, 162, 163, 164, 165] (by decide +kernel) (by decide +kernel)
set_option maxRecDepth 20000 in
theorem gX5_digest_X4_fact : GoodIn wsX5_digest (wsV RX5 186 RX4 yX4_fact wsX4_fact) := goodIn_app (goodIn_of _ (by decide +kernel)) ggX5_digest_X4_fact
set_option maxRecDepth 20000 in
theorem ggX5_digest_X5_raftFact : GoodIn wsX5_digest wsX5_raftFact := goodIn_r _ [119, 10, 120, 2, 8, 121, 122, 123, 124, 15, 125, 126, 127, 128, 43, 129, 45, 106, 107, 108, 109, 110, 105, 130, 131, 132, 133, 134, 135, 136, 137, 138, 139, 140, 141, 142, 143, 166, 167, 168, 144, 145, 146, 147, 148, 159, 160, 161, 162, 163, 164, 165] (by decide +kernel) (by decide +kernel)
set_option maxRecDepth 20000 in
theorem gX5_digest_X5_raftFact : GoodIn wsX5_digest (wsV RX5 191 RX5 yX5_raftFact wsX5_raftFact) := goodIn_app (goodIn_of _ (by decide +kernel)) ggX5_digest_X5_raftFact
theorem dX5_digest_0 : decode cX5_digest 0 = .ok (.ldc2_w 221, 3) := by decide +kernel
theorem dX5_digest_3 : decode cX5_digest 3 = .ok (.lstore_n 1, 1) := by decide +kernel
theorem dX5_digest_4 : decode cX5_digest 4 = .ok (.iconst 0, 1) := by decide +kernel
theorem dX5_digest_5 : decode cX5_digest 5 = .ok (.istore_n 3, 1) := by decide +kernel
theorem dX5_digest_6 : decode cX5_digest 6 = .ok (.iload_n 3, 1) := by decide +kernel
theorem dX5_digest_7 : decode cX5_digest 7 = .ok (.bipush 10, 2) := by decide +kernel
theorem dX5_digest_9 : decode cX5_digest 9 = .ok (.if_icmp .ge 19, 3) := by decide +kernel
theorem dX5_digest_12 : decode cX5_digest 12 = .ok (.lload_n 1, 1) := by decide +kernel
theorem dX5_digest_13 : decode cX5_digest 13 = .ok (.aload_n 0, 1) := by decide +kernel
theorem dX5_digest_14 : decode cX5_digest 14 = .ok (.iload_n 3, 1) := by decide +kernel
theorem dX5_digest_15 : decode cX5_digest 15 = .ok (.invokevirtual 196, 3) := by decide +kernel
theorem dX5_digest_18 : decode cX5_digest 18 = .ok (.invokestatic 223, 3) := by decide +kernel
theorem dX5_digest_21 : decode cX5_digest 21 = .ok (.lstore_n 1, 1) := by decide +kernel
theorem dX5_digest_22 : decode cX5_digest 22 = .ok (.iinc 3 1, 3) := by decide +kernel
theorem dX5_digest_25 : decode cX5_digest 25 = .ok (.goto (-19), 3) := by decide +kernel
theorem dX5_digest_28 : decode cX5_digest 28 = .ok (.iconst 0, 1) := by decide +kernel
theorem dX5_digest_29 : decode cX5_digest 29 = .ok (.istore_n 3, 1) := by decide +kernel
theorem dX5_digest_30 : decode cX5_digest 30 = .ok (.iload_n 3, 1) := by decide +kernel
theorem dX5_digest_31 : decode cX5_digest 31 = .ok (.bipush 9, 2) := by decide +kernel
theorem dX5_digest_33 : decode cX5_digest 33 = .ok (.if_icmp .ge 23, 3) := by decide +kernel
theorem dX5_digest_36 : decode cX5_digest 36 = .ok (.lload_n 1, 1) := by decide +kernel
theorem dX5_digest_37 : decode cX5_digest 37 = .ok (.aload_n 0, 1) := by decide +kernel
theorem dX5_digest_38 : decode cX5_digest 38 = .ok (.getfield 10, 3) := by decide +kernel
theorem dX5_digest_41 : decode cX5_digest 41 = .ok (.getfield 42, 3) := by decide +kernel
theorem dX5_digest_44 : decode cX5_digest 44 = .ok (.iload_n 3, 1) := by decide +kernel
theorem dX5_digest_45 : decode cX5_digest 45 = .ok (.iaload, 1) := by decide +kernel
theorem dX5_digest_46 : decode cX5_digest 46 = .ok (.invokestatic 223, 3) := by decide +kernel
theorem dX5_digest_49 : decode cX5_digest 49 = .ok (.lstore_n 1, 1) := by decide +kernel
theorem dX5_digest_50 : decode cX5_digest 50 = .ok (.iinc 3 1, 3) := by decide +kernel
theorem dX5_digest_53 : decode cX5_digest 53 = .ok (.goto (-23), 3) := by decide +kernel
theorem dX5_digest_56 : decode cX5_digest 56 = .ok (.iconst 0, 1) := by decide +kernel
theorem dX5_digest_57 : decode cX5_digest 57 = .ok (.istore_n 3, 1) := by decide +kernel
theorem dX5_digest_58 : decode cX5_digest 58 = .ok (.iload_n 3, 1) := by decide +kernel
theorem dX5_digest_59 : decode cX5_digest 59 = .ok (.aload_n 0, 1) := by decide +kernel
theorem dX5_digest_60 : decode cX5_digest 60 = .ok (.getfield 10, 3) := by decide +kernel
theorem dX5_digest_63 : decode cX5_digest 63 = .ok (.getfield 48, 3) := by decide +kernel
theorem dX5_digest_66 : decode cX5_digest 66 = .ok (.getfield 52, 3) := by decide +kernel
theorem dX5_digest_69 : decode cX5_digest 69 = .ok (.if_icmp .ge 40, 3) := by decide +kernel
theorem dX5_digest_72 : decode cX5_digest 72 = .ok (.iconst 0, 1) := by decide +kernel
theorem dX5_digest_73 : decode cX5_digest 73 = .ok (.istore 4, 2) := by decide +kernel
theorem dX5_digest_75 : decode cX5_digest 75 = .ok (.iload 4, 2) := by decide +kernel
theorem dX5_digest_77 : decode cX5_digest 77 = .ok (.bipush 6, 2) := by decide +kernel
theorem dX5_digest_79 : decode cX5_digest 79 = .ok (.if_icmp .ge 24, 3) := by decide +kernel
theorem dX5_digest_82 : decode cX5_digest 82 = .ok (.lload_n 1, 1) := by decide +kernel
theorem dX5_digest_83 : decode cX5_digest 83 = .ok (.aload_n 0, 1) := by decide +kernel
theorem dX5_digest_84 : decode cX5_digest 84 = .ok (.getfield 10, 3) := by decide +kernel
theorem dX5_digest_87 : decode cX5_digest 87 = .ok (.iload_n 3, 1) := by decide +kernel
theorem dX5_digest_88 : decode cX5_digest 88 = .ok (.iload 4, 2) := by decide +kernel
theorem dX5_digest_90 : decode cX5_digest 90 = .ok (.invokevirtual 176, 3) := by decide +kernel
theorem dX5_digest_93 : decode cX5_digest 93 = .ok (.invokestatic 223, 3) := by decide +kernel
theorem dX5_digest_96 : decode cX5_digest 96 = .ok (.lstore_n 1, 1) := by decide +kernel
theorem dX5_digest_97 : decode cX5_digest 97 = .ok (.iinc 4 1, 3) := by decide +kernel
theorem dX5_digest_100 : decode cX5_digest 100 = .ok (.goto (-25), 3) := by decide +kernel
theorem dX5_digest_103 : decode cX5_digest 103 = .ok (.iinc 3 1, 3) := by decide +kernel
theorem dX5_digest_106 : decode cX5_digest 106 = .ok (.goto (-48), 3) := by decide +kernel
theorem dX5_digest_109 : decode cX5_digest 109 = .ok (.iconst 0, 1) := by decide +kernel
theorem dX5_digest_110 : decode cX5_digest 110 = .ok (.istore_n 3, 1) := by decide +kernel
theorem dX5_digest_111 : decode cX5_digest 111 = .ok (.iload_n 3, 1) := by decide +kernel
theorem dX5_digest_112 : decode cX5_digest 112 = .ok (.aload_n 0, 1) := by decide +kernel
theorem dX5_digest_113 : decode cX5_digest 113 = .ok (.getfield 10, 3) := by decide +kernel
theorem dX5_digest_116 : decode cX5_digest 116 = .ok (.getfield 69, 3) := by decide +kernel
theorem dX5_digest_119 : decode cX5_digest 119 = .ok (.getfield 73, 3) := by decide +kernel
theorem dX5_digest_122 : decode cX5_digest 122 = .ok (.if_icmp .ge 39, 3) := by decide +kernel
theorem dX5_digest_125 : decode cX5_digest 125 = .ok (.iconst 0, 1) := by decide +kernel
theorem dX5_digest_126 : decode cX5_digest 126 = .ok (.istore 4, 2) := by decide +kernel
theorem dX5_digest_128 : decode cX5_digest 128 = .ok (.iload 4, 2) := by decide +kernel
theorem dX5_digest_130 : decode cX5_digest 130 = .ok (.iconst 5, 1) := by decide +kernel
theorem dX5_digest_131 : decode cX5_digest 131 = .ok (.if_icmp .ge 24, 3) := by decide +kernel
theorem dX5_digest_134 : decode cX5_digest 134 = .ok (.lload_n 1, 1) := by decide +kernel
theorem dX5_digest_135 : decode cX5_digest 135 = .ok (.aload_n 0, 1) := by decide +kernel
theorem dX5_digest_136 : decode cX5_digest 136 = .ok (.getfield 10, 3) := by decide +kernel
theorem dX5_digest_139 : decode cX5_digest 139 = .ok (.iload_n 3, 1) := by decide +kernel
theorem dX5_digest_140 : decode cX5_digest 140 = .ok (.iload 4, 2) := by decide +kernel
theorem dX5_digest_142 : decode cX5_digest 142 = .ok (.invokevirtual 181, 3) := by decide +kernel
theorem dX5_digest_145 : decode cX5_digest 145 = .ok (.invokestatic 223, 3) := by decide +kernel
theorem dX5_digest_148 : decode cX5_digest 148 = .ok (.lstore_n 1, 1) := by decide +kernel
theorem dX5_digest_149 : decode cX5_digest 149 = .ok (.iinc 4 1, 3) := by decide +kernel
theorem dX5_digest_152 : decode cX5_digest 152 = .ok (.goto (-24), 3) := by decide +kernel
theorem dX5_digest_155 : decode cX5_digest 155 = .ok (.iinc 3 1, 3) := by decide +kernel
theorem dX5_digest_158 : decode cX5_digest 158 = .ok (.goto (-47), 3) := by decide +kernel
theorem dX5_digest_161 : decode cX5_digest 161 = .ok (.iconst 0, 1) := by decide +kernel
theorem dX5_digest_162 : decode cX5_digest 162 = .ok (.istore_n 3, 1) := by decide +kernel
theorem dX5_digest_163 : decode cX5_digest 163 = .ok (.iload_n 3, 1) := by decide +kernel
theorem dX5_digest_164 : decode cX5_digest 164 = .ok (.aload_n 0, 1) := by decide +kernel
theorem dX5_digest_165 : decode cX5_digest 165 = .ok (.getfield 10, 3) := by decide +kernel
theorem dX5_digest_168 : decode cX5_digest 168 = .ok (.getfield 93, 3) := by decide +kernel
theorem dX5_digest_171 : decode cX5_digest 171 = .ok (.getfield 201, 3) := by decide +kernel
theorem dX5_digest_174 : decode cX5_digest 174 = .ok (.if_icmp .ge 43, 3) := by decide +kernel
theorem dX5_digest_177 : decode cX5_digest 177 = .ok (.iconst 0, 1) := by decide +kernel
theorem dX5_digest_178 : decode cX5_digest 178 = .ok (.istore 4, 2) := by decide +kernel
theorem dX5_digest_180 : decode cX5_digest 180 = .ok (.iload 4, 2) := by decide +kernel
theorem dX5_digest_182 : decode cX5_digest 182 = .ok (.bipush 6, 2) := by decide +kernel
theorem dX5_digest_184 : decode cX5_digest 184 = .ok (.if_icmp .ge 27, 3) := by decide +kernel
theorem dX5_digest_187 : decode cX5_digest 187 = .ok (.lload_n 1, 1) := by decide +kernel
theorem dX5_digest_188 : decode cX5_digest 188 = .ok (.aload_n 0, 1) := by decide +kernel
theorem dX5_digest_189 : decode cX5_digest 189 = .ok (.getfield 10, 3) := by decide +kernel
theorem dX5_digest_192 : decode cX5_digest 192 = .ok (.getfield 93, 3) := by decide +kernel
theorem dX5_digest_195 : decode cX5_digest 195 = .ok (.iload_n 3, 1) := by decide +kernel
theorem dX5_digest_196 : decode cX5_digest 196 = .ok (.iload 4, 2) := by decide +kernel
theorem dX5_digest_198 : decode cX5_digest 198 = .ok (.invokevirtual 186, 3) := by decide +kernel
theorem dX5_digest_201 : decode cX5_digest 201 = .ok (.invokestatic 223, 3) := by decide +kernel
theorem dX5_digest_204 : decode cX5_digest 204 = .ok (.lstore_n 1, 1) := by decide +kernel
theorem dX5_digest_205 : decode cX5_digest 205 = .ok (.iinc 4 1, 3) := by decide +kernel
theorem dX5_digest_208 : decode cX5_digest 208 = .ok (.goto (-28), 3) := by decide +kernel
theorem dX5_digest_211 : decode cX5_digest 211 = .ok (.iinc 3 1, 3) := by decide +kernel
theorem dX5_digest_214 : decode cX5_digest 214 = .ok (.goto (-51), 3) := by decide +kernel
theorem dX5_digest_217 : decode cX5_digest 217 = .ok (.iconst 0, 1) := by decide +kernel
theorem dX5_digest_218 : decode cX5_digest 218 = .ok (.istore_n 3, 1) := by decide +kernel
theorem dX5_digest_219 : decode cX5_digest 219 = .ok (.iload_n 3, 1) := by decide +kernel
theorem dX5_digest_220 : decode cX5_digest 220 = .ok (.aload_n 0, 1) := by decide +kernel
theorem dX5_digest_221 : decode cX5_digest 221 = .ok (.getfield 22, 3) := by decide +kernel
theorem dX5_digest_224 : decode cX5_digest 224 = .ok (.getfield 124, 3) := by decide +kernel
theorem dX5_digest_227 : decode cX5_digest 227 = .ok (.if_icmp .ge 36, 3) := by decide +kernel
theorem dX5_digest_230 : decode cX5_digest 230 = .ok (.iconst 0, 1) := by decide +kernel
theorem dX5_digest_231 : decode cX5_digest 231 = .ok (.istore 4, 2) := by decide +kernel
theorem dX5_digest_233 : decode cX5_digest 233 = .ok (.iload 4, 2) := by decide +kernel
theorem dX5_digest_235 : decode cX5_digest 235 = .ok (.iconst 4, 1) := by decide +kernel
theorem dX5_digest_236 : decode cX5_digest 236 = .ok (.if_icmp .ge 21, 3) := by decide +kernel
theorem dX5_digest_239 : decode cX5_digest 239 = .ok (.lload_n 1, 1) := by decide +kernel
theorem dX5_digest_240 : decode cX5_digest 240 = .ok (.aload_n 0, 1) := by decide +kernel
theorem dX5_digest_241 : decode cX5_digest 241 = .ok (.iload_n 3, 1) := by decide +kernel
theorem dX5_digest_242 : decode cX5_digest 242 = .ok (.iload 4, 2) := by decide +kernel
theorem dX5_digest_244 : decode cX5_digest 244 = .ok (.invokevirtual 191, 3) := by decide +kernel
theorem dX5_digest_247 : decode cX5_digest 247 = .ok (.invokestatic 223, 3) := by decide +kernel
theorem dX5_digest_250 : decode cX5_digest 250 = .ok (.lstore_n 1, 1) := by decide +kernel
theorem dX5_digest_251 : decode cX5_digest 251 = .ok (.iinc 4 1, 3) := by decide +kernel
theorem dX5_digest_254 : decode cX5_digest 254 = .ok (.goto (-21), 3) := by decide +kernel
theorem dX5_digest_257 : decode cX5_digest 257 = .ok (.iinc 3 1, 3) := by decide +kernel
theorem dX5_digest_260 : decode cX5_digest 260 = .ok (.goto (-41), 3) := by decide +kernel
theorem dX5_digest_263 : decode cX5_digest 263 = .ok (.lload_n 1, 1) := by decide +kernel
theorem dX5_digest_264 : decode cX5_digest 264 = .ok (.lreturn, 1) := by decide +kernel
theorem dX5_isWithin_0 : decode cX5_isWithin 0 = .ok (.iload_n 0, 1) := by decide +kernel
theorem dX5_isWithin_1 : decode cX5_isWithin 1 = .ok (.iload_n 1, 1) := by decide +kernel
theorem dX5_isWithin_2 : decode cX5_isWithin 2 = .ok (.if_icmp .lt 12, 3) := by decide +kernel
theorem dX5_isWithin_5 : decode cX5_isWithin 5 = .ok (.iload_n 0, 1) := by decide +kernel
theorem dX5_isWithin_6 : decode cX5_isWithin 6 = .ok (.iload_n 2, 1) := by decide +kernel
theorem dX5_isWithin_7 : decode cX5_isWithin 7 = .ok (.if_icmp .gt 7, 3) := by decide +kernel
theorem dX5_isWithin_10 : decode cX5_isWithin 10 = .ok (.iconst 1, 1) := by decide +kernel
theorem dX5_isWithin_11 : decode cX5_isWithin 11 = .ok (.goto 4, 3) := by decide +kernel
theorem dX5_isWithin_14 : decode cX5_isWithin 14 = .ok (.iconst 0, 1) := by decide +kernel
theorem dX5_isWithin_15 : decode cX5_isWithin 15 = .ok (.ireturn, 1) := by decide +kernel
theorem dX5_joined_0 : decode cX5_joined 0 = .ok (.lload_n 0, 1) := by decide +kernel
theorem dX5_joined_1 : decode cX5_joined 1 = .ok (.ldc2_w 227, 3) := by decide +kernel
theorem dX5_joined_4 : decode cX5_joined 4 = .ok (.lmul, 1) := by decide +kernel
theorem dX5_joined_5 : decode cX5_joined 5 = .ok (.iload_n 2, 1) := by decide +kernel
theorem dX5_joined_6 : decode cX5_joined 6 = .ok (.i2l, 1) := by decide +kernel
theorem dX5_joined_7 : decode cX5_joined 7 = .ok (.ladd, 1) := by decide +kernel
theorem dX5_joined_8 : decode cX5_joined 8 = .ok (.lreturn, 1) := by decide +kernel
set_option maxRecDepth 20000 in
theorem ggX5_countOf_X2_countOf : GoodIn wsX5_countOf wsX2_countOf := goodIn_r _ [7, 8, 9, 10, 11, 12, 13, 14, 6, 15, 16, 17, 18, 19, 20, 21, 22, 23, 24, 25, 26, 27, 28, 29, 30, 31, 32, 33, 34, 35, 36, 37, 38, 43, 44, 45, 46, 47, 48, 49, 50, 51, 52, 53, 54, 55, 56, 57, 58, 59] (by decide +kernel) (by decide +kernel)
set_option maxRecDepth 20000 in
theorem gX5_countOf_X2_countOf : GoodIn wsX5_countOf (wsV RX5 212 RX2 yX2_countOf wsX2_countOf) := goodIn_app (goodIn_of _ (by decide +kernel)) ggX5_countOf_X2_countOf
theorem dX5_countOf_0 : decode cX5_countOf 0 = .ok (.iload_n 1, 1) := by decide +kernel
theorem dX5_countOf_1 : decode cX5_countOf 1 = .ok (.bipush 8, 2) := by decide +kernel
theorem dX5_countOf_3 : decode cX5_countOf 3 = .ok (.if_icmp .ne 10, 3) := by decide +kernel
theorem dX5_countOf_6 : decode cX5_countOf 6 = .ok (.aload_n 0, 1) := by decide +kernel
theorem dX5_countOf_7 : decode cX5_countOf 7 = .ok (.getfield 168, 3) := by decide +kernel
theorem dX5_countOf_10 : decode cX5_countOf 10 = .ok (.goto 11, 3) := by decide +kernel
theorem dX5_countOf_13 : decode cX5_countOf 13 = .ok (.aload_n 0, 1) := by decide +kernel
theorem dX5_countOf_14 : decode cX5_countOf 14 = .ok (.getfield 10, 3) := by decide +kernel
theorem dX5_countOf_17 : decode cX5_countOf 17 = .ok (.iload_n 1, 1) := by decide +kernel
theorem dX5_countOf_18 : decode cX5_countOf 18 = .ok (.invokevirtual 212, 3) := by decide +kernel
theorem dX5_countOf_21 : decode cX5_countOf 21 = .ok (.ireturn, 1) := by decide +kernel
set_option maxRecDepth 20000 in
theorem ggX5_stillCarried_X4_weightOn : GoodIn wsX5_stillCarried wsX4_weightOn := goodIn_r _ [9, 10, 11, 12, 13, 14, 8, 15, 16, 29, 30, 31, 32, 33, 34, 35] (by decide +kernel) (by decide +kernel)
set_option maxRecDepth 20000 in
theorem gX5_stillCarried_X4_weightOn : GoodIn wsX5_stillCarried (wsV RX5 232 RX4 yX4_weightOn wsX4_weightOn) := goodIn_app (goodIn_of _ (by decide +kernel)) ggX5_stillCarried_X4_weightOn
theorem dX5_stillCarried_0 : decode cX5_stillCarried 0 = .ok (.aload_n 0, 1) := by decide +kernel
theorem dX5_stillCarried_1 : decode cX5_stillCarried 1 = .ok (.getfield 22, 3) := by decide +kernel
theorem dX5_stillCarried_4 : decode cX5_stillCarried 4 = .ok (.getfield 229, 3) := by decide +kernel
theorem dX5_stillCarried_7 : decode cX5_stillCarried 7 = .ok (.iload_n 1, 1) := by decide +kernel
theorem dX5_stillCarried_8 : decode cX5_stillCarried 8 = .ok (.iaload, 1) := by decide +kernel
theorem dX5_stillCarried_9 : decode cX5_stillCarried 9 = .ok (.aload_n 0, 1) := by decide +kernel
theorem dX5_stillCarried_10 : decode cX5_stillCarried 10 = .ok (.getfield 10, 3) := by decide +kernel
theorem dX5_stillCarried_13 : decode cX5_stillCarried 13 = .ok (.getfield 93, 3) := by decide +kernel
theorem dX5_stillCarried_16 : decode cX5_stillCarried 16 = .ok (.iload_n 1, 1) := by decide +kernel
theorem dX5_stillCarried_17 : decode cX5_stillCarried 17 = .ok (.invokevirtual 232, 3) := by decide +kernel
theorem dX5_stillCarried_20 : decode cX5_stillCarried 20 = .ok (.isub, 1) := by decide +kernel
theorem dX5_stillCarried_21 : decode cX5_stillCarried 21 = .ok (.ireturn, 1) := by decide +kernel
set_option maxRecDepth 20000 in
theorem ggX5_raftFact_X5_stillCarried : GoodIn wsX5_raftFact wsX5_stillCarried := goodIn_r _ [10, 1, 2, 3, 4, 11, 12, 13, 14, 15, 16, 17, 18, 19, 20, 21, 22, 33, 34, 35, 36, 37, 38, 39, 40, 41, 42, 43, 44, 45, 46, 47, 48, 49, 50, 51] (by decide +kernel) (by decide +kernel)
set_option maxRecDepth 20000 in
theorem gX5_raftFact_X5_stillCarried : GoodIn wsX5_raftFact (wsV RX5 145 RX5 yX5_stillCarried wsX5_stillCarried) := goodIn_app (goodIn_of _ (by decide +kernel)) ggX5_raftFact_X5_stillCarried
set_option maxRecDepth 20000 in
theorem ggX5_raftFact_X4_numberOn : GoodIn wsX5_raftFact wsX4_numberOn := goodIn_r _ [26, 16, 17, 45, 46, 47, 48, 49, 50, 51] (by decide +kernel) (by decide +kernel)
set_option maxRecDepth 20000 in
theorem gX5_raftFact_X4_numberOn : GoodIn wsX5_raftFact (wsV RX5 156 RX4 yX4_numberOn wsX4_numberOn) := goodIn_app (goodIn_of _ (by decide +kernel)) ggX5_raftFact_X4_numberOn
set_option maxRecDepth 20000 in
theorem ggX5_raftFact_X3_isAway : GoodIn wsX5_raftFact wsX3_isAway := goodIn_r _ [31, 32, 37, 38, 39] (by decide +kernel) (by decide +kernel)
set_option maxRecDepth 20000 in
theorem gX5_raftFact_X3_isAway : GoodIn wsX5_raftFact (wsV RX5 136 RX3 yX3_isAway wsX3_isAway) := goodIn_app (goodIn_of _ (by decide +kernel)) ggX5_raftFact_X3_isAway
theorem dX5_raftFact_0 : decode cX5_raftFact 0 = .ok (.iload_n 2, 1) := by decide +kernel
theorem dX5_raftFact_1 : decode cX5_raftFact 1 = .ok (.tableswitch 55 0 2 #[27, 37, 43], 27) := by decide +kernel
theorem dX5_raftFact_28 : decode cX5_raftFact 28 = .ok (.aload_n 0, 1) := by decide +kernel
theorem dX5_raftFact_29 : decode cX5_raftFact 29 = .ok (.getfield 22, 3) := by decide +kernel
theorem dX5_raftFact_32 : decode cX5_raftFact 32 = .ok (.getfield 229, 3) := by decide +kernel
theorem dX5_raftFact_35 : decode cX5_raftFact 35 = .ok (.iload_n 1, 1) := by decide +kernel
theorem dX5_raftFact_36 : decode cX5_raftFact 36 = .ok (.iaload, 1) := by decide +kernel
theorem dX5_raftFact_37 : decode cX5_raftFact 37 = .ok (.ireturn, 1) := by decide +kernel
theorem dX5_raftFact_38 : decode cX5_raftFact 38 = .ok (.aload_n 0, 1) := by decide +kernel
theorem dX5_raftFact_39 : decode cX5_raftFact 39 = .ok (.iload_n 1, 1) := by decide +kernel
theorem dX5_raftFact_40 : decode cX5_raftFact 40 = .ok (.invokevirtual 145, 3) := by decide +kernel
theorem dX5_raftFact_43 : decode cX5_raftFact 43 = .ok (.ireturn, 1) := by decide +kernel
theorem dX5_raftFact_44 : decode cX5_raftFact 44 = .ok (.aload_n 0, 1) := by decide +kernel
theorem dX5_raftFact_45 : decode cX5_raftFact 45 = .ok (.getfield 10, 3) := by decide +kernel
theorem dX5_raftFact_48 : decode cX5_raftFact 48 = .ok (.getfield 93, 3) := by decide +kernel
theorem dX5_raftFact_51 : decode cX5_raftFact 51 = .ok (.iload_n 1, 1) := by decide +kernel
theorem dX5_raftFact_52 : decode cX5_raftFact 52 = .ok (.invokevirtual 156, 3) := by decide +kernel
theorem dX5_raftFact_55 : decode cX5_raftFact 55 = .ok (.ireturn, 1) := by decide +kernel
theorem dX5_raftFact_56 : decode cX5_raftFact 56 = .ok (.aload_n 0, 1) := by decide +kernel
theorem dX5_raftFact_57 : decode cX5_raftFact 57 = .ok (.getfield 22, 3) := by decide +kernel
theorem dX5_raftFact_60 : decode cX5_raftFact 60 = .ok (.iload_n 1, 1) := by decide +kernel
theorem dX5_raftFact_61 : decode cX5_raftFact 61 = .ok (.aload_n 0, 1) := by decide +kernel
theorem dX5_raftFact_62 : decode cX5_raftFact 62 = .ok (.getfield 10, 3) := by decide +kernel
theorem dX5_raftFact_65 : decode cX5_raftFact 65 = .ok (.getfield 133, 3) := by decide +kernel
theorem dX5_raftFact_68 : decode cX5_raftFact 68 = .ok (.invokevirtual 136, 3) := by decide +kernel
theorem dX5_raftFact_71 : decode cX5_raftFact 71 = .ok (.ifCond .eq 7, 3) := by decide +kernel
theorem dX5_raftFact_74 : decode cX5_raftFact 74 = .ok (.iconst 1, 1) := by decide +kernel
theorem dX5_raftFact_75 : decode cX5_raftFact 75 = .ok (.goto 4, 3) := by decide +kernel
theorem dX5_raftFact_78 : decode cX5_raftFact 78 = .ok (.iconst 0, 1) := by decide +kernel
theorem dX5_raftFact_79 : decode cX5_raftFact 79 = .ok (.ireturn, 1) := by decide +kernel
set_option maxRecDepth 20000 in
theorem ggX5_worthIfSent_X2_copyFrom : GoodIn wsX5_worthIfSent wsX2_copyFrom := goodIn_r _ [10, 11, 12, 13, 14, 15, 16, 17, 18, 19, 20, 21, 22, 23, 24, 25, 26, 27, 28, 29, 30, 31, 32, 33, 34, 35, 36, 37, 38, 39, 40, 41, 42, 43, 44, 45, 46, 47, 138, 139, 140, 141, 142, 148, 149, 150, 151, 152, 143, 144, 145, 146, 147, 153, 154, 155, 156, 157, 158, 159] (by decide +kernel) (by decide +kernel)
set_option maxRecDepth 20000 in
theorem gX5_worthIfSent_X2_copyFrom : GoodIn wsX5_worthIfSent (wsV RX5 208 RX2 yX2_copyFrom wsX2_copyFrom) := goodIn_app (goodIn_of _ (by decide +kernel)) ggX5_worthIfSent_X2_copyFrom
set_option maxRecDepth 20000 in
theorem ggX5_worthIfSent_X2_goOn : GoodIn wsX5_worthIfSent wsX2_goOn := goodIn_r _ [51, 52, 53, 54, 9, 55, 14, 56, 15, 11, 57, 58, 59, 60, 61, 13, 62, 63, 64, 65, 66, 67, 68, 19, 69, 21, 70, 71, 72, 29, 73, 34, 74, 75, 76, 77, 22, 78, 79, 80, 81, 35, 32, 82, 83, 84, 85, 86, 87, 88, 89, 90, 91, 92, 93, 94, 95, 96, 97, 98, 99, 100, 101, 102, 39, 103, 41, 42, 43, 44, 45, 46, 47, 104, 105, 106, 107, 31, 33, 108, 109, 110, 111, 112, 113, 114, 115, 116, 117, 12, 118, 119, 120, 121, 122, 123, 124, 125, 138, 139, 140, 141, 142, 143, 144, 145, 146, 147, 153, 154, 155, 156, 157, 158, 159, 148, 149, 150, 151, 152] (by decide +kernel) (by decide +kernel)
set_option maxRecDepth 20000 in
theorem gX5_worthIfSent_X2_goOn : GoodIn wsX5_worthIfSent (wsV RX5 202 RX2 yX2_goOn wsX2_goOn) := goodIn_app (goodIn_of _ (by decide +kernel)) ggX5_worthIfSent_X2_goOn
set_option maxRecDepth 20000 in
theorem ggX5_worthIfSent_X4_worthInAll : GoodIn wsX5_worthIfSent wsX4_worthInAll := goodIn_r _ [129, 41, 130, 131, 132, 39, 133, 46, 44, 43, 45, 153, 154, 155, 156, 157, 158, 159] (by decide +kernel) (by decide +kernel)
set_option maxRecDepth 20000 in
theorem gX5_worthIfSent_X4_worthInAll : GoodIn wsX5_worthIfSent (wsV RX5 235 RX4 yX4_worthInAll wsX4_worthInAll) := goodIn_app (goodIn_of _ (by decide +kernel)) ggX5_worthIfSent_X4_worthInAll
theorem dX5_worthIfSent_0 : decode cX5_worthIfSent 0 = .ok (.aload_n 0, 1) := by decide +kernel
theorem dX5_worthIfSent_1 : decode cX5_worthIfSent 1 = .ok (.getfield 16, 3) := by decide +kernel
theorem dX5_worthIfSent_4 : decode cX5_worthIfSent 4 = .ok (.aload_n 0, 1) := by decide +kernel
theorem dX5_worthIfSent_5 : decode cX5_worthIfSent 5 = .ok (.getfield 10, 3) := by decide +kernel
theorem dX5_worthIfSent_8 : decode cX5_worthIfSent 8 = .ok (.invokevirtual 208, 3) := by decide +kernel
theorem dX5_worthIfSent_11 : decode cX5_worthIfSent 11 = .ok (.aload_n 0, 1) := by decide +kernel
theorem dX5_worthIfSent_12 : decode cX5_worthIfSent 12 = .ok (.getfield 16, 3) := by decide +kernel
theorem dX5_worthIfSent_15 : decode cX5_worthIfSent 15 = .ok (.getfield 69, 3) := by decide +kernel
theorem dX5_worthIfSent_18 : decode cX5_worthIfSent 18 = .ok (.getfield 90, 3) := by decide +kernel
theorem dX5_worthIfSent_21 : decode cX5_worthIfSent 21 = .ok (.iload_n 1, 1) := by decide +kernel
theorem dX5_worthIfSent_22 : decode cX5_worthIfSent 22 = .ok (.iload_n 2, 1) := by decide +kernel
theorem dX5_worthIfSent_23 : decode cX5_worthIfSent 23 = .ok (.iastore, 1) := by decide +kernel
theorem dX5_worthIfSent_24 : decode cX5_worthIfSent 24 = .ok (.aload_n 0, 1) := by decide +kernel
theorem dX5_worthIfSent_25 : decode cX5_worthIfSent 25 = .ok (.getfield 16, 3) := by decide +kernel
theorem dX5_worthIfSent_28 : decode cX5_worthIfSent 28 = .ok (.iload_n 3, 1) := by decide +kernel
theorem dX5_worthIfSent_29 : decode cX5_worthIfSent 29 = .ok (.invokevirtual 202, 3) := by decide +kernel
theorem dX5_worthIfSent_32 : decode cX5_worthIfSent 32 = .ok (.aload_n 0, 1) := by decide +kernel
theorem dX5_worthIfSent_33 : decode cX5_worthIfSent 33 = .ok (.getfield 16, 3) := by decide +kernel
theorem dX5_worthIfSent_36 : decode cX5_worthIfSent 36 = .ok (.getfield 93, 3) := by decide +kernel
theorem dX5_worthIfSent_39 : decode cX5_worthIfSent 39 = .ok (.invokevirtual 235, 3) := by decide +kernel
theorem dX5_worthIfSent_42 : decode cX5_worthIfSent 42 = .ok (.ireturn, 1) := by decide +kernel
theorem dX6_init_0 : decode cX6_init 0 = .ok (.aload_n 0, 1) := by decide +kernel
theorem dX6_init_1 : decode cX6_init 1 = .ok (.invokespecial 1, 3) := by decide +kernel
theorem dX6_init_4 : decode cX6_init 4 = .ok (.aload_n 0, 1) := by decide +kernel
theorem dX6_init_5 : decode cX6_init 5 = .ok (.bipush 9, 2) := by decide +kernel
theorem dX6_init_7 : decode cX6_init 7 = .ok (.newarray .int, 2) := by decide +kernel
theorem dX6_init_9 : decode cX6_init 9 = .ok (.dup, 1) := by decide +kernel
theorem dX6_init_10 : decode cX6_init 10 = .ok (.iconst 0, 1) := by decide +kernel
theorem dX6_init_11 : decode cX6_init 11 = .ok (.iconst 5, 1) := by decide +kernel
theorem dX6_init_12 : decode cX6_init 12 = .ok (.iastore, 1) := by decide +kernel
theorem dX6_init_13 : decode cX6_init 13 = .ok (.dup, 1) := by decide +kernel
theorem dX6_init_14 : decode cX6_init 14 = .ok (.iconst 1, 1) := by decide +kernel
theorem dX6_init_15 : decode cX6_init 15 = .ok (.iconst 5, 1) := by decide +kernel
theorem dX6_init_16 : decode cX6_init 16 = .ok (.iastore, 1) := by decide +kernel
theorem dX6_init_17 : decode cX6_init 17 = .ok (.dup, 1) := by decide +kernel
theorem dX6_init_18 : decode cX6_init 18 = .ok (.iconst 2, 1) := by decide +kernel
theorem dX6_init_19 : decode cX6_init 19 = .ok (.iconst 5, 1) := by decide +kernel
theorem dX6_init_20 : decode cX6_init 20 = .ok (.iastore, 1) := by decide +kernel
theorem dX6_init_21 : decode cX6_init 21 = .ok (.dup, 1) := by decide +kernel
theorem dX6_init_22 : decode cX6_init 22 = .ok (.iconst 3, 1) := by decide +kernel
theorem dX6_init_23 : decode cX6_init 23 = .ok (.iconst 5, 1) := by decide +kernel
theorem dX6_init_24 : decode cX6_init 24 = .ok (.iastore, 1) := by decide +kernel
theorem dX6_init_25 : decode cX6_init 25 = .ok (.dup, 1) := by decide +kernel
theorem dX6_init_26 : decode cX6_init 26 = .ok (.iconst 4, 1) := by decide +kernel
theorem dX6_init_27 : decode cX6_init 27 = .ok (.iconst 5, 1) := by decide +kernel
theorem dX6_init_28 : decode cX6_init 28 = .ok (.iastore, 1) := by decide +kernel
theorem dX6_init_29 : decode cX6_init 29 = .ok (.dup, 1) := by decide +kernel
theorem dX6_init_30 : decode cX6_init 30 = .ok (.iconst 5, 1) := by decide +kernel
theorem dX6_init_31 : decode cX6_init 31 = .ok (.iconst 5, 1) := by decide +kernel
theorem dX6_init_32 : decode cX6_init 32 = .ok (.iastore, 1) := by decide +kernel
theorem dX6_init_33 : decode cX6_init 33 = .ok (.dup, 1) := by decide +kernel
theorem dX6_init_34 : decode cX6_init 34 = .ok (.bipush 6, 2) := by decide +kernel
theorem dX6_init_36 : decode cX6_init 36 = .ok (.iconst 5, 1) := by decide +kernel
theorem dX6_init_37 : decode cX6_init 37 = .ok (.iastore, 1) := by decide +kernel
theorem dX6_init_38 : decode cX6_init 38 = .ok (.dup, 1) := by decide +kernel
theorem dX6_init_39 : decode cX6_init 39 = .ok (.bipush 7, 2) := by decide +kernel
theorem dX6_init_41 : decode cX6_init 41 = .ok (.iconst 5, 1) := by decide +kernel
theorem dX6_init_42 : decode cX6_init 42 = .ok (.iastore, 1) := by decide +kernel
theorem dX6_init_43 : decode cX6_init 43 = .ok (.dup, 1) := by decide +kernel
theorem dX6_init_44 : decode cX6_init 44 = .ok (.bipush 8, 2) := by decide +kernel
theorem dX6_init_46 : decode cX6_init 46 = .ok (.iconst 5, 1) := by decide +kernel
theorem dX6_init_47 : decode cX6_init 47 = .ok (.iastore, 1) := by decide +kernel
theorem dX6_init_48 : decode cX6_init 48 = .ok (.putfield 7, 3) := by decide +kernel
theorem dX6_init_51 : decode cX6_init 51 = .ok (.aload_n 0, 1) := by decide +kernel
theorem dX6_init_52 : decode cX6_init 52 = .ok (.bipush 20, 2) := by decide +kernel
theorem dX6_init_54 : decode cX6_init 54 = .ok (.newarray .int, 2) := by decide +kernel
theorem dX6_init_56 : decode cX6_init 56 = .ok (.putfield 13, 3) := by decide +kernel
theorem dX6_init_59 : decode cX6_init 59 = .ok (.aload_n 0, 1) := by decide +kernel
theorem dX6_init_60 : decode cX6_init 60 = .ok (.bipush 24, 2) := by decide +kernel
theorem dX6_init_62 : decode cX6_init 62 = .ok (.newarray .int, 2) := by decide +kernel
theorem dX6_init_64 : decode cX6_init 64 = .ok (.putfield 16, 3) := by decide +kernel
theorem dX6_init_67 : decode cX6_init 67 = .ok (.aload_n 0, 1) := by decide +kernel
theorem dX6_init_68 : decode cX6_init 68 = .ok (.sipush 300, 3) := by decide +kernel
theorem dX6_init_71 : decode cX6_init 71 = .ok (.newarray .int, 2) := by decide +kernel
theorem dX6_init_73 : decode cX6_init 73 = .ok (.putfield 19, 3) := by decide +kernel
theorem dX6_init_76 : decode cX6_init 76 = .ok (.aload_n 0, 1) := by decide +kernel
theorem dX6_init_77 : decode cX6_init 77 = .ok (.bipush 6, 2) := by decide +kernel
theorem dX6_init_79 : decode cX6_init 79 = .ok (.newarray .int, 2) := by decide +kernel
theorem dX6_init_81 : decode cX6_init 81 = .ok (.putfield 22, 3) := by decide +kernel
theorem dX6_init_84 : decode cX6_init 84 = .ok (.aload_n 0, 1) := by decide +kernel
theorem dX6_init_85 : decode cX6_init 85 = .ok (.iconst 3, 1) := by decide +kernel
theorem dX6_init_86 : decode cX6_init 86 = .ok (.newarray .int, 2) := by decide +kernel
theorem dX6_init_88 : decode cX6_init 88 = .ok (.putfield 25, 3) := by decide +kernel
theorem dX6_init_91 : decode cX6_init 91 = .ok (.return_, 1) := by decide +kernel
theorem dX6_thrown_0 : decode cX6_thrown 0 = .ok (.aload_n 0, 1) := by decide +kernel
theorem dX6_thrown_1 : decode cX6_thrown 1 = .ok (.getfield 28, 3) := by decide +kernel
theorem dX6_thrown_4 : decode cX6_thrown 4 = .ok (.ireturn, 1) := by decide +kernel
theorem dX6_fail_0 : decode cX6_fail 0 = .ok (.aload_n 0, 1) := by decide +kernel
theorem dX6_fail_1 : decode cX6_fail 1 = .ok (.iload_n 1, 1) := by decide +kernel
theorem dX6_fail_2 : decode cX6_fail 2 = .ok (.putfield 28, 3) := by decide +kernel
theorem dX6_fail_5 : decode cX6_fail 5 = .ok (.iconst 0, 1) := by decide +kernel
theorem dX6_fail_6 : decode cX6_fail 6 = .ok (.ireturn, 1) := by decide +kernel
theorem dX6_isIn_0 : decode cX6_isIn 0 = .ok (.iload_n 0, 1) := by decide +kernel
theorem dX6_isIn_1 : decode cX6_isIn 1 = .ok (.iload_n 1, 1) := by decide +kernel
theorem dX6_isIn_2 : decode cX6_isIn 2 = .ok (.if_icmp .lt 12, 3) := by decide +kernel
theorem dX6_isIn_5 : decode cX6_isIn 5 = .ok (.iload_n 0, 1) := by decide +kernel
theorem dX6_isIn_6 : decode cX6_isIn 6 = .ok (.iload_n 2, 1) := by decide +kernel
theorem dX6_isIn_7 : decode cX6_isIn 7 = .ok (.if_icmp .gt 7, 3) := by decide +kernel
theorem dX6_isIn_10 : decode cX6_isIn 10 = .ok (.iconst 1, 1) := by decide +kernel
theorem dX6_isIn_11 : decode cX6_isIn 11 = .ok (.goto 4, 3) := by decide +kernel
theorem dX6_isIn_14 : decode cX6_isIn 14 = .ok (.iconst 0, 1) := by decide +kernel
theorem dX6_isIn_15 : decode cX6_isIn 15 = .ok (.ireturn, 1) := by decide +kernel
set_option maxRecDepth 20000 in
theorem ggX6_isBed_X6_isIn : GoodIn wsX6_isBed wsX6_isIn := goodIn_r _ [5] (by decide +kernel) (by decide +kernel)
set_option maxRecDepth 20000 in
theorem gX6_isBed_X6_isIn : GoodIn wsX6_isBed (va_wsS RX6 35 yX6_isIn wsX6_isIn) := goodIn_app (goodIn_of _ (by decide +kernel)) ggX6_isBed_X6_isIn
theorem dX6_isBed_0 : decode cX6_isBed 0 = .ok (.iload_n 1, 1) := by decide +kernel
theorem dX6_isBed_1 : decode cX6_isBed 1 = .ok (.iconst 0, 1) := by decide +kernel
theorem dX6_isBed_2 : decode cX6_isBed 2 = .ok (.aload_n 0, 1) := by decide +kernel
theorem dX6_isBed_3 : decode cX6_isBed 3 = .ok (.getfield 32, 3) := by decide +kernel
theorem dX6_isBed_6 : decode cX6_isBed 6 = .ok (.iconst 1, 1) := by decide +kernel
theorem dX6_isBed_7 : decode cX6_isBed 7 = .ok (.isub, 1) := by decide +kernel
theorem dX6_isBed_8 : decode cX6_isBed 8 = .ok (.invokestatic 35, 3) := by decide +kernel
theorem dX6_isBed_11 : decode cX6_isBed 11 = .ok (.ireturn, 1) := by decide +kernel
set_option maxRecDepth 20000 in
theorem ggX6_isQuarrier_X6_isIn : GoodIn wsX6_isQuarrier wsX6_isIn := goodIn_r _ [5] (by decide +kernel) (by decide +kernel)
set_option maxRecDepth 20000 in
theorem gX6_isQuarrier_X6_isIn : GoodIn wsX6_isQuarrier (va_wsS RX6 35 yX6_isIn wsX6_isIn) := goodIn_app (goodIn_of _ (by decide +kernel)) ggX6_isQuarrier_X6_isIn
theorem dX6_isQuarrier_0 : decode cX6_isQuarrier 0 = .ok (.iload_n 1, 1) := by decide +kernel
theorem dX6_isQuarrier_1 : decode cX6_isQuarrier 1 = .ok (.iconst 0, 1) := by decide +kernel
theorem dX6_isQuarrier_2 : decode cX6_isQuarrier 2 = .ok (.aload_n 0, 1) := by decide +kernel
theorem dX6_isQuarrier_3 : decode cX6_isQuarrier 3 = .ok (.getfield 39, 3) := by decide +kernel
theorem dX6_isQuarrier_6 : decode cX6_isQuarrier 6 = .ok (.iconst 1, 1) := by decide +kernel
theorem dX6_isQuarrier_7 : decode cX6_isQuarrier 7 = .ok (.isub, 1) := by decide +kernel
theorem dX6_isQuarrier_8 : decode cX6_isQuarrier 8 = .ok (.invokestatic 35, 3) := by decide +kernel
theorem dX6_isQuarrier_11 : decode cX6_isQuarrier 11 = .ok (.ireturn, 1) := by decide +kernel
set_option maxRecDepth 20000 in
theorem ggX6_isWheel_X6_isIn : GoodIn wsX6_isWheel wsX6_isIn := goodIn_r _ [5] (by decide +kernel) (by decide +kernel)
set_option maxRecDepth 20000 in
theorem gX6_isWheel_X6_isIn : GoodIn wsX6_isWheel (va_wsS RX6 35 yX6_isIn wsX6_isIn) := goodIn_app (goodIn_of _ (by decide +kernel)) ggX6_isWheel_X6_isIn
theorem dX6_isWheel_0 : decode cX6_isWheel 0 = .ok (.iload_n 1, 1) := by decide +kernel
theorem dX6_isWheel_1 : decode cX6_isWheel 1 = .ok (.iconst 0, 1) := by decide +kernel
theorem dX6_isWheel_2 : decode cX6_isWheel 2 = .ok (.aload_n 0, 1) := by decide +kernel
theorem dX6_isWheel_3 : decode cX6_isWheel 3 = .ok (.getfield 25, 3) := by decide +kernel
theorem dX6_isWheel_6 : decode cX6_isWheel 6 = .ok (.iconst 2, 1) := by decide +kernel
theorem dX6_isWheel_7 : decode cX6_isWheel 7 = .ok (.iaload, 1) := by decide +kernel
theorem dX6_isWheel_8 : decode cX6_isWheel 8 = .ok (.iconst 1, 1) := by decide +kernel
theorem dX6_isWheel_9 : decode cX6_isWheel 9 = .ok (.isub, 1) := by decide +kernel
theorem dX6_isWheel_10 : decode cX6_isWheel 10 = .ok (.invokestatic 35, 3) := by decide +kernel
theorem dX6_isWheel_13 : decode cX6_isWheel 13 = .ok (.ireturn, 1) := by decide +kernel
set_option maxRecDepth 20000 in
theorem ggX6_isRaft_X6_isIn : GoodIn wsX6_isRaft wsX6_isIn := goodIn_r _ [5] (by decide +kernel) (by decide +kernel)
set_option maxRecDepth 20000 in
theorem gX6_isRaft_X6_isIn : GoodIn wsX6_isRaft (va_wsS RX6 35 yX6_isIn wsX6_isIn) := goodIn_app (goodIn_of _ (by decide +kernel)) ggX6_isRaft_X6_isIn
theorem dX6_isRaft_0 : decode cX6_isRaft 0 = .ok (.iload_n 1, 1) := by decide +kernel
theorem dX6_isRaft_1 : decode cX6_isRaft 1 = .ok (.iconst 0, 1) := by decide +kernel
theorem dX6_isRaft_2 : decode cX6_isRaft 2 = .ok (.aload_n 0, 1) := by decide +kernel
theorem dX6_isRaft_3 : decode cX6_isRaft 3 = .ok (.getfield 42, 3) := by decide +kernel
theorem dX6_isRaft_6 : decode cX6_isRaft 6 = .ok (.iconst 1, 1) := by decide +kernel
theorem dX6_isRaft_7 : decode cX6_isRaft 7 = .ok (.isub, 1) := by decide +kernel
theorem dX6_isRaft_8 : decode cX6_isRaft 8 = .ok (.invokestatic 35, 3) := by decide +kernel
theorem dX6_isRaft_11 : decode cX6_isRaft 11 = .ok (.ireturn, 1) := by decide +kernel
theorem dX6_ro_0 : decode cX6_ro 0 = .ok (.aload_n 0, 1) := by decide +kernel
theorem dX6_ro_1 : decode cX6_ro 1 = .ok (.getfield 13, 3) := by decide +kernel
theorem dX6_ro_4 : decode cX6_ro 4 = .ok (.iconst 4, 1) := by decide +kernel
theorem dX6_ro_5 : decode cX6_ro 5 = .ok (.iload_n 1, 1) := by decide +kernel
theorem dX6_ro_6 : decode cX6_ro 6 = .ok (.imul, 1) := by decide +kernel
theorem dX6_ro_7 : decode cX6_ro 7 = .ok (.iload_n 2, 1) := by decide +kernel
theorem dX6_ro_8 : decode cX6_ro 8 = .ok (.iadd, 1) := by decide +kernel
theorem dX6_ro_9 : decode cX6_ro 9 = .ok (.iaload, 1) := by decide +kernel
theorem dX6_ro_10 : decode cX6_ro 10 = .ok (.ireturn, 1) := by decide +kernel
theorem dX6_pe_0 : decode cX6_pe 0 = .ok (.aload_n 0, 1) := by decide +kernel
theorem dX6_pe_1 : decode cX6_pe 1 = .ok (.getfield 16, 3) := by decide +kernel
theorem dX6_pe_4 : decode cX6_pe 4 = .ok (.iconst 4, 1) := by decide +kernel
theorem dX6_pe_5 : decode cX6_pe 5 = .ok (.iload_n 1, 1) := by decide +kernel
theorem dX6_pe_6 : decode cX6_pe 6 = .ok (.imul, 1) := by decide +kernel
theorem dX6_pe_7 : decode cX6_pe 7 = .ok (.iload_n 2, 1) := by decide +kernel
theorem dX6_pe_8 : decode cX6_pe 8 = .ok (.iadd, 1) := by decide +kernel
theorem dX6_pe_9 : decode cX6_pe 9 = .ok (.iaload, 1) := by decide +kernel
theorem dX6_pe_10 : decode cX6_pe 10 = .ok (.ireturn, 1) := by decide +kernel
theorem dX6_put_0 : decode cX6_put 0 = .ok (.aload_n 0, 1) := by decide +kernel
theorem dX6_put_1 : decode cX6_put 1 = .ok (.getfield 16, 3) := by decide +kernel
theorem dX6_put_4 : decode cX6_put 4 = .ok (.iconst 4, 1) := by decide +kernel
theorem dX6_put_5 : decode cX6_put 5 = .ok (.iload_n 1, 1) := by decide +kernel
theorem dX6_put_6 : decode cX6_put 6 = .ok (.imul, 1) := by decide +kernel
theorem dX6_put_7 : decode cX6_put 7 = .ok (.iload_n 2, 1) := by decide +kernel
theorem dX6_put_8 : decode cX6_put 8 = .ok (.iadd, 1) := by decide +kernel
theorem dX6_put_9 : decode cX6_put 9 = .ok (.iload_n 3, 1) := by decide +kernel
theorem dX6_put_10 : decode cX6_put 10 = .ok (.iastore, 1) := by decide +kernel
theorem dX6_put_11 : decode cX6_put 11 = .ok (.return_, 1) := by decide +kernel
theorem dX6_st_0 : decode cX6_st 0 = .ok (.aload_n 0, 1) := by decide +kernel
theorem dX6_st_1 : decode cX6_st 1 = .ok (.getfield 19, 3) := by decide +kernel
theorem dX6_st_4 : decode cX6_st 4 = .ok (.iconst 5, 1) := by decide +kernel
theorem dX6_st_5 : decode cX6_st 5 = .ok (.iload_n 1, 1) := by decide +kernel
theorem dX6_st_6 : decode cX6_st 6 = .ok (.imul, 1) := by decide +kernel
theorem dX6_st_7 : decode cX6_st 7 = .ok (.iload_n 2, 1) := by decide +kernel
theorem dX6_st_8 : decode cX6_st 8 = .ok (.iadd, 1) := by decide +kernel
theorem dX6_st_9 : decode cX6_st 9 = .ok (.iaload, 1) := by decide +kernel
theorem dX6_st_10 : decode cX6_st 10 = .ok (.ireturn, 1) := by decide +kernel
set_option maxRecDepth 20000 in
theorem ggX6_setFall_X6_isIn : GoodIn wsX6_setFall wsX6_isIn := goodIn_r _ [6] (by decide +kernel) (by decide +kernel)
set_option maxRecDepth 20000 in
theorem gX6_setFall_X6_isIn : GoodIn wsX6_setFall (va_wsS RX6 35 yX6_isIn wsX6_isIn) := goodIn_app (goodIn_of _ (by decide +kernel)) ggX6_setFall_X6_isIn
set_option maxRecDepth 20000 in
theorem ggX6_setFall_X6_fail : GoodIn wsX6_setFall wsX6_fail := goodIn_r _ [10, 1, 11, 12, 13, 14, 15, 16, 17, 18, 19, 20] (by decide +kernel) (by decide +kernel)
set_option maxRecDepth 20000 in
theorem gX6_setFall_X6_fail : GoodIn wsX6_setFall (wsV RX6 45 RX6 yX6_fail wsX6_fail) := goodIn_app (goodIn_of _ (by decide +kernel)) ggX6_setFall_X6_fail
theorem dX6_setFall_0 : decode cX6_setFall 0 = .ok (.aload_n 0, 1) := by decide +kernel
theorem dX6_setFall_1 : decode cX6_setFall 1 = .ok (.iconst 0, 1) := by decide +kernel
theorem dX6_setFall_2 : decode cX6_setFall 2 = .ok (.putfield 28, 3) := by decide +kernel
theorem dX6_setFall_5 : decode cX6_setFall 5 = .ok (.iload_n 1, 1) := by decide +kernel
theorem dX6_setFall_6 : decode cX6_setFall 6 = .ok (.iconst 0, 1) := by decide +kernel
theorem dX6_setFall_7 : decode cX6_setFall 7 = .ok (.bipush 8, 2) := by decide +kernel
theorem dX6_setFall_9 : decode cX6_setFall 9 = .ok (.invokestatic 35, 3) := by decide +kernel
theorem dX6_setFall_12 : decode cX6_setFall 12 = .ok (.ifCond .ne 9, 3) := by decide +kernel
theorem dX6_setFall_15 : decode cX6_setFall 15 = .ok (.aload_n 0, 1) := by decide +kernel
theorem dX6_setFall_16 : decode cX6_setFall 16 = .ok (.iconst 1, 1) := by decide +kernel
theorem dX6_setFall_17 : decode cX6_setFall 17 = .ok (.invokevirtual 45, 3) := by decide +kernel
theorem dX6_setFall_20 : decode cX6_setFall 20 = .ok (.ireturn, 1) := by decide +kernel
theorem dX6_setFall_21 : decode cX6_setFall 21 = .ok (.iload_n 2, 1) := by decide +kernel
theorem dX6_setFall_22 : decode cX6_setFall 22 = .ok (.iconst 0, 1) := by decide +kernel
theorem dX6_setFall_23 : decode cX6_setFall 23 = .ok (.bipush 9, 2) := by decide +kernel
theorem dX6_setFall_25 : decode cX6_setFall 25 = .ok (.invokestatic 35, 3) := by decide +kernel
theorem dX6_setFall_28 : decode cX6_setFall 28 = .ok (.ifCond .ne 9, 3) := by decide +kernel
theorem dX6_setFall_31 : decode cX6_setFall 31 = .ok (.aload_n 0, 1) := by decide +kernel
theorem dX6_setFall_32 : decode cX6_setFall 32 = .ok (.iconst 2, 1) := by decide +kernel
theorem dX6_setFall_33 : decode cX6_setFall 33 = .ok (.invokevirtual 45, 3) := by decide +kernel
theorem dX6_setFall_36 : decode cX6_setFall 36 = .ok (.ireturn, 1) := by decide +kernel
theorem dX6_setFall_37 : decode cX6_setFall 37 = .ok (.aload_n 0, 1) := by decide +kernel
theorem dX6_setFall_38 : decode cX6_setFall 38 = .ok (.getfield 7, 3) := by decide +kernel
theorem dX6_setFall_41 : decode cX6_setFall 41 = .ok (.iload_n 1, 1) := by decide +kernel
theorem dX6_setFall_42 : decode cX6_setFall 42 = .ok (.iaload, 1) := by decide +kernel
theorem dX6_setFall_43 : decode cX6_setFall 43 = .ok (.istore_n 3, 1) := by decide +kernel
theorem dX6_setFall_44 : decode cX6_setFall 44 = .ok (.aload_n 0, 1) := by decide +kernel
theorem dX6_setFall_45 : decode cX6_setFall 45 = .ok (.getfield 7, 3) := by decide +kernel
theorem dX6_setFall_48 : decode cX6_setFall 48 = .ok (.iload_n 1, 1) := by decide +kernel
theorem dX6_setFall_49 : decode cX6_setFall 49 = .ok (.iload_n 2, 1) := by decide +kernel
theorem dX6_setFall_50 : decode cX6_setFall 50 = .ok (.iastore, 1) := by decide +kernel
theorem dX6_setFall_51 : decode cX6_setFall 51 = .ok (.iload_n 3, 1) := by decide +kernel
theorem dX6_setFall_52 : decode cX6_setFall 52 = .ok (.ireturn, 1) := by decide +kernel
set_option maxRecDepth 20000 in
theorem ggX6_open_X6_isIn : GoodIn wsX6_open wsX6_isIn := goodIn_r _ [7] (by decide +kernel) (by decide +kernel)
set_option maxRecDepth 20000 in
theorem gX6_open_X6_isIn : GoodIn wsX6_open (va_wsS RX6 35 yX6_isIn wsX6_isIn) := goodIn_app (goodIn_of _ (by decide +kernel)) ggX6_open_X6_isIn
set_option maxRecDepth 20000 in
theorem ggX6_open_X6_fail : GoodIn wsX6_open wsX6_fail := goodIn_r _ [11, 1, 12, 13, 14, 15, 16, 17, 18, 19, 20, 21] (by decide +kernel) (by decide +kernel)
set_option maxRecDepth 20000 in
theorem gX6_open_X6_fail : GoodIn wsX6_open (wsV RX6 45 RX6 yX6_fail wsX6_fail) := goodIn_app (goodIn_of _ (by decide +kernel)) ggX6_open_X6_fail
theorem dX6_open_0 : decode cX6_open 0 = .ok (.aload_n 0, 1) := by decide +kernel
theorem dX6_open_1 : decode cX6_open 1 = .ok (.iconst 0, 1) := by decide +kernel
theorem dX6_open_2 : decode cX6_open 2 = .ok (.putfield 28, 3) := by decide +kernel
theorem dX6_open_5 : decode cX6_open 5 = .ok (.iload_n 1, 1) := by decide +kernel
theorem dX6_open_6 : decode cX6_open 6 = .ok (.iconst 1, 1) := by decide +kernel
theorem dX6_open_7 : decode cX6_open 7 = .ok (.bipush 9, 2) := by decide +kernel
theorem dX6_open_9 : decode cX6_open 9 = .ok (.invokestatic 35, 3) := by decide +kernel
theorem dX6_open_12 : decode cX6_open 12 = .ok (.ifCond .eq 24, 3) := by decide +kernel
theorem dX6_open_15 : decode cX6_open 15 = .ok (.iload_n 2, 1) := by decide +kernel
theorem dX6_open_16 : decode cX6_open 16 = .ok (.iconst 0, 1) := by decide +kernel
theorem dX6_open_17 : decode cX6_open 17 = .ok (.bipush 9, 2) := by decide +kernel
theorem dX6_open_19 : decode cX6_open 19 = .ok (.invokestatic 35, 3) := by decide +kernel
theorem dX6_open_22 : decode cX6_open 22 = .ok (.ifCond .eq 14, 3) := by decide +kernel
theorem dX6_open_25 : decode cX6_open 25 = .ok (.iload_n 3, 1) := by decide +kernel
theorem dX6_open_26 : decode cX6_open 26 = .ok (.iconst 0, 1) := by decide +kernel
theorem dX6_open_27 : decode cX6_open 27 = .ok (.sipush 200, 3) := by decide +kernel
theorem dX6_open_30 : decode cX6_open 30 = .ok (.invokestatic 35, 3) := by decide +kernel
theorem dX6_open_33 : decode cX6_open 33 = .ok (.ifCond .ne 9, 3) := by decide +kernel
theorem dX6_open_36 : decode cX6_open 36 = .ok (.aload_n 0, 1) := by decide +kernel
theorem dX6_open_37 : decode cX6_open 37 = .ok (.iconst 1, 1) := by decide +kernel
theorem dX6_open_38 : decode cX6_open 38 = .ok (.invokevirtual 45, 3) := by decide +kernel
theorem dX6_open_41 : decode cX6_open 41 = .ok (.ireturn, 1) := by decide +kernel
theorem dX6_open_42 : decode cX6_open 42 = .ok (.aload_n 0, 1) := by decide +kernel
theorem dX6_open_43 : decode cX6_open 43 = .ok (.getfield 32, 3) := by decide +kernel
theorem dX6_open_46 : decode cX6_open 46 = .ok (.iconst 5, 1) := by decide +kernel
theorem dX6_open_47 : decode cX6_open 47 = .ok (.if_icmp .ne 9, 3) := by decide +kernel
theorem dX6_open_50 : decode cX6_open 50 = .ok (.aload_n 0, 1) := by decide +kernel
theorem dX6_open_51 : decode cX6_open 51 = .ok (.iconst 2, 1) := by decide +kernel
theorem dX6_open_52 : decode cX6_open 52 = .ok (.invokevirtual 45, 3) := by decide +kernel
theorem dX6_open_55 : decode cX6_open 55 = .ok (.ireturn, 1) := by decide +kernel
theorem dX6_open_56 : decode cX6_open 56 = .ok (.aload_n 0, 1) := by decide +kernel
theorem dX6_open_57 : decode cX6_open 57 = .ok (.getfield 13, 3) := by decide +kernel
theorem dX6_open_60 : decode cX6_open 60 = .ok (.iconst 4, 1) := by decide +kernel
theorem dX6_open_61 : decode cX6_open 61 = .ok (.aload_n 0, 1) := by decide +kernel
theorem dX6_open_62 : decode cX6_open 62 = .ok (.getfield 32, 3) := by decide +kernel
theorem dX6_open_65 : decode cX6_open 65 = .ok (.imul, 1) := by decide +kernel
theorem dX6_open_66 : decode cX6_open 66 = .ok (.iconst 0, 1) := by decide +kernel
theorem dX6_open_67 : decode cX6_open 67 = .ok (.iadd, 1) := by decide +kernel
theorem dX6_open_68 : decode cX6_open 68 = .ok (.iload_n 1, 1) := by decide +kernel
theorem dX6_open_69 : decode cX6_open 69 = .ok (.iastore, 1) := by decide +kernel
theorem dX6_open_70 : decode cX6_open 70 = .ok (.aload_n 0, 1) := by decide +kernel
theorem dX6_open_71 : decode cX6_open 71 = .ok (.getfield 13, 3) := by decide +kernel
theorem dX6_open_74 : decode cX6_open 74 = .ok (.iconst 4, 1) := by decide +kernel
theorem dX6_open_75 : decode cX6_open 75 = .ok (.aload_n 0, 1) := by decide +kernel
theorem dX6_open_76 : decode cX6_open 76 = .ok (.getfield 32, 3) := by decide +kernel
theorem dX6_open_79 : decode cX6_open 79 = .ok (.imul, 1) := by decide +kernel
theorem dX6_open_80 : decode cX6_open 80 = .ok (.iconst 1, 1) := by decide +kernel
theorem dX6_open_81 : decode cX6_open 81 = .ok (.iadd, 1) := by decide +kernel
theorem dX6_open_82 : decode cX6_open 82 = .ok (.iload_n 2, 1) := by decide +kernel
theorem dX6_open_83 : decode cX6_open 83 = .ok (.iastore, 1) := by decide +kernel
theorem dX6_open_84 : decode cX6_open 84 = .ok (.aload_n 0, 1) := by decide +kernel
theorem dX6_open_85 : decode cX6_open 85 = .ok (.getfield 13, 3) := by decide +kernel
theorem dX6_open_88 : decode cX6_open 88 = .ok (.iconst 4, 1) := by decide +kernel
theorem dX6_open_89 : decode cX6_open 89 = .ok (.aload_n 0, 1) := by decide +kernel
theorem dX6_open_90 : decode cX6_open 90 = .ok (.getfield 32, 3) := by decide +kernel
theorem dX6_open_93 : decode cX6_open 93 = .ok (.imul, 1) := by decide +kernel
theorem dX6_open_94 : decode cX6_open 94 = .ok (.iconst 2, 1) := by decide +kernel
theorem dX6_open_95 : decode cX6_open 95 = .ok (.iadd, 1) := by decide +kernel
theorem dX6_open_96 : decode cX6_open 96 = .ok (.iload_n 3, 1) := by decide +kernel
theorem dX6_open_97 : decode cX6_open 97 = .ok (.iastore, 1) := by decide +kernel
theorem dX6_open_98 : decode cX6_open 98 = .ok (.aload_n 0, 1) := by decide +kernel
theorem dX6_open_99 : decode cX6_open 99 = .ok (.dup, 1) := by decide +kernel
theorem dX6_open_100 : decode cX6_open 100 = .ok (.getfield 32, 3) := by decide +kernel
theorem dX6_open_103 : decode cX6_open 103 = .ok (.iconst 1, 1) := by decide +kernel
theorem dX6_open_104 : decode cX6_open 104 = .ok (.iadd, 1) := by decide +kernel
theorem dX6_open_105 : decode cX6_open 105 = .ok (.putfield 32, 3) := by decide +kernel
theorem dX6_open_108 : decode cX6_open 108 = .ok (.aload_n 0, 1) := by decide +kernel
theorem dX6_open_109 : decode cX6_open 109 = .ok (.getfield 32, 3) := by decide +kernel
theorem dX6_open_112 : decode cX6_open 112 = .ok (.iconst 1, 1) := by decide +kernel
theorem dX6_open_113 : decode cX6_open 113 = .ok (.isub, 1) := by decide +kernel
theorem dX6_open_114 : decode cX6_open 114 = .ok (.ireturn, 1) := by decide +kernel
set_option maxRecDepth 20000 in
theorem ggX6_hire_X6_isIn : GoodIn wsX6_hire wsX6_isIn := goodIn_r _ [6] (by decide +kernel) (by decide +kernel)
set_option maxRecDepth 20000 in
theorem gX6_hire_X6_isIn : GoodIn wsX6_hire (va_wsS RX6 35 yX6_isIn wsX6_isIn) := goodIn_app (goodIn_of _ (by decide +kernel)) ggX6_hire_X6_isIn
set_option maxRecDepth 20000 in
theorem ggX6_hire_X6_fail : GoodIn wsX6_hire wsX6_fail := goodIn_r _ [10, 1, 16, 17, 18, 19, 20, 21, 22, 23, 24, 25] (by decide +kernel) (by decide +kernel)
set_option maxRecDepth 20000 in
theorem gX6_hire_X6_fail : GoodIn wsX6_hire (wsV RX6 45 RX6 yX6_fail wsX6_fail) := goodIn_app (goodIn_of _ (by decide +kernel)) ggX6_hire_X6_fail
set_option maxRecDepth 20000 in
theorem ggX6_hire_X6_put : GoodIn wsX6_hire wsX6_put := goodIn_r _ [14, 15, 16, 17, 18, 19, 20, 21, 22, 23, 24, 25] (by decide +kernel) (by decide +kernel)
set_option maxRecDepth 20000 in
theorem gX6_hire_X6_put : GoodIn wsX6_hire (wsV RX6 49 RX6 yX6_put wsX6_put) := goodIn_app (goodIn_of _ (by decide +kernel)) ggX6_hire_X6_put
theorem dX6_hire_0 : decode cX6_hire 0 = .ok (.aload_n 0, 1) := by decide +kernel
theorem dX6_hire_1 : decode cX6_hire 1 = .ok (.iconst 0, 1) := by decide +kernel
theorem dX6_hire_2 : decode cX6_hire 2 = .ok (.putfield 28, 3) := by decide +kernel
theorem dX6_hire_5 : decode cX6_hire 5 = .ok (.iload_n 1, 1) := by decide +kernel
theorem dX6_hire_6 : decode cX6_hire 6 = .ok (.iconst 1, 1) := by decide +kernel
theorem dX6_hire_7 : decode cX6_hire 7 = .ok (.bipush 9, 2) := by decide +kernel
theorem dX6_hire_9 : decode cX6_hire 9 = .ok (.invokestatic 35, 3) := by decide +kernel
theorem dX6_hire_12 : decode cX6_hire 12 = .ok (.ifCond .ne 9, 3) := by decide +kernel
theorem dX6_hire_15 : decode cX6_hire 15 = .ok (.aload_n 0, 1) := by decide +kernel
theorem dX6_hire_16 : decode cX6_hire 16 = .ok (.iconst 1, 1) := by decide +kernel
theorem dX6_hire_17 : decode cX6_hire 17 = .ok (.invokevirtual 45, 3) := by decide +kernel
theorem dX6_hire_20 : decode cX6_hire 20 = .ok (.ireturn, 1) := by decide +kernel
theorem dX6_hire_21 : decode cX6_hire 21 = .ok (.aload_n 0, 1) := by decide +kernel
theorem dX6_hire_22 : decode cX6_hire 22 = .ok (.getfield 39, 3) := by decide +kernel
theorem dX6_hire_25 : decode cX6_hire 25 = .ok (.bipush 6, 2) := by decide +kernel
theorem dX6_hire_27 : decode cX6_hire 27 = .ok (.if_icmp .ne 9, 3) := by decide +kernel
theorem dX6_hire_30 : decode cX6_hire 30 = .ok (.aload_n 0, 1) := by decide +kernel
theorem dX6_hire_31 : decode cX6_hire 31 = .ok (.iconst 2, 1) := by decide +kernel
theorem dX6_hire_32 : decode cX6_hire 32 = .ok (.invokevirtual 45, 3) := by decide +kernel
theorem dX6_hire_35 : decode cX6_hire 35 = .ok (.ireturn, 1) := by decide +kernel
theorem dX6_hire_36 : decode cX6_hire 36 = .ok (.aload_n 0, 1) := by decide +kernel
theorem dX6_hire_37 : decode cX6_hire 37 = .ok (.aload_n 0, 1) := by decide +kernel
theorem dX6_hire_38 : decode cX6_hire 38 = .ok (.getfield 39, 3) := by decide +kernel
theorem dX6_hire_41 : decode cX6_hire 41 = .ok (.iconst 0, 1) := by decide +kernel
theorem dX6_hire_42 : decode cX6_hire 42 = .ok (.iload_n 1, 1) := by decide +kernel
theorem dX6_hire_43 : decode cX6_hire 43 = .ok (.invokevirtual 49, 3) := by decide +kernel
theorem dX6_hire_46 : decode cX6_hire 46 = .ok (.aload_n 0, 1) := by decide +kernel
theorem dX6_hire_47 : decode cX6_hire 47 = .ok (.aload_n 0, 1) := by decide +kernel
theorem dX6_hire_48 : decode cX6_hire 48 = .ok (.getfield 39, 3) := by decide +kernel
theorem dX6_hire_51 : decode cX6_hire 51 = .ok (.iconst 1, 1) := by decide +kernel
theorem dX6_hire_52 : decode cX6_hire 52 = .ok (.iconst (-1), 1) := by decide +kernel
theorem dX6_hire_53 : decode cX6_hire 53 = .ok (.invokevirtual 49, 3) := by decide +kernel
theorem dX6_hire_56 : decode cX6_hire 56 = .ok (.aload_n 0, 1) := by decide +kernel
theorem dX6_hire_57 : decode cX6_hire 57 = .ok (.dup, 1) := by decide +kernel
theorem dX6_hire_58 : decode cX6_hire 58 = .ok (.getfield 39, 3) := by decide +kernel
theorem dX6_hire_61 : decode cX6_hire 61 = .ok (.iconst 1, 1) := by decide +kernel
theorem dX6_hire_62 : decode cX6_hire 62 = .ok (.iadd, 1) := by decide +kernel
theorem dX6_hire_63 : decode cX6_hire 63 = .ok (.putfield 39, 3) := by decide +kernel
theorem dX6_hire_66 : decode cX6_hire 66 = .ok (.aload_n 0, 1) := by decide +kernel
theorem dX6_hire_67 : decode cX6_hire 67 = .ok (.getfield 39, 3) := by decide +kernel
theorem dX6_hire_70 : decode cX6_hire 70 = .ok (.iconst 1, 1) := by decide +kernel
theorem dX6_hire_71 : decode cX6_hire 71 = .ok (.isub, 1) := by decide +kernel
theorem dX6_hire_72 : decode cX6_hire 72 = .ok (.ireturn, 1) := by decide +kernel
set_option maxRecDepth 20000 in
theorem ggX6_send_X6_isQuarrier : GoodIn wsX6_send wsX6_isQuarrier := goodIn_r _ [6, 7, 8, 9, 5, 10, 29, 30, 31, 32, 33, 34, 35, 36, 37, 38] (by decide +kernel) (by decide +kernel)
set_option maxRecDepth 20000 in
theorem gX6_send_X6_isQuarrier : GoodIn wsX6_send (wsV RX6 53 RX6 yX6_isQuarrier wsX6_isQuarrier) := goodIn_app (goodIn_of _ (by decide +kernel)) ggX6_send_X6_isQuarrier
set_option maxRecDepth 20000 in
theorem ggX6_send_X6_isBed : GoodIn wsX6_send wsX6_isBed := goodIn_r _ [14, 15, 8, 9, 5, 10, 29, 30, 31, 32, 33, 34, 35, 36, 37, 38] (by decide +kernel) (by decide +kernel)
set_option maxRecDepth 20000 in
theorem gX6_send_X6_isBed : GoodIn wsX6_send (wsV RX6 57 RX6 yX6_isBed wsX6_isBed) := goodIn_app (goodIn_of _ (by decide +kernel)) ggX6_send_X6_isBed
set_option maxRecDepth 20000 in
theorem ggX6_send_X6_fail : GoodIn wsX6_send wsX6_fail := goodIn_r _ [19, 1, 29, 30, 31, 32, 33, 34, 35, 36, 37, 38] (by decide +kernel) (by decide +kernel)
set_option maxRecDepth 20000 in
theorem gX6_send_X6_fail : GoodIn wsX6_send (wsV RX6 45 RX6 yX6_fail wsX6_fail) := goodIn_app (goodIn_of _ (by decide +kernel)) ggX6_send_X6_fail
set_option maxRecDepth 20000 in
theorem ggX6_send_X6_pe : GoodIn wsX6_send wsX6_pe := goodIn_r _ [23, 24, 29, 30, 31, 32, 33, 34, 35, 36, 37, 38] (by decide +kernel) (by decide +kernel)
set_option maxRecDepth 20000 in
theorem gX6_send_X6_pe : GoodIn wsX6_send (wsV RX6 60 RX6 yX6_pe wsX6_pe) := goodIn_app (goodIn_of _ (by decide +kernel)) ggX6_send_X6_pe
set_option maxRecDepth 20000 in
theorem ggX6_send_X6_put : GoodIn wsX6_send wsX6_put := goodIn_r _ [28, 24, 29, 30, 31, 32, 33, 34, 35, 36, 37, 38] (by decide +kernel) (by decide +kernel)
set_option maxRecDepth 20000 in
theorem gX6_send_X6_put : GoodIn wsX6_send (wsV RX6 49 RX6 yX6_put wsX6_put) := goodIn_app (goodIn_of _ (by decide +kernel)) ggX6_send_X6_put
theorem dX6_send_0 : decode cX6_send 0 = .ok (.aload_n 0, 1) := by decide +kernel
theorem dX6_send_1 : decode cX6_send 1 = .ok (.iconst 0, 1) := by decide +kernel
theorem dX6_send_2 : decode cX6_send 2 = .ok (.putfield 28, 3) := by decide +kernel
theorem dX6_send_5 : decode cX6_send 5 = .ok (.aload_n 0, 1) := by decide +kernel
theorem dX6_send_6 : decode cX6_send 6 = .ok (.iload_n 1, 1) := by decide +kernel
theorem dX6_send_7 : decode cX6_send 7 = .ok (.invokevirtual 53, 3) := by decide +kernel
theorem dX6_send_10 : decode cX6_send 10 = .ok (.ifCond .eq 16, 3) := by decide +kernel
theorem dX6_send_13 : decode cX6_send 13 = .ok (.iload_n 2, 1) := by decide +kernel
theorem dX6_send_14 : decode cX6_send 14 = .ok (.iconst (-1), 1) := by decide +kernel
theorem dX6_send_15 : decode cX6_send 15 = .ok (.if_icmp .eq 17, 3) := by decide +kernel
theorem dX6_send_18 : decode cX6_send 18 = .ok (.aload_n 0, 1) := by decide +kernel
theorem dX6_send_19 : decode cX6_send 19 = .ok (.iload_n 2, 1) := by decide +kernel
theorem dX6_send_20 : decode cX6_send 20 = .ok (.invokevirtual 57, 3) := by decide +kernel
theorem dX6_send_23 : decode cX6_send 23 = .ok (.ifCond .ne 9, 3) := by decide +kernel
theorem dX6_send_26 : decode cX6_send 26 = .ok (.aload_n 0, 1) := by decide +kernel
theorem dX6_send_27 : decode cX6_send 27 = .ok (.iconst 1, 1) := by decide +kernel
theorem dX6_send_28 : decode cX6_send 28 = .ok (.invokevirtual 45, 3) := by decide +kernel
theorem dX6_send_31 : decode cX6_send 31 = .ok (.ireturn, 1) := by decide +kernel
theorem dX6_send_32 : decode cX6_send 32 = .ok (.aload_n 0, 1) := by decide +kernel
theorem dX6_send_33 : decode cX6_send 33 = .ok (.iload_n 1, 1) := by decide +kernel
theorem dX6_send_34 : decode cX6_send 34 = .ok (.iconst 1, 1) := by decide +kernel
theorem dX6_send_35 : decode cX6_send 35 = .ok (.invokevirtual 60, 3) := by decide +kernel
theorem dX6_send_38 : decode cX6_send 38 = .ok (.istore_n 3, 1) := by decide +kernel
theorem dX6_send_39 : decode cX6_send 39 = .ok (.aload_n 0, 1) := by decide +kernel
theorem dX6_send_40 : decode cX6_send 40 = .ok (.iload_n 1, 1) := by decide +kernel
theorem dX6_send_41 : decode cX6_send 41 = .ok (.iconst 1, 1) := by decide +kernel
theorem dX6_send_42 : decode cX6_send 42 = .ok (.iload_n 2, 1) := by decide +kernel
theorem dX6_send_43 : decode cX6_send 43 = .ok (.invokevirtual 49, 3) := by decide +kernel
theorem dX6_send_46 : decode cX6_send 46 = .ok (.iload_n 3, 1) := by decide +kernel
theorem dX6_send_47 : decode cX6_send 47 = .ok (.ireturn, 1) := by decide +kernel
set_option maxRecDepth 20000 in
theorem ggX6_weight_X6_st : GoodIn wsX6_weight wsX6_st := goodIn_r _ [5, 6, 7, 8, 9, 10, 11, 12, 13, 14, 15, 16] (by decide +kernel) (by decide +kernel)
set_option maxRecDepth 20000 in
theorem gX6_weight_X6_st : GoodIn wsX6_weight (wsV RX6 64 RX6 yX6_st wsX6_st) := goodIn_app (goodIn_of _ (by decide +kernel)) ggX6_weight_X6_st
theorem dX6_weight_0 : decode cX6_weight 0 = .ok (.iconst 2, 1) := by decide +kernel
theorem dX6_weight_1 : decode cX6_weight 1 = .ok (.aload_n 0, 1) := by decide +kernel
theorem dX6_weight_2 : decode cX6_weight 2 = .ok (.iload_n 1, 1) := by decide +kernel
theorem dX6_weight_3 : decode cX6_weight 3 = .ok (.iconst 1, 1) := by decide +kernel
theorem dX6_weight_4 : decode cX6_weight 4 = .ok (.invokevirtual 64, 3) := by decide +kernel
theorem dX6_weight_7 : decode cX6_weight 7 = .ok (.imul, 1) := by decide +kernel
theorem dX6_weight_8 : decode cX6_weight 8 = .ok (.aload_n 0, 1) := by decide +kernel
theorem dX6_weight_9 : decode cX6_weight 9 = .ok (.iload_n 1, 1) := by decide +kernel
theorem dX6_weight_10 : decode cX6_weight 10 = .ok (.iconst 1, 1) := by decide +kernel
theorem dX6_weight_11 : decode cX6_weight 11 = .ok (.invokevirtual 64, 3) := by decide +kernel
theorem dX6_weight_14 : decode cX6_weight 14 = .ok (.imul, 1) := by decide +kernel
theorem dX6_weight_15 : decode cX6_weight 15 = .ok (.ireturn, 1) := by decide +kernel
set_option maxRecDepth 20000 in
theorem ggX6_worth_X6_st : GoodIn wsX6_worth wsX6_st := goodIn_r _ [5, 6, 12, 13, 14, 15, 16, 17, 18, 19, 20, 21] (by decide +kernel) (by decide +kernel)
set_option maxRecDepth 20000 in
theorem gX6_worth_X6_st : GoodIn wsX6_worth (wsV RX6 64 RX6 yX6_st wsX6_st) := goodIn_app (goodIn_of _ (by decide +kernel)) ggX6_worth_X6_st
set_option maxRecDepth 20000 in
theorem ggX6_worth_X6_ro : GoodIn wsX6_worth wsX6_ro := goodIn_r _ [10, 11, 12, 13, 14, 15, 16, 17, 18, 19, 20, 21] (by decide +kernel) (by decide +kernel)
set_option maxRecDepth 20000 in
theorem gX6_worth_X6_ro : GoodIn wsX6_worth (wsV RX6 67 RX6 yX6_ro wsX6_ro) := goodIn_app (goodIn_of _ (by decide +kernel)) ggX6_worth_X6_ro
theorem dX6_worth_0 : decode cX6_worth 0 = .ok (.aload_n 0, 1) := by decide +kernel
theorem dX6_worth_1 : decode cX6_worth 1 = .ok (.iload_n 1, 1) := by decide +kernel
theorem dX6_worth_2 : decode cX6_worth 2 = .ok (.iconst 2, 1) := by decide +kernel
theorem dX6_worth_3 : decode cX6_worth 3 = .ok (.invokevirtual 64, 3) := by decide +kernel
theorem dX6_worth_6 : decode cX6_worth 6 = .ok (.iconst 4, 1) := by decide +kernel
theorem dX6_worth_7 : decode cX6_worth 7 = .ok (.if_icmp .ne 5, 3) := by decide +kernel
theorem dX6_worth_10 : decode cX6_worth 10 = .ok (.iconst 0, 1) := by decide +kernel
theorem dX6_worth_11 : decode cX6_worth 11 = .ok (.ireturn, 1) := by decide +kernel
theorem dX6_worth_12 : decode cX6_worth 12 = .ok (.aload_n 0, 1) := by decide +kernel
theorem dX6_worth_13 : decode cX6_worth 13 = .ok (.iload_n 1, 1) := by decide +kernel
theorem dX6_worth_14 : decode cX6_worth 14 = .ok (.iconst 1, 1) := by decide +kernel
theorem dX6_worth_15 : decode cX6_worth 15 = .ok (.invokevirtual 64, 3) := by decide +kernel
theorem dX6_worth_18 : decode cX6_worth 18 = .ok (.bipush 10, 2) := by decide +kernel
theorem dX6_worth_20 : decode cX6_worth 20 = .ok (.aload_n 0, 1) := by decide +kernel
theorem dX6_worth_21 : decode cX6_worth 21 = .ok (.aload_n 0, 1) := by decide +kernel
theorem dX6_worth_22 : decode cX6_worth 22 = .ok (.iload_n 1, 1) := by decide +kernel
theorem dX6_worth_23 : decode cX6_worth 23 = .ok (.iconst 0, 1) := by decide +kernel
theorem dX6_worth_24 : decode cX6_worth 24 = .ok (.invokevirtual 64, 3) := by decide +kernel
theorem dX6_worth_27 : decode cX6_worth 27 = .ok (.iconst 0, 1) := by decide +kernel
theorem dX6_worth_28 : decode cX6_worth 28 = .ok (.invokevirtual 67, 3) := by decide +kernel
theorem dX6_worth_31 : decode cX6_worth 31 = .ok (.isub, 1) := by decide +kernel
theorem dX6_worth_32 : decode cX6_worth 32 = .ok (.imul, 1) := by decide +kernel
theorem dX6_worth_33 : decode cX6_worth 33 = .ok (.aload_n 0, 1) := by decide +kernel
theorem dX6_worth_34 : decode cX6_worth 34 = .ok (.iload_n 1, 1) := by decide +kernel
theorem dX6_worth_35 : decode cX6_worth 35 = .ok (.iconst 2, 1) := by decide +kernel
theorem dX6_worth_36 : decode cX6_worth 36 = .ok (.invokevirtual 64, 3) := by decide +kernel
theorem dX6_worth_39 : decode cX6_worth 39 = .ok (.ifCond .ne 7, 3) := by decide +kernel
theorem dX6_worth_42 : decode cX6_worth 42 = .ok (.iconst 1, 1) := by decide +kernel
theorem dX6_worth_43 : decode cX6_worth 43 = .ok (.goto 4, 3) := by decide +kernel
theorem dX6_worth_46 : decode cX6_worth 46 = .ok (.iconst 3, 1) := by decide +kernel
theorem dX6_worth_47 : decode cX6_worth 47 = .ok (.imul, 1) := by decide +kernel
theorem dX6_worth_48 : decode cX6_worth 48 = .ok (.istore_n 2, 1) := by decide +kernel
theorem dX6_worth_49 : decode cX6_worth 49 = .ok (.aload_n 0, 1) := by decide +kernel
theorem dX6_worth_50 : decode cX6_worth 50 = .ok (.iload_n 1, 1) := by decide +kernel
theorem dX6_worth_51 : decode cX6_worth 51 = .ok (.iconst 4, 1) := by decide +kernel
theorem dX6_worth_52 : decode cX6_worth 52 = .ok (.invokevirtual 64, 3) := by decide +kernel
theorem dX6_worth_55 : decode cX6_worth 55 = .ok (.iconst 1, 1) := by decide +kernel
theorem dX6_worth_56 : decode cX6_worth 56 = .ok (.if_icmp .ne 9, 3) := by decide +kernel
theorem dX6_worth_59 : decode cX6_worth 59 = .ok (.iload_n 2, 1) := by decide +kernel
theorem dX6_worth_60 : decode cX6_worth 60 = .ok (.iconst 5, 1) := by decide +kernel
theorem dX6_worth_61 : decode cX6_worth 61 = .ok (.idiv, 1) := by decide +kernel
theorem dX6_worth_62 : decode cX6_worth 62 = .ok (.goto 4, 3) := by decide +kernel
theorem dX6_worth_65 : decode cX6_worth 65 = .ok (.iload_n 2, 1) := by decide +kernel
theorem dX6_worth_66 : decode cX6_worth 66 = .ok (.ireturn, 1) := by decide +kernel
set_option maxRecDepth 20000 in
theorem ggX6_ring_X6_isWheel : GoodIn wsX6_ring wsX6_isWheel := goodIn_r _ [6, 7, 8, 9, 5, 10, 25, 26, 27, 28, 29, 30, 31, 32, 33, 34] (by decide +kernel) (by decide +kernel)
set_option maxRecDepth 20000 in
theorem gX6_ring_X6_isWheel : GoodIn wsX6_ring (wsV RX6 70 RX6 yX6_isWheel wsX6_isWheel) := goodIn_app (goodIn_of _ (by decide +kernel)) ggX6_ring_X6_isWheel
set_option maxRecDepth 20000 in
theorem ggX6_ring_X6_fail : GoodIn wsX6_ring wsX6_fail := goodIn_r _ [14, 1, 25, 26, 27, 28, 29, 30, 31, 32, 33, 34] (by decide +kernel) (by decide +kernel)
set_option maxRecDepth 20000 in
theorem gX6_ring_X6_fail : GoodIn wsX6_ring (wsV RX6 45 RX6 yX6_fail wsX6_fail) := goodIn_app (goodIn_of _ (by decide +kernel)) ggX6_ring_X6_fail
set_option maxRecDepth 20000 in
theorem ggX6_ring_X6_st : GoodIn wsX6_ring wsX6_st := goodIn_r _ [18, 19, 25, 26, 27, 28, 29, 30, 31, 32, 33, 34] (by decide +kernel) (by decide +kernel)
set_option maxRecDepth 20000 in
theorem gX6_ring_X6_st : GoodIn wsX6_ring (wsV RX6 64 RX6 yX6_st wsX6_st) := goodIn_app (goodIn_of _ (by decide +kernel)) ggX6_ring_X6_st
set_option maxRecDepth 20000 in
theorem ggX6_ring_X6_ro : GoodIn wsX6_ring wsX6_ro := goodIn_r _ [23, 24, 25, 26, 27, 28, 29, 30, 31, 32, 33, 34] (by decide +kernel) (by decide +kernel)
set_option maxRecDepth 20000 in
theorem gX6_ring_X6_ro : GoodIn wsX6_ring (wsV RX6 67 RX6 yX6_ro wsX6_ro) := goodIn_app (goodIn_of _ (by decide +kernel)) ggX6_ring_X6_ro
theorem dX6_ring_0 : decode cX6_ring 0 = .ok (.aload_n 0, 1) := by decide +kernel
theorem dX6_ring_1 : decode cX6_ring 1 = .ok (.iconst 0, 1) := by decide +kernel
theorem dX6_ring_2 : decode cX6_ring 2 = .ok (.putfield 28, 3) := by decide +kernel
theorem dX6_ring_5 : decode cX6_ring 5 = .ok (.aload_n 0, 1) := by decide +kernel
theorem dX6_ring_6 : decode cX6_ring 6 = .ok (.iload_n 1, 1) := by decide +kernel
theorem dX6_ring_7 : decode cX6_ring 7 = .ok (.invokevirtual 70, 3) := by decide +kernel
theorem dX6_ring_10 : decode cX6_ring 10 = .ok (.ifCond .ne 9, 3) := by decide +kernel
theorem dX6_ring_13 : decode cX6_ring 13 = .ok (.aload_n 0, 1) := by decide +kernel
theorem dX6_ring_14 : decode cX6_ring 14 = .ok (.iconst 1, 1) := by decide +kernel
theorem dX6_ring_15 : decode cX6_ring 15 = .ok (.invokevirtual 45, 3) := by decide +kernel
theorem dX6_ring_18 : decode cX6_ring 18 = .ok (.ireturn, 1) := by decide +kernel
theorem dX6_ring_19 : decode cX6_ring 19 = .ok (.aload_n 0, 1) := by decide +kernel
theorem dX6_ring_20 : decode cX6_ring 20 = .ok (.iload_n 1, 1) := by decide +kernel
theorem dX6_ring_21 : decode cX6_ring 21 = .ok (.iconst 2, 1) := by decide +kernel
theorem dX6_ring_22 : decode cX6_ring 22 = .ok (.invokevirtual 64, 3) := by decide +kernel
theorem dX6_ring_25 : decode cX6_ring 25 = .ok (.iconst 2, 1) := by decide +kernel
theorem dX6_ring_26 : decode cX6_ring 26 = .ok (.if_icmp .le 9, 3) := by decide +kernel
theorem dX6_ring_29 : decode cX6_ring 29 = .ok (.aload_n 0, 1) := by decide +kernel
theorem dX6_ring_30 : decode cX6_ring 30 = .ok (.iconst 2, 1) := by decide +kernel
theorem dX6_ring_31 : decode cX6_ring 31 = .ok (.invokevirtual 45, 3) := by decide +kernel
theorem dX6_ring_34 : decode cX6_ring 34 = .ok (.ireturn, 1) := by decide +kernel
theorem dX6_ring_35 : decode cX6_ring 35 = .ok (.bipush 50, 2) := by decide +kernel
theorem dX6_ring_37 : decode cX6_ring 37 = .ok (.iconst 4, 1) := by decide +kernel
theorem dX6_ring_38 : decode cX6_ring 38 = .ok (.aload_n 0, 1) := by decide +kernel
theorem dX6_ring_39 : decode cX6_ring 39 = .ok (.iload_n 1, 1) := by decide +kernel
theorem dX6_ring_40 : decode cX6_ring 40 = .ok (.iconst 1, 1) := by decide +kernel
theorem dX6_ring_41 : decode cX6_ring 41 = .ok (.invokevirtual 64, 3) := by decide +kernel
theorem dX6_ring_44 : decode cX6_ring 44 = .ok (.imul, 1) := by decide +kernel
theorem dX6_ring_45 : decode cX6_ring 45 = .ok (.isub, 1) := by decide +kernel
theorem dX6_ring_46 : decode cX6_ring 46 = .ok (.aload_n 0, 1) := by decide +kernel
theorem dX6_ring_47 : decode cX6_ring 47 = .ok (.aload_n 0, 1) := by decide +kernel
theorem dX6_ring_48 : decode cX6_ring 48 = .ok (.iload_n 1, 1) := by decide +kernel
theorem dX6_ring_49 : decode cX6_ring 49 = .ok (.iconst 0, 1) := by decide +kernel
theorem dX6_ring_50 : decode cX6_ring 50 = .ok (.invokevirtual 64, 3) := by decide +kernel
theorem dX6_ring_53 : decode cX6_ring 53 = .ok (.iconst 0, 1) := by decide +kernel
theorem dX6_ring_54 : decode cX6_ring 54 = .ok (.invokevirtual 67, 3) := by decide +kernel
theorem dX6_ring_57 : decode cX6_ring 57 = .ok (.isub, 1) := by decide +kernel
theorem dX6_ring_58 : decode cX6_ring 58 = .ok (.bipush 9, 2) := by decide +kernel
theorem dX6_ring_60 : decode cX6_ring 60 = .ok (.aload_n 0, 1) := by decide +kernel
theorem dX6_ring_61 : decode cX6_ring 61 = .ok (.iload_n 1, 1) := by decide +kernel
theorem dX6_ring_62 : decode cX6_ring 62 = .ok (.iconst 4, 1) := by decide +kernel
theorem dX6_ring_63 : decode cX6_ring 63 = .ok (.invokevirtual 64, 3) := by decide +kernel
theorem dX6_ring_66 : decode cX6_ring 66 = .ok (.imul, 1) := by decide +kernel
theorem dX6_ring_67 : decode cX6_ring 67 = .ok (.isub, 1) := by decide +kernel
theorem dX6_ring_68 : decode cX6_ring 68 = .ok (.ireturn, 1) := by decide +kernel
set_option maxRecDepth 20000 in
theorem ggX6_smash_X6_isWheel : GoodIn wsX6_smash wsX6_isWheel := goodIn_r _ [12, 13, 14, 15, 11, 16, 25, 26, 27, 28, 29, 30, 31, 32, 33, 34] (by decide +kernel) (by decide +kernel)
set_option maxRecDepth 20000 in
theorem gX6_smash_X6_isWheel : GoodIn wsX6_smash (wsV RX6 70 RX6 yX6_isWheel wsX6_isWheel) := goodIn_app (goodIn_of _ (by decide +kernel)) ggX6_smash_X6_isWheel
set_option maxRecDepth 20000 in
theorem ggX6_smash_X6_fail : GoodIn wsX6_smash wsX6_fail := goodIn_r _ [20, 1, 25, 26, 27, 28, 29, 30, 31, 32, 33, 34] (by decide +kernel) (by decide +kernel)
set_option maxRecDepth 20000 in
theorem gX6_smash_X6_fail : GoodIn wsX6_smash (wsV RX6 45 RX6 yX6_fail wsX6_fail) := goodIn_app (goodIn_of _ (by decide +kernel)) ggX6_smash_X6_fail
set_option maxRecDepth 20000 in
theorem ggX6_smash_X6_st : GoodIn wsX6_smash wsX6_st := goodIn_r _ [24, 2, 25, 26, 27, 28, 29, 30, 31, 32, 33, 34] (by decide +kernel) (by decide +kernel)
set_option maxRecDepth 20000 in
theorem gX6_smash_X6_st : GoodIn wsX6_smash (wsV RX6 64 RX6 yX6_st wsX6_st) := goodIn_app (goodIn_of _ (by decide +kernel)) ggX6_smash_X6_st
theorem dX6_smash_0 : decode cX6_smash 0 = .ok (.aload_n 0, 1) := by decide +kernel
theorem dX6_smash_1 : decode cX6_smash 1 = .ok (.iconst 0, 1) := by decide +kernel
theorem dX6_smash_2 : decode cX6_smash 2 = .ok (.putfield 28, 3) := by decide +kernel
theorem dX6_smash_5 : decode cX6_smash 5 = .ok (.aload_n 0, 1) := by decide +kernel
theorem dX6_smash_6 : decode cX6_smash 6 = .ok (.iload_n 1, 1) := by decide +kernel
theorem dX6_smash_7 : decode cX6_smash 7 = .ok (.invokevirtual 70, 3) := by decide +kernel
theorem dX6_smash_10 : decode cX6_smash 10 = .ok (.ifCond .ne 9, 3) := by decide +kernel
theorem dX6_smash_13 : decode cX6_smash 13 = .ok (.aload_n 0, 1) := by decide +kernel
theorem dX6_smash_14 : decode cX6_smash 14 = .ok (.iconst 1, 1) := by decide +kernel
theorem dX6_smash_15 : decode cX6_smash 15 = .ok (.invokevirtual 45, 3) := by decide +kernel
theorem dX6_smash_18 : decode cX6_smash 18 = .ok (.ireturn, 1) := by decide +kernel
theorem dX6_smash_19 : decode cX6_smash 19 = .ok (.aload_n 0, 1) := by decide +kernel
theorem dX6_smash_20 : decode cX6_smash 20 = .ok (.iload_n 1, 1) := by decide +kernel
theorem dX6_smash_21 : decode cX6_smash 21 = .ok (.iconst 2, 1) := by decide +kernel
theorem dX6_smash_22 : decode cX6_smash 22 = .ok (.invokevirtual 64, 3) := by decide +kernel
theorem dX6_smash_25 : decode cX6_smash 25 = .ok (.iconst 1, 1) := by decide +kernel
theorem dX6_smash_26 : decode cX6_smash 26 = .ok (.if_icmp .le 9, 3) := by decide +kernel
theorem dX6_smash_29 : decode cX6_smash 29 = .ok (.aload_n 0, 1) := by decide +kernel
theorem dX6_smash_30 : decode cX6_smash 30 = .ok (.iconst 2, 1) := by decide +kernel
theorem dX6_smash_31 : decode cX6_smash 31 = .ok (.invokevirtual 45, 3) := by decide +kernel
theorem dX6_smash_34 : decode cX6_smash 34 = .ok (.ireturn, 1) := by decide +kernel
theorem dX6_smash_35 : decode cX6_smash 35 = .ok (.iconst 4, 1) := by decide +kernel
theorem dX6_smash_36 : decode cX6_smash 36 = .ok (.aload_n 0, 1) := by decide +kernel
theorem dX6_smash_37 : decode cX6_smash 37 = .ok (.iload_n 1, 1) := by decide +kernel
theorem dX6_smash_38 : decode cX6_smash 38 = .ok (.iconst 0, 1) := by decide +kernel
theorem dX6_smash_39 : decode cX6_smash 39 = .ok (.invokevirtual 64, 3) := by decide +kernel
theorem dX6_smash_42 : decode cX6_smash 42 = .ok (.imul, 1) := by decide +kernel
theorem dX6_smash_43 : decode cX6_smash 43 = .ok (.iconst 2, 1) := by decide +kernel
theorem dX6_smash_44 : decode cX6_smash 44 = .ok (.iadd, 1) := by decide +kernel
theorem dX6_smash_45 : decode cX6_smash 45 = .ok (.istore_n 2, 1) := by decide +kernel
theorem dX6_smash_46 : decode cX6_smash 46 = .ok (.aload_n 0, 1) := by decide +kernel
theorem dX6_smash_47 : decode cX6_smash 47 = .ok (.getfield 19, 3) := by decide +kernel
theorem dX6_smash_50 : decode cX6_smash 50 = .ok (.iconst 5, 1) := by decide +kernel
theorem dX6_smash_51 : decode cX6_smash 51 = .ok (.iload_n 1, 1) := by decide +kernel
theorem dX6_smash_52 : decode cX6_smash 52 = .ok (.imul, 1) := by decide +kernel
theorem dX6_smash_53 : decode cX6_smash 53 = .ok (.iconst 2, 1) := by decide +kernel
theorem dX6_smash_54 : decode cX6_smash 54 = .ok (.iadd, 1) := by decide +kernel
theorem dX6_smash_55 : decode cX6_smash 55 = .ok (.iconst 4, 1) := by decide +kernel
theorem dX6_smash_56 : decode cX6_smash 56 = .ok (.iastore, 1) := by decide +kernel
theorem dX6_smash_57 : decode cX6_smash 57 = .ok (.aload_n 0, 1) := by decide +kernel
theorem dX6_smash_58 : decode cX6_smash 58 = .ok (.getfield 13, 3) := by decide +kernel
theorem dX6_smash_61 : decode cX6_smash 61 = .ok (.iload_n 2, 1) := by decide +kernel
theorem dX6_smash_62 : decode cX6_smash 62 = .ok (.sipush 200, 3) := by decide +kernel
theorem dX6_smash_65 : decode cX6_smash 65 = .ok (.aload_n 0, 1) := by decide +kernel
theorem dX6_smash_66 : decode cX6_smash 66 = .ok (.getfield 13, 3) := by decide +kernel
theorem dX6_smash_69 : decode cX6_smash 69 = .ok (.iload_n 2, 1) := by decide +kernel
theorem dX6_smash_70 : decode cX6_smash 70 = .ok (.iaload, 1) := by decide +kernel
theorem dX6_smash_71 : decode cX6_smash 71 = .ok (.aload_n 0, 1) := by decide +kernel
theorem dX6_smash_72 : decode cX6_smash 72 = .ok (.iload_n 1, 1) := by decide +kernel
