theorem dX1_numberAt_12 : decode cX1_numberAt 12 = .ok (.aload_n 0, 1) := by decide +kernel
theorem dX1_numberAt_13 : decode cX1_numberAt 13 = .ok (.getfield 15, 3) := by decide +kernel
theorem dX1_numberAt_16 : decode cX1_numberAt 16 = .ok (.iload_n 3, 1) := by decide +kernel
theorem dX1_numberAt_17 : decode cX1_numberAt 17 = .ok (.iaload, 1) := by decide +kernel
theorem dX1_numberAt_18 : decode cX1_numberAt 18 = .ok (.iload_n 1, 1) := by decide +kernel
theorem dX1_numberAt_19 : decode cX1_numberAt 19 = .ok (.if_icmp .ne 6, 3) := by decide +kernel
theorem dX1_numberAt_22 : decode cX1_numberAt 22 = .ok (.iinc 2 1, 3) := by decide +kernel
theorem dX1_numberAt_25 : decode cX1_numberAt 25 = .ok (.iinc 3 1, 3) := by decide +kernel
theorem dX1_numberAt_28 : decode cX1_numberAt 28 = .ok (.goto (-24), 3) := by decide +kernel
theorem dX1_numberAt_31 : decode cX1_numberAt 31 = .ok (.iload_n 2, 1) := by decide +kernel
theorem dX1_numberAt_32 : decode cX1_numberAt 32 = .ok (.ireturn, 1) := by decide +kernel
theorem dX1_dustInAll_0 : decode cX1_dustInAll 0 = .ok (.iconst 0, 1) := by decide +kernel
theorem dX1_dustInAll_1 : decode cX1_dustInAll 1 = .ok (.istore_n 1, 1) := by decide +kernel
theorem dX1_dustInAll_2 : decode cX1_dustInAll 2 = .ok (.iconst 0, 1) := by decide +kernel
theorem dX1_dustInAll_3 : decode cX1_dustInAll 3 = .ok (.istore_n 2, 1) := by decide +kernel
theorem dX1_dustInAll_4 : decode cX1_dustInAll 4 = .ok (.iload_n 2, 1) := by decide +kernel
theorem dX1_dustInAll_5 : decode cX1_dustInAll 5 = .ok (.aload_n 0, 1) := by decide +kernel
theorem dX1_dustInAll_6 : decode cX1_dustInAll 6 = .ok (.getfield 24, 3) := by decide +kernel
theorem dX1_dustInAll_9 : decode cX1_dustInAll 9 = .ok (.if_icmp .ge 18, 3) := by decide +kernel
theorem dX1_dustInAll_12 : decode cX1_dustInAll 12 = .ok (.iload_n 1, 1) := by decide +kernel
theorem dX1_dustInAll_13 : decode cX1_dustInAll 13 = .ok (.aload_n 0, 1) := by decide +kernel
theorem dX1_dustInAll_14 : decode cX1_dustInAll 14 = .ok (.getfield 18, 3) := by decide +kernel
theorem dX1_dustInAll_17 : decode cX1_dustInAll 17 = .ok (.iload_n 2, 1) := by decide +kernel
theorem dX1_dustInAll_18 : decode cX1_dustInAll 18 = .ok (.iaload, 1) := by decide +kernel
theorem dX1_dustInAll_19 : decode cX1_dustInAll 19 = .ok (.iadd, 1) := by decide +kernel
theorem dX1_dustInAll_20 : decode cX1_dustInAll 20 = .ok (.istore_n 1, 1) := by decide +kernel
theorem dX1_dustInAll_21 : decode cX1_dustInAll 21 = .ok (.iinc 2 1, 3) := by decide +kernel
theorem dX1_dustInAll_24 : decode cX1_dustInAll 24 = .ok (.goto (-20), 3) := by decide +kernel
theorem dX1_dustInAll_27 : decode cX1_dustInAll 27 = .ok (.iload_n 1, 1) := by decide +kernel
theorem dX1_dustInAll_28 : decode cX1_dustInAll 28 = .ok (.ireturn, 1) := by decide +kernel
set_option maxRecDepth 20000 in
theorem ggX2_init_J7_fill_53178 : GoodIn wsX2_init wsJ7_fill_53178 := goodIn_r _ [21] (by decide +kernel) (by decide +kernel)
set_option maxRecDepth 20000 in
theorem gX2_init_J7_fill_53178 : GoodIn wsX2_init (va_wsS RX2 15 yJ7_fill_53178 wsJ7_fill_53178) := goodIn_app (goodIn_of _ (by decide +kernel)) ggX2_init_J7_fill_53178
set_option maxRecDepth 20000 in
theorem ggX2_init_X0_init : GoodIn wsX2_init wsX0_init := goodIn_r _ [24, 25, 2, 3, 4, 26, 27, 28, 29, 54, 55, 56, 57, 58] (by decide +kernel) (by decide +kernel)
set_option maxRecDepth 20000 in
theorem gX2_init_X0_init : GoodIn wsX2_init (wsX0_init) := ggX2_init_X0_init
set_option maxRecDepth 20000 in
theorem ggX2_init_X1_init : GoodIn wsX2_init wsX1_init := goodIn_r _ [32, 33, 2, 3, 4, 34, 35, 36, 37, 59, 60, 61, 62, 63] (by decide +kernel) (by decide +kernel)
set_option maxRecDepth 20000 in
theorem gX2_init_X1_init : GoodIn wsX2_init (wsX1_init) := ggX2_init_X1_init
set_option maxRecDepth 20000 in
theorem ggX2_init_X4_init : GoodIn wsX2_init wsX4_init := goodIn_r _ [40, 41, 2, 3, 4, 42, 43, 44, 45, 46, 47, 48, 64, 65, 66, 67, 68, 69, 70] (by decide +kernel) (by decide +kernel)
set_option maxRecDepth 20000 in
theorem gX2_init_X4_init : GoodIn wsX2_init (wsX4_init) := ggX2_init_X4_init
theorem dX2_init_0 : decode cX2_init 0 = .ok (.aload_n 0, 1) := by decide +kernel
theorem dX2_init_1 : decode cX2_init 1 = .ok (.invokespecial 3, 3) := by decide +kernel
theorem dX2_init_4 : decode cX2_init 4 = .ok (.aload_n 0, 1) := by decide +kernel
theorem dX2_init_5 : decode cX2_init 5 = .ok (.bipush 9, 2) := by decide +kernel
theorem dX2_init_7 : decode cX2_init 7 = .ok (.newarray .int, 2) := by decide +kernel
theorem dX2_init_9 : decode cX2_init 9 = .ok (.putfield 9, 3) := by decide +kernel
theorem dX2_init_12 : decode cX2_init 12 = .ok (.aload_n 0, 1) := by decide +kernel
theorem dX2_init_13 : decode cX2_init 13 = .ok (.getfield 9, 3) := by decide +kernel
theorem dX2_init_16 : decode cX2_init 16 = .ok (.iconst 5, 1) := by decide +kernel
theorem dX2_init_17 : decode cX2_init 17 = .ok (.invokestatic 15, 3) := by decide +kernel
theorem dX2_init_20 : decode cX2_init 20 = .ok (.aload_n 0, 1) := by decide +kernel
theorem dX2_init_21 : decode cX2_init 21 = .ok (.new 21, 3) := by decide +kernel
theorem dX2_init_24 : decode cX2_init 24 = .ok (.dup, 1) := by decide +kernel
theorem dX2_init_25 : decode cX2_init 25 = .ok (.invokespecial 23, 3) := by decide +kernel
theorem dX2_init_28 : decode cX2_init 28 = .ok (.putfield 24, 3) := by decide +kernel
theorem dX2_init_31 : decode cX2_init 31 = .ok (.aload_n 0, 1) := by decide +kernel
theorem dX2_init_32 : decode cX2_init 32 = .ok (.new 28, 3) := by decide +kernel
theorem dX2_init_35 : decode cX2_init 35 = .ok (.dup, 1) := by decide +kernel
theorem dX2_init_36 : decode cX2_init 36 = .ok (.invokespecial 30, 3) := by decide +kernel
theorem dX2_init_39 : decode cX2_init 39 = .ok (.putfield 31, 3) := by decide +kernel
theorem dX2_init_42 : decode cX2_init 42 = .ok (.aload_n 0, 1) := by decide +kernel
theorem dX2_init_43 : decode cX2_init 43 = .ok (.new 35, 3) := by decide +kernel
theorem dX2_init_46 : decode cX2_init 46 = .ok (.dup, 1) := by decide +kernel
theorem dX2_init_47 : decode cX2_init 47 = .ok (.invokespecial 37, 3) := by decide +kernel
theorem dX2_init_50 : decode cX2_init 50 = .ok (.putfield 38, 3) := by decide +kernel
theorem dX2_init_53 : decode cX2_init 53 = .ok (.return_, 1) := by decide +kernel
set_option maxRecDepth 20000 in
theorem ggX2_copyFrom_X0_copyFrom : GoodIn wsX2_copyFrom wsX0_copyFrom := goodIn_r _ [10, 11, 12, 13, 14, 15, 43, 44, 45, 46, 47] (by decide +kernel) (by decide +kernel)
set_option maxRecDepth 20000 in
theorem gX2_copyFrom_X0_copyFrom : GoodIn wsX2_copyFrom (wsV RX2 46 RX0 yX0_copyFrom wsX0_copyFrom) := goodIn_app (goodIn_of _ (by decide +kernel)) ggX2_copyFrom_X0_copyFrom
set_option maxRecDepth 20000 in
theorem ggX2_copyFrom_X1_copyFrom : GoodIn wsX2_copyFrom wsX1_copyFrom := goodIn_r _ [20, 21, 22, 23, 24, 25, 48, 49, 50, 51, 52] (by decide +kernel) (by decide +kernel)
set_option maxRecDepth 20000 in
theorem gX2_copyFrom_X1_copyFrom : GoodIn wsX2_copyFrom (wsV RX2 50 RX1 yX1_copyFrom wsX1_copyFrom) := goodIn_app (goodIn_of _ (by decide +kernel)) ggX2_copyFrom_X1_copyFrom
set_option maxRecDepth 20000 in
theorem ggX2_copyFrom_X4_copyFrom : GoodIn wsX2_copyFrom wsX4_copyFrom := goodIn_r _ [30, 31, 32, 33, 34, 35, 36, 37, 53, 54, 55, 56, 57, 58, 59] (by decide +kernel) (by decide +kernel)
set_option maxRecDepth 20000 in
theorem gX2_copyFrom_X4_copyFrom : GoodIn wsX2_copyFrom (wsV RX2 53 RX4 yX4_copyFrom wsX4_copyFrom) := goodIn_app (goodIn_of _ (by decide +kernel)) ggX2_copyFrom_X4_copyFrom
theorem dX2_copyFrom_0 : decode cX2_copyFrom 0 = .ok (.aload_n 0, 1) := by decide +kernel
theorem dX2_copyFrom_1 : decode cX2_copyFrom 1 = .ok (.aload_n 1, 1) := by decide +kernel
theorem dX2_copyFrom_2 : decode cX2_copyFrom 2 = .ok (.getfield 42, 3) := by decide +kernel
theorem dX2_copyFrom_5 : decode cX2_copyFrom 5 = .ok (.putfield 42, 3) := by decide +kernel
theorem dX2_copyFrom_8 : decode cX2_copyFrom 8 = .ok (.iconst 0, 1) := by decide +kernel
theorem dX2_copyFrom_9 : decode cX2_copyFrom 9 = .ok (.istore_n 2, 1) := by decide +kernel
theorem dX2_copyFrom_10 : decode cX2_copyFrom 10 = .ok (.iload_n 2, 1) := by decide +kernel
theorem dX2_copyFrom_11 : decode cX2_copyFrom 11 = .ok (.bipush 9, 2) := by decide +kernel
theorem dX2_copyFrom_13 : decode cX2_copyFrom 13 = .ok (.if_icmp .ge 21, 3) := by decide +kernel
theorem dX2_copyFrom_16 : decode cX2_copyFrom 16 = .ok (.aload_n 0, 1) := by decide +kernel
theorem dX2_copyFrom_17 : decode cX2_copyFrom 17 = .ok (.getfield 9, 3) := by decide +kernel
theorem dX2_copyFrom_20 : decode cX2_copyFrom 20 = .ok (.iload_n 2, 1) := by decide +kernel
theorem dX2_copyFrom_21 : decode cX2_copyFrom 21 = .ok (.aload_n 1, 1) := by decide +kernel
theorem dX2_copyFrom_22 : decode cX2_copyFrom 22 = .ok (.getfield 9, 3) := by decide +kernel
theorem dX2_copyFrom_25 : decode cX2_copyFrom 25 = .ok (.iload_n 2, 1) := by decide +kernel
theorem dX2_copyFrom_26 : decode cX2_copyFrom 26 = .ok (.iaload, 1) := by decide +kernel
theorem dX2_copyFrom_27 : decode cX2_copyFrom 27 = .ok (.iastore, 1) := by decide +kernel
theorem dX2_copyFrom_28 : decode cX2_copyFrom 28 = .ok (.iinc 2 1, 3) := by decide +kernel
theorem dX2_copyFrom_31 : decode cX2_copyFrom 31 = .ok (.goto (-21), 3) := by decide +kernel
theorem dX2_copyFrom_34 : decode cX2_copyFrom 34 = .ok (.aload_n 0, 1) := by decide +kernel
theorem dX2_copyFrom_35 : decode cX2_copyFrom 35 = .ok (.getfield 24, 3) := by decide +kernel
theorem dX2_copyFrom_38 : decode cX2_copyFrom 38 = .ok (.aload_n 1, 1) := by decide +kernel
theorem dX2_copyFrom_39 : decode cX2_copyFrom 39 = .ok (.getfield 24, 3) := by decide +kernel
theorem dX2_copyFrom_42 : decode cX2_copyFrom 42 = .ok (.invokevirtual 46, 3) := by decide +kernel
theorem dX2_copyFrom_45 : decode cX2_copyFrom 45 = .ok (.aload_n 0, 1) := by decide +kernel
theorem dX2_copyFrom_46 : decode cX2_copyFrom 46 = .ok (.getfield 31, 3) := by decide +kernel
theorem dX2_copyFrom_49 : decode cX2_copyFrom 49 = .ok (.aload_n 1, 1) := by decide +kernel
theorem dX2_copyFrom_50 : decode cX2_copyFrom 50 = .ok (.getfield 31, 3) := by decide +kernel
theorem dX2_copyFrom_53 : decode cX2_copyFrom 53 = .ok (.invokevirtual 50, 3) := by decide +kernel
theorem dX2_copyFrom_56 : decode cX2_copyFrom 56 = .ok (.aload_n 0, 1) := by decide +kernel
theorem dX2_copyFrom_57 : decode cX2_copyFrom 57 = .ok (.getfield 38, 3) := by decide +kernel
theorem dX2_copyFrom_60 : decode cX2_copyFrom 60 = .ok (.aload_n 1, 1) := by decide +kernel
theorem dX2_copyFrom_61 : decode cX2_copyFrom 61 = .ok (.getfield 38, 3) := by decide +kernel
theorem dX2_copyFrom_64 : decode cX2_copyFrom 64 = .ok (.invokevirtual 53, 3) := by decide +kernel
theorem dX2_copyFrom_67 : decode cX2_copyFrom 67 = .ok (.return_, 1) := by decide +kernel
set_option maxRecDepth 20000 in
theorem ggX2_water_J9_floorMod_7cf53 : GoodIn wsX2_water wsJ9_floorMod_7cf53 := goodIn_r _ [6] (by decide +kernel) (by decide +kernel)
set_option maxRecDepth 20000 in
theorem gX2_water_J9_floorMod_7cf53 : GoodIn wsX2_water (va_wsS RX2 56 yJ9_floorMod_7cf53 wsJ9_floorMod_7cf53) := goodIn_app (goodIn_of _ (by decide +kernel)) ggX2_water_J9_floorMod_7cf53
theorem dX2_water_0 : decode cX2_water 0 = .ok (.aload_n 0, 1) := by decide +kernel
theorem dX2_water_1 : decode cX2_water 1 = .ok (.getfield 9, 3) := by decide +kernel
theorem dX2_water_4 : decode cX2_water 4 = .ok (.aload_n 0, 1) := by decide +kernel
theorem dX2_water_5 : decode cX2_water 5 = .ok (.getfield 42, 3) := by decide +kernel
theorem dX2_water_8 : decode cX2_water 8 = .ok (.bipush 9, 2) := by decide +kernel
theorem dX2_water_10 : decode cX2_water 10 = .ok (.invokestatic 56, 3) := by decide +kernel
theorem dX2_water_13 : decode cX2_water 13 = .ok (.iaload, 1) := by decide +kernel
theorem dX2_water_14 : decode cX2_water 14 = .ok (.ireturn, 1) := by decide +kernel
set_option maxRecDepth 20000 in
theorem ggX2_millRuns_X2_water : GoodIn wsX2_millRuns wsX2_water := goodIn_r _ [5, 6, 7, 8, 9, 10, 11, 12, 13, 14, 15, 16] (by decide +kernel) (by decide +kernel)
set_option maxRecDepth 20000 in
theorem gX2_millRuns_X2_water : GoodIn wsX2_millRuns (wsV RX2 62 RX2 yX2_water wsX2_water) := goodIn_app (goodIn_of _ (by decide +kernel)) ggX2_millRuns_X2_water
theorem dX2_millRuns_0 : decode cX2_millRuns 0 = .ok (.aload_n 0, 1) := by decide +kernel
theorem dX2_millRuns_1 : decode cX2_millRuns 1 = .ok (.invokevirtual 62, 3) := by decide +kernel
theorem dX2_millRuns_4 : decode cX2_millRuns 4 = .ok (.iconst 3, 1) := by decide +kernel
theorem dX2_millRuns_5 : decode cX2_millRuns 5 = .ok (.if_icmp .lt 7, 3) := by decide +kernel
theorem dX2_millRuns_8 : decode cX2_millRuns 8 = .ok (.iconst 1, 1) := by decide +kernel
theorem dX2_millRuns_9 : decode cX2_millRuns 9 = .ok (.goto 4, 3) := by decide +kernel
theorem dX2_millRuns_12 : decode cX2_millRuns 12 = .ok (.iconst 0, 1) := by decide +kernel
theorem dX2_millRuns_13 : decode cX2_millRuns 13 = .ok (.ireturn, 1) := by decide +kernel
set_option maxRecDepth 20000 in
theorem ggX2_goOn_X2_goOnOneDay : GoodIn wsX2_goOn wsX2_goOnOneDay := goodIn_r _ [5, 6, 7, 8, 9, 10, 11, 12, 4, 13, 14, 15, 16, 17, 18, 19, 20, 21, 22, 23, 24, 25, 26, 27, 28, 29, 30, 31, 32, 33, 34, 35, 36, 37, 38, 39, 40, 41, 42, 43, 44, 45, 46, 47, 48, 49, 50, 51, 52, 53, 54, 55, 56, 57, 58, 59, 60, 61, 62, 63, 64, 65, 66, 67, 68, 69, 70, 71, 72, 73, 74, 75, 76, 77, 78, 79, 80, 81, 82, 83, 84, 85, 86, 87, 88, 89, 90, 91, 92, 93, 94, 95, 96, 97, 98, 99, 100, 101, 102, 103, 104, 105, 106, 107, 108, 109, 110, 111, 112, 113, 114, 115, 116, 117, 118, 119] (by decide +kernel) (by decide +kernel)
set_option maxRecDepth 20000 in
theorem gX2_goOn_X2_goOnOneDay : GoodIn wsX2_goOn (wsV RX2 66 RX2 yX2_goOnOneDay wsX2_goOnOneDay) := goodIn_app (goodIn_of _ (by decide +kernel)) ggX2_goOn_X2_goOnOneDay
theorem dX2_goOn_0 : decode cX2_goOn 0 = .ok (.iconst 0, 1) := by decide +kernel
theorem dX2_goOn_1 : decode cX2_goOn 1 = .ok (.istore_n 2, 1) := by decide +kernel
theorem dX2_goOn_2 : decode cX2_goOn 2 = .ok (.iload_n 2, 1) := by decide +kernel
theorem dX2_goOn_3 : decode cX2_goOn 3 = .ok (.iload_n 1, 1) := by decide +kernel
theorem dX2_goOn_4 : decode cX2_goOn 4 = .ok (.if_icmp .ge 13, 3) := by decide +kernel
theorem dX2_goOn_7 : decode cX2_goOn 7 = .ok (.aload_n 0, 1) := by decide +kernel
theorem dX2_goOn_8 : decode cX2_goOn 8 = .ok (.invokevirtual 66, 3) := by decide +kernel
theorem dX2_goOn_11 : decode cX2_goOn 11 = .ok (.iinc 2 1, 3) := by decide +kernel
theorem dX2_goOn_14 : decode cX2_goOn 14 = .ok (.goto (-12), 3) := by decide +kernel
theorem dX2_goOn_17 : decode cX2_goOn 17 = .ok (.return_, 1) := by decide +kernel
set_option maxRecDepth 20000 in
theorem ggX2_goOnOneDay_X2_work : GoodIn wsX2_goOnOneDay wsX2_work := goodIn_r _ [9, 1, 10, 11, 12, 3, 13, 14, 15, 16, 17, 18, 19, 20, 21, 22, 23, 24, 25, 26, 27, 28, 29, 30, 31, 32, 33, 34, 35, 36, 37, 38, 39, 40, 41, 42, 43, 44, 45, 8, 46, 4, 47, 48, 49, 50, 51, 52, 53, 54, 55, 56, 57, 58, 59, 60, 61, 62, 63, 64, 65, 66, 67, 68, 94, 95, 96, 97, 98, 99, 100, 101, 102, 103, 104, 105, 106, 107, 108, 109, 110, 111, 112, 113, 114, 115] (by decide +kernel) (by decide +kernel)
set_option maxRecDepth 20000 in
theorem gX2_goOnOneDay_X2_work : GoodIn wsX2_goOnOneDay (wsV RX2 72 RX2 yX2_work wsX2_work) := goodIn_app (goodIn_of _ (by decide +kernel)) ggX2_goOnOneDay_X2_work
set_option maxRecDepth 20000 in
theorem ggX2_goOnOneDay_X1_loseDust : GoodIn wsX2_goOnOneDay wsX1_loseDust := goodIn_r _ [72, 73, 74, 27, 75, 55, 41, 56, 76, 23, 24, 25, 26, 99, 100, 101, 102, 103] (by decide +kernel) (by decide +kernel)
set_option maxRecDepth 20000 in
theorem gX2_goOnOneDay_X1_loseDust : GoodIn wsX2_goOnOneDay (wsV RX2 76 RX1 yX1_loseDust wsX1_loseDust) := goodIn_app (goodIn_of _ (by decide +kernel)) ggX2_goOnOneDay_X1_loseDust
set_option maxRecDepth 20000 in
theorem ggX2_goOnOneDay_X2_millRuns : GoodIn wsX2_goOnOneDay wsX2_millRuns := goodIn_r _ [80, 81, 82, 83, 8, 84, 85, 4, 86, 87, 88, 89, 94, 95, 96, 97, 98] (by decide +kernel) (by decide +kernel)
set_option maxRecDepth 20000 in
theorem gX2_goOnOneDay_X2_millRuns : GoodIn wsX2_goOnOneDay (wsV RX2 79 RX2 yX2_millRuns wsX2_millRuns) := goodIn_app (goodIn_of _ (by decide +kernel)) ggX2_goOnOneDay_X2_millRuns
set_option maxRecDepth 20000 in
theorem ggX2_goOnOneDay_X2_water : GoodIn wsX2_goOnOneDay wsX2_water := goodIn_r _ [84, 85, 4, 86, 87, 88, 89, 94, 95, 96, 97, 98] (by decide +kernel) (by decide +kernel)
set_option maxRecDepth 20000 in
theorem gX2_goOnOneDay_X2_water : GoodIn wsX2_goOnOneDay (wsV RX2 62 RX2 yX2_water wsX2_water) := goodIn_app (goodIn_of _ (by decide +kernel)) ggX2_goOnOneDay_X2_water
set_option maxRecDepth 20000 in
theorem ggX2_goOnOneDay_X4_dress : GoodIn wsX2_goOnOneDay wsX4_dress := goodIn_r _ [93, 62, 67, 104, 105, 106, 107, 108, 109, 110] (by decide +kernel) (by decide +kernel)
set_option maxRecDepth 20000 in
theorem gX2_goOnOneDay_X4_dress : GoodIn wsX2_goOnOneDay (wsV RX2 83 RX4 yX4_dress wsX4_dress) := goodIn_app (goodIn_of _ (by decide +kernel)) ggX2_goOnOneDay_X4_dress
theorem dX2_goOnOneDay_0 : decode cX2_goOnOneDay 0 = .ok (.iconst 0, 1) := by decide +kernel
theorem dX2_goOnOneDay_1 : decode cX2_goOnOneDay 1 = .ok (.istore_n 1, 1) := by decide +kernel
theorem dX2_goOnOneDay_2 : decode cX2_goOnOneDay 2 = .ok (.iload_n 1, 1) := by decide +kernel
theorem dX2_goOnOneDay_3 : decode cX2_goOnOneDay 3 = .ok (.aload_n 0, 1) := by decide +kernel
theorem dX2_goOnOneDay_4 : decode cX2_goOnOneDay 4 = .ok (.getfield 31, 3) := by decide +kernel
theorem dX2_goOnOneDay_7 : decode cX2_goOnOneDay 7 = .ok (.getfield 69, 3) := by decide +kernel
theorem dX2_goOnOneDay_10 : decode cX2_goOnOneDay 10 = .ok (.if_icmp .ge 14, 3) := by decide +kernel
theorem dX2_goOnOneDay_13 : decode cX2_goOnOneDay 13 = .ok (.aload_n 0, 1) := by decide +kernel
theorem dX2_goOnOneDay_14 : decode cX2_goOnOneDay 14 = .ok (.iload_n 1, 1) := by decide +kernel
theorem dX2_goOnOneDay_15 : decode cX2_goOnOneDay 15 = .ok (.invokevirtual 72, 3) := by decide +kernel
theorem dX2_goOnOneDay_18 : decode cX2_goOnOneDay 18 = .ok (.iinc 1 1, 3) := by decide +kernel
theorem dX2_goOnOneDay_21 : decode cX2_goOnOneDay 21 = .ok (.goto (-19), 3) := by decide +kernel
theorem dX2_goOnOneDay_24 : decode cX2_goOnOneDay 24 = .ok (.aload_n 0, 1) := by decide +kernel
theorem dX2_goOnOneDay_25 : decode cX2_goOnOneDay 25 = .ok (.getfield 31, 3) := by decide +kernel
theorem dX2_goOnOneDay_28 : decode cX2_goOnOneDay 28 = .ok (.invokevirtual 76, 3) := by decide +kernel
theorem dX2_goOnOneDay_31 : decode cX2_goOnOneDay 31 = .ok (.aload_n 0, 1) := by decide +kernel
theorem dX2_goOnOneDay_32 : decode cX2_goOnOneDay 32 = .ok (.invokevirtual 79, 3) := by decide +kernel
theorem dX2_goOnOneDay_35 : decode cX2_goOnOneDay 35 = .ok (.ifCond .eq 16, 3) := by decide +kernel
theorem dX2_goOnOneDay_38 : decode cX2_goOnOneDay 38 = .ok (.aload_n 0, 1) := by decide +kernel
theorem dX2_goOnOneDay_39 : decode cX2_goOnOneDay 39 = .ok (.getfield 38, 3) := by decide +kernel
theorem dX2_goOnOneDay_42 : decode cX2_goOnOneDay 42 = .ok (.aload_n 0, 1) := by decide +kernel
theorem dX2_goOnOneDay_43 : decode cX2_goOnOneDay 43 = .ok (.invokevirtual 62, 3) := by decide +kernel
theorem dX2_goOnOneDay_46 : decode cX2_goOnOneDay 46 = .ok (.iconst 2, 1) := by decide +kernel
theorem dX2_goOnOneDay_47 : decode cX2_goOnOneDay 47 = .ok (.idiv, 1) := by decide +kernel
theorem dX2_goOnOneDay_48 : decode cX2_goOnOneDay 48 = .ok (.invokevirtual 83, 3) := by decide +kernel
theorem dX2_goOnOneDay_51 : decode cX2_goOnOneDay 51 = .ok (.aload_n 0, 1) := by decide +kernel
theorem dX2_goOnOneDay_52 : decode cX2_goOnOneDay 52 = .ok (.dup, 1) := by decide +kernel
theorem dX2_goOnOneDay_53 : decode cX2_goOnOneDay 53 = .ok (.getfield 42, 3) := by decide +kernel
theorem dX2_goOnOneDay_56 : decode cX2_goOnOneDay 56 = .ok (.iconst 1, 1) := by decide +kernel
theorem dX2_goOnOneDay_57 : decode cX2_goOnOneDay 57 = .ok (.iadd, 1) := by decide +kernel
theorem dX2_goOnOneDay_58 : decode cX2_goOnOneDay 58 = .ok (.putfield 42, 3) := by decide +kernel
theorem dX2_goOnOneDay_61 : decode cX2_goOnOneDay 61 = .ok (.return_, 1) := by decide +kernel
set_option maxRecDepth 20000 in
theorem ggX2_work_X0_has : GoodIn wsX2_work wsX0_has := goodIn_r _ [13, 14, 81, 82, 83, 84, 85] (by decide +kernel) (by decide +kernel)
set_option maxRecDepth 20000 in
theorem gX2_work_X0_has : GoodIn wsX2_work (wsV RX2 89 RX0 yX0_has wsX0_has) := goodIn_app (goodIn_of _ (by decide +kernel)) ggX2_work_X0_has
set_option maxRecDepth 20000 in
theorem ggX2_work_X1_isTired : GoodIn wsX2_work wsX1_isTired := goodIn_r _ [19, 20, 69, 70, 71, 72, 73] (by decide +kernel) (by decide +kernel)
set_option maxRecDepth 20000 in
theorem gX2_work_X1_isTired : GoodIn wsX2_work (wsV RX2 93 RX1 yX1_isTired wsX1_isTired) := goodIn_app (goodIn_of _ (by decide +kernel)) ggX2_work_X1_isTired
set_option maxRecDepth 20000 in
theorem ggX2_work_X0_dustOfADay : GoodIn wsX2_work wsX0_dustOfADay := goodIn_r _ [24, 25, 81, 82, 83, 84, 85] (by decide +kernel) (by decide +kernel)
set_option maxRecDepth 20000 in
theorem gX2_work_X0_dustOfADay : GoodIn wsX2_work (wsV RX2 96 RX0 yX0_dustOfADay wsX0_dustOfADay) := goodIn_app (goodIn_of _ (by decide +kernel)) ggX2_work_X0_dustOfADay
set_option maxRecDepth 20000 in
theorem ggX2_work_X1_toil : GoodIn wsX2_work wsX1_toil := goodIn_r _ [29, 30, 31, 20, 32, 33, 34, 35, 69, 70, 71, 72, 73] (by decide +kernel) (by decide +kernel)
set_option maxRecDepth 20000 in
theorem gX2_work_X1_toil : GoodIn wsX2_work (wsV RX2 100 RX1 yX1_toil wsX1_toil) := goodIn_app (goodIn_of _ (by decide +kernel)) ggX2_work_X1_toil
set_option maxRecDepth 20000 in
theorem ggX2_work_X2_sizeToday : GoodIn wsX2_work wsX2_sizeToday := goodIn_r _ [40, 41, 64, 65, 66, 67, 68] (by decide +kernel) (by decide +kernel)
set_option maxRecDepth 20000 in
theorem gX2_work_X2_sizeToday : GoodIn wsX2_work (wsV RX2 107 RX2 yX2_sizeToday wsX2_sizeToday) := goodIn_app (goodIn_of _ (by decide +kernel)) ggX2_work_X2_sizeToday
set_option maxRecDepth 20000 in
theorem ggX2_work_X2_cutWheel : GoodIn wsX2_work wsX2_cutWheel := goodIn_r _ [45, 3, 46, 47, 5, 48, 8, 49, 50, 34, 51, 52, 53, 54, 55, 56, 57, 58, 59, 60, 61, 62, 63, 64, 65, 66, 67, 68, 81, 82, 83, 84, 85, 74, 75, 76, 77, 78, 79, 80] (by decide +kernel) (by decide +kernel)
set_option maxRecDepth 20000 in
theorem gX2_work_X2_cutWheel : GoodIn wsX2_work (wsV RX2 116 RX2 yX2_cutWheel wsX2_cutWheel) := goodIn_app (goodIn_of _ (by decide +kernel)) ggX2_work_X2_cutWheel
theorem dX2_work_0 : decode cX2_work 0 = .ok (.aload_n 0, 1) := by decide +kernel
theorem dX2_work_1 : decode cX2_work 1 = .ok (.getfield 31, 3) := by decide +kernel
theorem dX2_work_4 : decode cX2_work 4 = .ok (.getfield 86, 3) := by decide +kernel
theorem dX2_work_7 : decode cX2_work 7 = .ok (.iload_n 1, 1) := by decide +kernel
theorem dX2_work_8 : decode cX2_work 8 = .ok (.iaload, 1) := by decide +kernel
theorem dX2_work_9 : decode cX2_work 9 = .ok (.istore_n 2, 1) := by decide +kernel
theorem dX2_work_10 : decode cX2_work 10 = .ok (.aload_n 0, 1) := by decide +kernel
theorem dX2_work_11 : decode cX2_work 11 = .ok (.getfield 24, 3) := by decide +kernel
theorem dX2_work_14 : decode cX2_work 14 = .ok (.iload_n 2, 1) := by decide +kernel
theorem dX2_work_15 : decode cX2_work 15 = .ok (.invokevirtual 89, 3) := by decide +kernel
theorem dX2_work_18 : decode cX2_work 18 = .ok (.ifCond .eq 14, 3) := by decide +kernel
theorem dX2_work_21 : decode cX2_work 21 = .ok (.aload_n 0, 1) := by decide +kernel
theorem dX2_work_22 : decode cX2_work 22 = .ok (.getfield 31, 3) := by decide +kernel
theorem dX2_work_25 : decode cX2_work 25 = .ok (.iload_n 1, 1) := by decide +kernel
theorem dX2_work_26 : decode cX2_work 26 = .ok (.invokevirtual 93, 3) := by decide +kernel
theorem dX2_work_29 : decode cX2_work 29 = .ok (.ifCond .eq 4, 3) := by decide +kernel
theorem dX2_work_32 : decode cX2_work 32 = .ok (.return_, 1) := by decide +kernel
theorem dX2_work_33 : decode cX2_work 33 = .ok (.aload_n 0, 1) := by decide +kernel
theorem dX2_work_34 : decode cX2_work 34 = .ok (.getfield 31, 3) := by decide +kernel
theorem dX2_work_37 : decode cX2_work 37 = .ok (.iload_n 1, 1) := by decide +kernel
theorem dX2_work_38 : decode cX2_work 38 = .ok (.aload_n 0, 1) := by decide +kernel
theorem dX2_work_39 : decode cX2_work 39 = .ok (.getfield 24, 3) := by decide +kernel
theorem dX2_work_42 : decode cX2_work 42 = .ok (.iload_n 2, 1) := by decide +kernel
theorem dX2_work_43 : decode cX2_work 43 = .ok (.invokevirtual 96, 3) := by decide +kernel
theorem dX2_work_46 : decode cX2_work 46 = .ok (.invokevirtual 100, 3) := by decide +kernel
theorem dX2_work_49 : decode cX2_work 49 = .ok (.aload_n 0, 1) := by decide +kernel
theorem dX2_work_50 : decode cX2_work 50 = .ok (.aload_n 0, 1) := by decide +kernel
theorem dX2_work_51 : decode cX2_work 51 = .ok (.getfield 31, 3) := by decide +kernel
theorem dX2_work_54 : decode cX2_work 54 = .ok (.getfield 104, 3) := by decide +kernel
theorem dX2_work_57 : decode cX2_work 57 = .ok (.iload_n 1, 1) := by decide +kernel
theorem dX2_work_58 : decode cX2_work 58 = .ok (.iaload, 1) := by decide +kernel
theorem dX2_work_59 : decode cX2_work 59 = .ok (.invokevirtual 107, 3) := by decide +kernel
theorem dX2_work_62 : decode cX2_work 62 = .ok (.istore_n 3, 1) := by decide +kernel
theorem dX2_work_63 : decode cX2_work 63 = .ok (.bipush 60, 2) := by decide +kernel
theorem dX2_work_65 : decode cX2_work 65 = .ok (.aload_n 0, 1) := by decide +kernel
theorem dX2_work_66 : decode cX2_work 66 = .ok (.getfield 38, 3) := by decide +kernel
theorem dX2_work_69 : decode cX2_work 69 = .ok (.getfield 110, 3) := by decide +kernel
theorem dX2_work_72 : decode cX2_work 72 = .ok (.isub, 1) := by decide +kernel
theorem dX2_work_73 : decode cX2_work 73 = .ok (.istore 4, 2) := by decide +kernel
theorem dX2_work_75 : decode cX2_work 75 = .ok (.iload 4, 2) := by decide +kernel
theorem dX2_work_77 : decode cX2_work 77 = .ok (.ifCond .le 56, 3) := by decide +kernel
theorem dX2_work_80 : decode cX2_work 80 = .ok (.aload_n 0, 1) := by decide +kernel
theorem dX2_work_81 : decode cX2_work 81 = .ok (.getfield 31, 3) := by decide +kernel
theorem dX2_work_84 : decode cX2_work 84 = .ok (.getfield 111, 3) := by decide +kernel
theorem dX2_work_87 : decode cX2_work 87 = .ok (.iload_n 1, 1) := by decide +kernel
theorem dX2_work_88 : decode cX2_work 88 = .ok (.iaload, 1) := by decide +kernel
theorem dX2_work_89 : decode cX2_work 89 = .ok (.bipush 10, 2) := by decide +kernel
theorem dX2_work_91 : decode cX2_work 91 = .ok (.if_icmp .lt 15, 3) := by decide +kernel
theorem dX2_work_94 : decode cX2_work 94 = .ok (.aload_n 0, 1) := by decide +kernel
theorem dX2_work_95 : decode cX2_work 95 = .ok (.getfield 24, 3) := by decide +kernel
theorem dX2_work_98 : decode cX2_work 98 = .ok (.getfield 113, 3) := by decide +kernel
theorem dX2_work_101 : decode cX2_work 101 = .ok (.iload_n 2, 1) := by decide +kernel
theorem dX2_work_102 : decode cX2_work 102 = .ok (.iaload, 1) := by decide +kernel
theorem dX2_work_103 : decode cX2_work 103 = .ok (.ifCond .gt 4, 3) := by decide +kernel
theorem dX2_work_106 : decode cX2_work 106 = .ok (.return_, 1) := by decide +kernel
theorem dX2_work_107 : decode cX2_work 107 = .ok (.aload_n 0, 1) := by decide +kernel
theorem dX2_work_108 : decode cX2_work 108 = .ok (.getfield 31, 3) := by decide +kernel
theorem dX2_work_111 : decode cX2_work 111 = .ok (.getfield 111, 3) := by decide +kernel
theorem dX2_work_114 : decode cX2_work 114 = .ok (.iload_n 1, 1) := by decide +kernel
theorem dX2_work_115 : decode cX2_work 115 = .ok (.dup2, 1) := by decide +kernel
theorem dX2_work_116 : decode cX2_work 116 = .ok (.iaload, 1) := by decide +kernel
theorem dX2_work_117 : decode cX2_work 117 = .ok (.bipush 10, 2) := by decide +kernel
theorem dX2_work_119 : decode cX2_work 119 = .ok (.isub, 1) := by decide +kernel
theorem dX2_work_120 : decode cX2_work 120 = .ok (.iastore, 1) := by decide +kernel
theorem dX2_work_121 : decode cX2_work 121 = .ok (.aload_n 0, 1) := by decide +kernel
theorem dX2_work_122 : decode cX2_work 122 = .ok (.iload_n 2, 1) := by decide +kernel
theorem dX2_work_123 : decode cX2_work 123 = .ok (.iload_n 3, 1) := by decide +kernel
theorem dX2_work_124 : decode cX2_work 124 = .ok (.invokevirtual 116, 3) := by decide +kernel
theorem dX2_work_127 : decode cX2_work 127 = .ok (.iinc 4 (-1), 3) := by decide +kernel
theorem dX2_work_130 : decode cX2_work 130 = .ok (.goto (-55), 3) := by decide +kernel
theorem dX2_work_133 : decode cX2_work 133 = .ok (.return_, 1) := by decide +kernel
theorem dX2_sizeToday_0 : decode cX2_sizeToday 0 = .ok (.iconst 1, 1) := by decide +kernel
theorem dX2_sizeToday_1 : decode cX2_sizeToday 1 = .ok (.iload_n 1, 1) := by decide +kernel
theorem dX2_sizeToday_2 : decode cX2_sizeToday 2 = .ok (.iconst 2, 1) := by decide +kernel
theorem dX2_sizeToday_3 : decode cX2_sizeToday 3 = .ok (.idiv, 1) := by decide +kernel
theorem dX2_sizeToday_4 : decode cX2_sizeToday 4 = .ok (.iadd, 1) := by decide +kernel
theorem dX2_sizeToday_5 : decode cX2_sizeToday 5 = .ok (.aload_n 0, 1) := by decide +kernel
theorem dX2_sizeToday_6 : decode cX2_sizeToday 6 = .ok (.getfield 42, 3) := by decide +kernel
theorem dX2_sizeToday_9 : decode cX2_sizeToday 9 = .ok (.iconst 3, 1) := by decide +kernel
theorem dX2_sizeToday_10 : decode cX2_sizeToday 10 = .ok (.irem, 1) := by decide +kernel
theorem dX2_sizeToday_11 : decode cX2_sizeToday 11 = .ok (.ifCond .ne 7, 3) := by decide +kernel
theorem dX2_sizeToday_14 : decode cX2_sizeToday 14 = .ok (.iconst 1, 1) := by decide +kernel
theorem dX2_sizeToday_15 : decode cX2_sizeToday 15 = .ok (.goto 4, 3) := by decide +kernel
theorem dX2_sizeToday_18 : decode cX2_sizeToday 18 = .ok (.iconst 0, 1) := by decide +kernel
theorem dX2_sizeToday_19 : decode cX2_sizeToday 19 = .ok (.iadd, 1) := by decide +kernel
theorem dX2_sizeToday_20 : decode cX2_sizeToday 20 = .ok (.ireturn, 1) := by decide +kernel
set_option maxRecDepth 20000 in
theorem ggX2_cutWheel_X4_add : GoodIn wsX2_cutWheel wsX4_add := goodIn_r _ [15, 16, 17, 18, 19, 20, 21, 22, 33, 34, 35, 36, 37, 38, 39] (by decide +kernel) (by decide +kernel)
set_option maxRecDepth 20000 in
theorem gX2_cutWheel_X4_add : GoodIn wsX2_cutWheel (wsV RX2 128 RX4 yX4_add wsX4_add) := goodIn_app (goodIn_of _ (by decide +kernel)) ggX2_cutWheel_X4_add
theorem dX2_cutWheel_0 : decode cX2_cutWheel 0 = .ok (.bipush 7, 2) := by decide +kernel
theorem dX2_cutWheel_2 : decode cX2_cutWheel 2 = .ok (.aload_n 0, 1) := by decide +kernel
theorem dX2_cutWheel_3 : decode cX2_cutWheel 3 = .ok (.getfield 24, 3) := by decide +kernel
theorem dX2_cutWheel_6 : decode cX2_cutWheel 6 = .ok (.getfield 119, 3) := by decide +kernel
theorem dX2_cutWheel_9 : decode cX2_cutWheel 9 = .ok (.iload_n 1, 1) := by decide +kernel
theorem dX2_cutWheel_10 : decode cX2_cutWheel 10 = .ok (.iaload, 1) := by decide +kernel
theorem dX2_cutWheel_11 : decode cX2_cutWheel 11 = .ok (.imul, 1) := by decide +kernel
theorem dX2_cutWheel_12 : decode cX2_cutWheel 12 = .ok (.iconst 3, 1) := by decide +kernel
theorem dX2_cutWheel_13 : decode cX2_cutWheel 13 = .ok (.iload_n 2, 1) := by decide +kernel
theorem dX2_cutWheel_14 : decode cX2_cutWheel 14 = .ok (.imul, 1) := by decide +kernel
theorem dX2_cutWheel_15 : decode cX2_cutWheel 15 = .ok (.iadd, 1) := by decide +kernel
theorem dX2_cutWheel_16 : decode cX2_cutWheel 16 = .ok (.bipush 10, 2) := by decide +kernel
theorem dX2_cutWheel_18 : decode cX2_cutWheel 18 = .ok (.irem, 1) := by decide +kernel
theorem dX2_cutWheel_19 : decode cX2_cutWheel 19 = .ok (.aload_n 0, 1) := by decide +kernel
theorem dX2_cutWheel_20 : decode cX2_cutWheel 20 = .ok (.getfield 24, 3) := by decide +kernel
theorem dX2_cutWheel_23 : decode cX2_cutWheel 23 = .ok (.getfield 122, 3) := by decide +kernel
theorem dX2_cutWheel_26 : decode cX2_cutWheel 26 = .ok (.iload_n 1, 1) := by decide +kernel
theorem dX2_cutWheel_27 : decode cX2_cutWheel 27 = .ok (.iaload, 1) := by decide +kernel
theorem dX2_cutWheel_28 : decode cX2_cutWheel 28 = .ok (.if_icmp .ge 7, 3) := by decide +kernel
theorem dX2_cutWheel_31 : decode cX2_cutWheel 31 = .ok (.iconst 1, 1) := by decide +kernel
theorem dX2_cutWheel_32 : decode cX2_cutWheel 32 = .ok (.goto 4, 3) := by decide +kernel
theorem dX2_cutWheel_35 : decode cX2_cutWheel 35 = .ok (.iconst 0, 1) := by decide +kernel
theorem dX2_cutWheel_36 : decode cX2_cutWheel 36 = .ok (.istore_n 3, 1) := by decide +kernel
theorem dX2_cutWheel_37 : decode cX2_cutWheel 37 = .ok (.aload_n 0, 1) := by decide +kernel
theorem dX2_cutWheel_38 : decode cX2_cutWheel 38 = .ok (.getfield 38, 3) := by decide +kernel
theorem dX2_cutWheel_41 : decode cX2_cutWheel 41 = .ok (.iload_n 1, 1) := by decide +kernel
theorem dX2_cutWheel_42 : decode cX2_cutWheel 42 = .ok (.aload_n 0, 1) := by decide +kernel
theorem dX2_cutWheel_43 : decode cX2_cutWheel 43 = .ok (.getfield 24, 3) := by decide +kernel
theorem dX2_cutWheel_46 : decode cX2_cutWheel 46 = .ok (.getfield 125, 3) := by decide +kernel
theorem dX2_cutWheel_49 : decode cX2_cutWheel 49 = .ok (.iload_n 1, 1) := by decide +kernel
theorem dX2_cutWheel_50 : decode cX2_cutWheel 50 = .ok (.iaload, 1) := by decide +kernel
theorem dX2_cutWheel_51 : decode cX2_cutWheel 51 = .ok (.iload_n 2, 1) := by decide +kernel
theorem dX2_cutWheel_52 : decode cX2_cutWheel 52 = .ok (.iload_n 3, 1) := by decide +kernel
theorem dX2_cutWheel_53 : decode cX2_cutWheel 53 = .ok (.invokevirtual 128, 3) := by decide +kernel
theorem dX2_cutWheel_56 : decode cX2_cutWheel 56 = .ok (.aload_n 0, 1) := by decide +kernel
theorem dX2_cutWheel_57 : decode cX2_cutWheel 57 = .ok (.getfield 24, 3) := by decide +kernel
theorem dX2_cutWheel_60 : decode cX2_cutWheel 60 = .ok (.getfield 119, 3) := by decide +kernel
theorem dX2_cutWheel_63 : decode cX2_cutWheel 63 = .ok (.iload_n 1, 1) := by decide +kernel
theorem dX2_cutWheel_64 : decode cX2_cutWheel 64 = .ok (.dup2, 1) := by decide +kernel
theorem dX2_cutWheel_65 : decode cX2_cutWheel 65 = .ok (.iaload, 1) := by decide +kernel
theorem dX2_cutWheel_66 : decode cX2_cutWheel 66 = .ok (.iconst 1, 1) := by decide +kernel
theorem dX2_cutWheel_67 : decode cX2_cutWheel 67 = .ok (.iadd, 1) := by decide +kernel
theorem dX2_cutWheel_68 : decode cX2_cutWheel 68 = .ok (.iastore, 1) := by decide +kernel
theorem dX2_cutWheel_69 : decode cX2_cutWheel 69 = .ok (.aload_n 0, 1) := by decide +kernel
theorem dX2_cutWheel_70 : decode cX2_cutWheel 70 = .ok (.getfield 24, 3) := by decide +kernel
theorem dX2_cutWheel_73 : decode cX2_cutWheel 73 = .ok (.getfield 113, 3) := by decide +kernel
theorem dX2_cutWheel_76 : decode cX2_cutWheel 76 = .ok (.iload_n 1, 1) := by decide +kernel
theorem dX2_cutWheel_77 : decode cX2_cutWheel 77 = .ok (.iconst 0, 1) := by decide +kernel
theorem dX2_cutWheel_78 : decode cX2_cutWheel 78 = .ok (.aload_n 0, 1) := by decide +kernel
theorem dX2_cutWheel_79 : decode cX2_cutWheel 79 = .ok (.getfield 24, 3) := by decide +kernel
theorem dX2_cutWheel_82 : decode cX2_cutWheel 82 = .ok (.getfield 113, 3) := by decide +kernel
theorem dX2_cutWheel_85 : decode cX2_cutWheel 85 = .ok (.iload_n 1, 1) := by decide +kernel
theorem dX2_cutWheel_86 : decode cX2_cutWheel 86 = .ok (.iaload, 1) := by decide +kernel
theorem dX2_cutWheel_87 : decode cX2_cutWheel 87 = .ok (.iload_n 2, 1) := by decide +kernel
theorem dX2_cutWheel_88 : decode cX2_cutWheel 88 = .ok (.isub, 1) := by decide +kernel
theorem dX2_cutWheel_89 : decode cX2_cutWheel 89 = .ok (.invokestatic 132, 3) := by decide +kernel
theorem dX2_cutWheel_92 : decode cX2_cutWheel 92 = .ok (.iastore, 1) := by decide +kernel
theorem dX2_cutWheel_93 : decode cX2_cutWheel 93 = .ok (.return_, 1) := by decide +kernel
set_option maxRecDepth 20000 in
theorem ggX2_daysUntilTired_X0_has : GoodIn wsX2_daysUntilTired wsX0_has := goodIn_r _ [9, 10, 26, 27, 28, 29, 30] (by decide +kernel) (by decide +kernel)
set_option maxRecDepth 20000 in
theorem gX2_daysUntilTired_X0_has : GoodIn wsX2_daysUntilTired (wsV RX2 89 RX0 yX0_has wsX0_has) := goodIn_app (goodIn_of _ (by decide +kernel)) ggX2_daysUntilTired_X0_has
set_option maxRecDepth 20000 in
theorem ggX2_daysUntilTired_X0_dustOfADay : GoodIn wsX2_daysUntilTired wsX0_dustOfADay := goodIn_r _ [14, 15, 26, 27, 28, 29, 30] (by decide +kernel) (by decide +kernel)
set_option maxRecDepth 20000 in
theorem gX2_daysUntilTired_X0_dustOfADay : GoodIn wsX2_daysUntilTired (wsV RX2 96 RX0 yX0_dustOfADay wsX0_dustOfADay) := goodIn_app (goodIn_of _ (by decide +kernel)) ggX2_daysUntilTired_X0_dustOfADay
theorem dX2_daysUntilTired_0 : decode cX2_daysUntilTired 0 = .ok (.aload_n 0, 1) := by decide +kernel
theorem dX2_daysUntilTired_1 : decode cX2_daysUntilTired 1 = .ok (.getfield 31, 3) := by decide +kernel
theorem dX2_daysUntilTired_4 : decode cX2_daysUntilTired 4 = .ok (.getfield 86, 3) := by decide +kernel
theorem dX2_daysUntilTired_7 : decode cX2_daysUntilTired 7 = .ok (.iload_n 1, 1) := by decide +kernel
theorem dX2_daysUntilTired_8 : decode cX2_daysUntilTired 8 = .ok (.iaload, 1) := by decide +kernel
theorem dX2_daysUntilTired_9 : decode cX2_daysUntilTired 9 = .ok (.istore_n 2, 1) := by decide +kernel
theorem dX2_daysUntilTired_10 : decode cX2_daysUntilTired 10 = .ok (.aload_n 0, 1) := by decide +kernel
theorem dX2_daysUntilTired_11 : decode cX2_daysUntilTired 11 = .ok (.getfield 24, 3) := by decide +kernel
theorem dX2_daysUntilTired_14 : decode cX2_daysUntilTired 14 = .ok (.iload_n 2, 1) := by decide +kernel
theorem dX2_daysUntilTired_15 : decode cX2_daysUntilTired 15 = .ok (.invokevirtual 89, 3) := by decide +kernel
theorem dX2_daysUntilTired_18 : decode cX2_daysUntilTired 18 = .ok (.ifCond .ne 5, 3) := by decide +kernel
theorem dX2_daysUntilTired_21 : decode cX2_daysUntilTired 21 = .ok (.iconst (-1), 1) := by decide +kernel
theorem dX2_daysUntilTired_22 : decode cX2_daysUntilTired 22 = .ok (.ireturn, 1) := by decide +kernel
theorem dX2_daysUntilTired_23 : decode cX2_daysUntilTired 23 = .ok (.bipush 60, 2) := by decide +kernel
theorem dX2_daysUntilTired_25 : decode cX2_daysUntilTired 25 = .ok (.aload_n 0, 1) := by decide +kernel
theorem dX2_daysUntilTired_26 : decode cX2_daysUntilTired 26 = .ok (.getfield 31, 3) := by decide +kernel
theorem dX2_daysUntilTired_29 : decode cX2_daysUntilTired 29 = .ok (.getfield 135, 3) := by decide +kernel
theorem dX2_daysUntilTired_32 : decode cX2_daysUntilTired 32 = .ok (.iload_n 1, 1) := by decide +kernel
theorem dX2_daysUntilTired_33 : decode cX2_daysUntilTired 33 = .ok (.iaload, 1) := by decide +kernel
theorem dX2_daysUntilTired_34 : decode cX2_daysUntilTired 34 = .ok (.isub, 1) := by decide +kernel
theorem dX2_daysUntilTired_35 : decode cX2_daysUntilTired 35 = .ok (.istore_n 3, 1) := by decide +kernel
theorem dX2_daysUntilTired_36 : decode cX2_daysUntilTired 36 = .ok (.aload_n 0, 1) := by decide +kernel
theorem dX2_daysUntilTired_37 : decode cX2_daysUntilTired 37 = .ok (.getfield 24, 3) := by decide +kernel
theorem dX2_daysUntilTired_40 : decode cX2_daysUntilTired 40 = .ok (.iload_n 2, 1) := by decide +kernel
theorem dX2_daysUntilTired_41 : decode cX2_daysUntilTired 41 = .ok (.invokevirtual 96, 3) := by decide +kernel
theorem dX2_daysUntilTired_44 : decode cX2_daysUntilTired 44 = .ok (.istore 4, 2) := by decide +kernel
theorem dX2_daysUntilTired_46 : decode cX2_daysUntilTired 46 = .ok (.iload_n 3, 1) := by decide +kernel
theorem dX2_daysUntilTired_47 : decode cX2_daysUntilTired 47 = .ok (.ifCond .le 8, 3) := by decide +kernel
theorem dX2_daysUntilTired_50 : decode cX2_daysUntilTired 50 = .ok (.iload 4, 2) := by decide +kernel
theorem dX2_daysUntilTired_52 : decode cX2_daysUntilTired 52 = .ok (.ifCond .gt 5, 3) := by decide +kernel
theorem dX2_daysUntilTired_55 : decode cX2_daysUntilTired 55 = .ok (.iconst 0, 1) := by decide +kernel
theorem dX2_daysUntilTired_56 : decode cX2_daysUntilTired 56 = .ok (.ireturn, 1) := by decide +kernel
theorem dX2_daysUntilTired_57 : decode cX2_daysUntilTired 57 = .ok (.iload_n 3, 1) := by decide +kernel
theorem dX2_daysUntilTired_58 : decode cX2_daysUntilTired 58 = .ok (.iload 4, 2) := by decide +kernel
theorem dX2_daysUntilTired_60 : decode cX2_daysUntilTired 60 = .ok (.iadd, 1) := by decide +kernel
theorem dX2_daysUntilTired_61 : decode cX2_daysUntilTired 61 = .ok (.iconst 1, 1) := by decide +kernel
theorem dX2_daysUntilTired_62 : decode cX2_daysUntilTired 62 = .ok (.isub, 1) := by decide +kernel
theorem dX2_daysUntilTired_63 : decode cX2_daysUntilTired 63 = .ok (.iload 4, 2) := by decide +kernel
theorem dX2_daysUntilTired_65 : decode cX2_daysUntilTired 65 = .ok (.idiv, 1) := by decide +kernel
theorem dX2_daysUntilTired_66 : decode cX2_daysUntilTired 66 = .ok (.ireturn, 1) := by decide +kernel
set_option maxRecDepth 20000 in
theorem ggX2_bedFact_X1_numberAt : GoodIn wsX2_bedFact wsX1_numberAt := goodIn_r _ [12, 13, 14, 33, 34, 35, 36, 37] (by decide +kernel) (by decide +kernel)
set_option maxRecDepth 20000 in
theorem gX2_bedFact_X1_numberAt : GoodIn wsX2_bedFact (wsV RX2 138 RX1 yX1_numberAt wsX1_numberAt) := goodIn_app (goodIn_of _ (by decide +kernel)) ggX2_bedFact_X1_numberAt
set_option maxRecDepth 20000 in
theorem ggX2_bedFact_X4_numberSoundOf : GoodIn wsX2_bedFact wsX4_numberSoundOf := goodIn_r _ [19, 20, 21, 22, 38, 39, 40, 41, 42, 43, 44] (by decide +kernel) (by decide +kernel)
set_option maxRecDepth 20000 in
theorem gX2_bedFact_X4_numberSoundOf : GoodIn wsX2_bedFact (wsV RX2 141 RX4 yX4_numberSoundOf wsX4_numberSoundOf) := goodIn_app (goodIn_of _ (by decide +kernel)) ggX2_bedFact_X4_numberSoundOf
theorem dX2_bedFact_0 : decode cX2_bedFact 0 = .ok (.iload_n 2, 1) := by decide +kernel
theorem dX2_bedFact_1 : decode cX2_bedFact 1 = .ok (.tableswitch 84 0 4 #[35, 45, 55, 65, 74], 35) := by decide +kernel
theorem dX2_bedFact_36 : decode cX2_bedFact 36 = .ok (.aload_n 0, 1) := by decide +kernel
theorem dX2_bedFact_37 : decode cX2_bedFact 37 = .ok (.getfield 24, 3) := by decide +kernel
theorem dX2_bedFact_40 : decode cX2_bedFact 40 = .ok (.getfield 125, 3) := by decide +kernel
theorem dX2_bedFact_43 : decode cX2_bedFact 43 = .ok (.iload_n 1, 1) := by decide +kernel
theorem dX2_bedFact_44 : decode cX2_bedFact 44 = .ok (.iaload, 1) := by decide +kernel
theorem dX2_bedFact_45 : decode cX2_bedFact 45 = .ok (.ireturn, 1) := by decide +kernel
theorem dX2_bedFact_46 : decode cX2_bedFact 46 = .ok (.aload_n 0, 1) := by decide +kernel
theorem dX2_bedFact_47 : decode cX2_bedFact 47 = .ok (.getfield 24, 3) := by decide +kernel
theorem dX2_bedFact_50 : decode cX2_bedFact 50 = .ok (.getfield 122, 3) := by decide +kernel
theorem dX2_bedFact_53 : decode cX2_bedFact 53 = .ok (.iload_n 1, 1) := by decide +kernel
theorem dX2_bedFact_54 : decode cX2_bedFact 54 = .ok (.iaload, 1) := by decide +kernel
theorem dX2_bedFact_55 : decode cX2_bedFact 55 = .ok (.ireturn, 1) := by decide +kernel
theorem dX2_bedFact_56 : decode cX2_bedFact 56 = .ok (.aload_n 0, 1) := by decide +kernel
theorem dX2_bedFact_57 : decode cX2_bedFact 57 = .ok (.getfield 24, 3) := by decide +kernel
theorem dX2_bedFact_60 : decode cX2_bedFact 60 = .ok (.getfield 113, 3) := by decide +kernel
theorem dX2_bedFact_63 : decode cX2_bedFact 63 = .ok (.iload_n 1, 1) := by decide +kernel
theorem dX2_bedFact_64 : decode cX2_bedFact 64 = .ok (.iaload, 1) := by decide +kernel
theorem dX2_bedFact_65 : decode cX2_bedFact 65 = .ok (.ireturn, 1) := by decide +kernel
theorem dX2_bedFact_66 : decode cX2_bedFact 66 = .ok (.aload_n 0, 1) := by decide +kernel
theorem dX2_bedFact_67 : decode cX2_bedFact 67 = .ok (.getfield 31, 3) := by decide +kernel
theorem dX2_bedFact_70 : decode cX2_bedFact 70 = .ok (.iload_n 1, 1) := by decide +kernel
theorem dX2_bedFact_71 : decode cX2_bedFact 71 = .ok (.invokevirtual 138, 3) := by decide +kernel
theorem dX2_bedFact_74 : decode cX2_bedFact 74 = .ok (.ireturn, 1) := by decide +kernel
theorem dX2_bedFact_75 : decode cX2_bedFact 75 = .ok (.aload_n 0, 1) := by decide +kernel
theorem dX2_bedFact_76 : decode cX2_bedFact 76 = .ok (.getfield 24, 3) := by decide +kernel
theorem dX2_bedFact_79 : decode cX2_bedFact 79 = .ok (.getfield 119, 3) := by decide +kernel
theorem dX2_bedFact_82 : decode cX2_bedFact 82 = .ok (.iload_n 1, 1) := by decide +kernel
theorem dX2_bedFact_83 : decode cX2_bedFact 83 = .ok (.iaload, 1) := by decide +kernel
theorem dX2_bedFact_84 : decode cX2_bedFact 84 = .ok (.ireturn, 1) := by decide +kernel
theorem dX2_bedFact_85 : decode cX2_bedFact 85 = .ok (.aload_n 0, 1) := by decide +kernel
theorem dX2_bedFact_86 : decode cX2_bedFact 86 = .ok (.getfield 38, 3) := by decide +kernel
theorem dX2_bedFact_89 : decode cX2_bedFact 89 = .ok (.iload_n 1, 1) := by decide +kernel
theorem dX2_bedFact_90 : decode cX2_bedFact 90 = .ok (.invokevirtual 141, 3) := by decide +kernel
theorem dX2_bedFact_93 : decode cX2_bedFact 93 = .ok (.ireturn, 1) := by decide +kernel
set_option maxRecDepth 20000 in
theorem ggX2_quarrierFact_X2_daysUntilTired : GoodIn wsX2_quarrierFact wsX2_daysUntilTired := goodIn_r _ [10, 1, 3, 11, 4, 12, 13, 14, 15, 16, 17, 18, 19, 20, 21, 22, 23, 24, 25, 26, 27, 28, 29, 30, 31, 32, 33, 34, 35, 36, 37] (by decide +kernel) (by decide +kernel)
set_option maxRecDepth 20000 in
theorem gX2_quarrierFact_X2_daysUntilTired : GoodIn wsX2_quarrierFact (wsV RX2 144 RX2 yX2_daysUntilTired wsX2_daysUntilTired) := goodIn_app (goodIn_of _ (by decide +kernel)) ggX2_quarrierFact_X2_daysUntilTired
theorem dX2_quarrierFact_0 : decode cX2_quarrierFact 0 = .ok (.iload_n 2, 1) := by decide +kernel
theorem dX2_quarrierFact_1 : decode cX2_quarrierFact 1 = .ok (.tableswitch 71 0 3 #[31, 41, 51, 61], 31) := by decide +kernel
theorem dX2_quarrierFact_32 : decode cX2_quarrierFact 32 = .ok (.aload_n 0, 1) := by decide +kernel
theorem dX2_quarrierFact_33 : decode cX2_quarrierFact 33 = .ok (.getfield 31, 3) := by decide +kernel
theorem dX2_quarrierFact_36 : decode cX2_quarrierFact 36 = .ok (.getfield 104, 3) := by decide +kernel
theorem dX2_quarrierFact_39 : decode cX2_quarrierFact 39 = .ok (.iload_n 1, 1) := by decide +kernel
theorem dX2_quarrierFact_40 : decode cX2_quarrierFact 40 = .ok (.iaload, 1) := by decide +kernel
theorem dX2_quarrierFact_41 : decode cX2_quarrierFact 41 = .ok (.ireturn, 1) := by decide +kernel
theorem dX2_quarrierFact_42 : decode cX2_quarrierFact 42 = .ok (.aload_n 0, 1) := by decide +kernel
theorem dX2_quarrierFact_43 : decode cX2_quarrierFact 43 = .ok (.getfield 31, 3) := by decide +kernel
theorem dX2_quarrierFact_46 : decode cX2_quarrierFact 46 = .ok (.getfield 86, 3) := by decide +kernel
theorem dX2_quarrierFact_49 : decode cX2_quarrierFact 49 = .ok (.iload_n 1, 1) := by decide +kernel
theorem dX2_quarrierFact_50 : decode cX2_quarrierFact 50 = .ok (.iaload, 1) := by decide +kernel
theorem dX2_quarrierFact_51 : decode cX2_quarrierFact 51 = .ok (.ireturn, 1) := by decide +kernel
theorem dX2_quarrierFact_52 : decode cX2_quarrierFact 52 = .ok (.aload_n 0, 1) := by decide +kernel
theorem dX2_quarrierFact_53 : decode cX2_quarrierFact 53 = .ok (.getfield 31, 3) := by decide +kernel
theorem dX2_quarrierFact_56 : decode cX2_quarrierFact 56 = .ok (.getfield 135, 3) := by decide +kernel
theorem dX2_quarrierFact_59 : decode cX2_quarrierFact 59 = .ok (.iload_n 1, 1) := by decide +kernel
theorem dX2_quarrierFact_60 : decode cX2_quarrierFact 60 = .ok (.iaload, 1) := by decide +kernel
theorem dX2_quarrierFact_61 : decode cX2_quarrierFact 61 = .ok (.ireturn, 1) := by decide +kernel
theorem dX2_quarrierFact_62 : decode cX2_quarrierFact 62 = .ok (.aload_n 0, 1) := by decide +kernel
theorem dX2_quarrierFact_63 : decode cX2_quarrierFact 63 = .ok (.getfield 31, 3) := by decide +kernel
theorem dX2_quarrierFact_66 : decode cX2_quarrierFact 66 = .ok (.getfield 111, 3) := by decide +kernel
theorem dX2_quarrierFact_69 : decode cX2_quarrierFact 69 = .ok (.iload_n 1, 1) := by decide +kernel
theorem dX2_quarrierFact_70 : decode cX2_quarrierFact 70 = .ok (.iaload, 1) := by decide +kernel
theorem dX2_quarrierFact_71 : decode cX2_quarrierFact 71 = .ok (.ireturn, 1) := by decide +kernel
theorem dX2_quarrierFact_72 : decode cX2_quarrierFact 72 = .ok (.aload_n 0, 1) := by decide +kernel
theorem dX2_quarrierFact_73 : decode cX2_quarrierFact 73 = .ok (.iload_n 1, 1) := by decide +kernel
theorem dX2_quarrierFact_74 : decode cX2_quarrierFact 74 = .ok (.invokevirtual 144, 3) := by decide +kernel
theorem dX2_quarrierFact_77 : decode cX2_quarrierFact 77 = .ok (.ireturn, 1) := by decide +kernel
set_option maxRecDepth 20000 in
theorem ggX2_countOf_X2_water : GoodIn wsX2_countOf wsX2_water := goodIn_r _ [9, 10, 1, 11, 12, 13, 14, 33, 34, 35, 36, 37] (by decide +kernel) (by decide +kernel)
set_option maxRecDepth 20000 in
theorem gX2_countOf_X2_water : GoodIn wsX2_countOf (wsV RX2 62 RX2 yX2_water wsX2_water) := goodIn_app (goodIn_of _ (by decide +kernel)) ggX2_countOf_X2_water
set_option maxRecDepth 20000 in
theorem ggX2_countOf_X2_millRuns : GoodIn wsX2_countOf wsX2_millRuns := goodIn_r _ [18, 5, 6, 7, 8, 9, 10, 1, 11, 12, 13, 14, 33, 34, 35, 36, 37] (by decide +kernel) (by decide +kernel)
set_option maxRecDepth 20000 in
theorem gX2_countOf_X2_millRuns : GoodIn wsX2_countOf (wsV RX2 79 RX2 yX2_millRuns wsX2_millRuns) := goodIn_app (goodIn_of _ (by decide +kernel)) ggX2_countOf_X2_millRuns
set_option maxRecDepth 20000 in
theorem ggX2_countOf_X4_numberThatAre : GoodIn wsX2_countOf wsX4_numberThatAre := goodIn_r _ [23, 24, 25, 38, 39, 40, 41, 42, 43, 44] (by decide +kernel) (by decide +kernel)
set_option maxRecDepth 20000 in
theorem gX2_countOf_X4_numberThatAre : GoodIn wsX2_countOf (wsV RX2 147 RX4 yX4_numberThatAre wsX4_numberThatAre) := goodIn_app (goodIn_of _ (by decide +kernel)) ggX2_countOf_X4_numberThatAre
set_option maxRecDepth 20000 in
theorem ggX2_countOf_X1_dustInAll : GoodIn wsX2_countOf wsX1_dustInAll := goodIn_r _ [30, 31, 32, 45, 46, 47, 48, 49] (by decide +kernel) (by decide +kernel)
set_option maxRecDepth 20000 in
theorem gX2_countOf_X1_dustInAll : GoodIn wsX2_countOf (wsV RX2 150 RX1 yX1_dustInAll wsX1_dustInAll) := goodIn_app (goodIn_of _ (by decide +kernel)) ggX2_countOf_X1_dustInAll
theorem dX2_countOf_0 : decode cX2_countOf 0 = .ok (.iload_n 1, 1) := by decide +kernel
theorem dX2_countOf_1 : decode cX2_countOf 1 = .ok (.tableswitch 114 0 7 #[47, 52, 57, 70, 78, 87, 96, 105], 47) := by decide +kernel
theorem dX2_countOf_48 : decode cX2_countOf 48 = .ok (.aload_n 0, 1) := by decide +kernel
theorem dX2_countOf_49 : decode cX2_countOf 49 = .ok (.getfield 42, 3) := by decide +kernel
theorem dX2_countOf_52 : decode cX2_countOf 52 = .ok (.ireturn, 1) := by decide +kernel
theorem dX2_countOf_53 : decode cX2_countOf 53 = .ok (.aload_n 0, 1) := by decide +kernel
theorem dX2_countOf_54 : decode cX2_countOf 54 = .ok (.invokevirtual 62, 3) := by decide +kernel
theorem dX2_countOf_57 : decode cX2_countOf 57 = .ok (.ireturn, 1) := by decide +kernel
theorem dX2_countOf_58 : decode cX2_countOf 58 = .ok (.aload_n 0, 1) := by decide +kernel
theorem dX2_countOf_59 : decode cX2_countOf 59 = .ok (.invokevirtual 79, 3) := by decide +kernel
theorem dX2_countOf_62 : decode cX2_countOf 62 = .ok (.ifCond .eq 7, 3) := by decide +kernel
theorem dX2_countOf_65 : decode cX2_countOf 65 = .ok (.iconst 1, 1) := by decide +kernel
theorem dX2_countOf_66 : decode cX2_countOf 66 = .ok (.goto 4, 3) := by decide +kernel
theorem dX2_countOf_69 : decode cX2_countOf 69 = .ok (.iconst 0, 1) := by decide +kernel
theorem dX2_countOf_70 : decode cX2_countOf 70 = .ok (.ireturn, 1) := by decide +kernel
theorem dX2_countOf_71 : decode cX2_countOf 71 = .ok (.aload_n 0, 1) := by decide +kernel
theorem dX2_countOf_72 : decode cX2_countOf 72 = .ok (.getfield 38, 3) := by decide +kernel
theorem dX2_countOf_75 : decode cX2_countOf 75 = .ok (.getfield 110, 3) := by decide +kernel
theorem dX2_countOf_78 : decode cX2_countOf 78 = .ok (.ireturn, 1) := by decide +kernel
theorem dX2_countOf_79 : decode cX2_countOf 79 = .ok (.aload_n 0, 1) := by decide +kernel
theorem dX2_countOf_80 : decode cX2_countOf 80 = .ok (.getfield 38, 3) := by decide +kernel
theorem dX2_countOf_83 : decode cX2_countOf 83 = .ok (.iconst 0, 1) := by decide +kernel
theorem dX2_countOf_84 : decode cX2_countOf 84 = .ok (.invokevirtual 147, 3) := by decide +kernel
theorem dX2_countOf_87 : decode cX2_countOf 87 = .ok (.ireturn, 1) := by decide +kernel
theorem dX2_countOf_88 : decode cX2_countOf 88 = .ok (.aload_n 0, 1) := by decide +kernel
theorem dX2_countOf_89 : decode cX2_countOf 89 = .ok (.getfield 38, 3) := by decide +kernel
theorem dX2_countOf_92 : decode cX2_countOf 92 = .ok (.iconst 1, 1) := by decide +kernel
theorem dX2_countOf_93 : decode cX2_countOf 93 = .ok (.invokevirtual 147, 3) := by decide +kernel
theorem dX2_countOf_96 : decode cX2_countOf 96 = .ok (.ireturn, 1) := by decide +kernel
theorem dX2_countOf_97 : decode cX2_countOf 97 = .ok (.aload_n 0, 1) := by decide +kernel
theorem dX2_countOf_98 : decode cX2_countOf 98 = .ok (.getfield 38, 3) := by decide +kernel
theorem dX2_countOf_101 : decode cX2_countOf 101 = .ok (.iconst 2, 1) := by decide +kernel
theorem dX2_countOf_102 : decode cX2_countOf 102 = .ok (.invokevirtual 147, 3) := by decide +kernel
theorem dX2_countOf_105 : decode cX2_countOf 105 = .ok (.ireturn, 1) := by decide +kernel
theorem dX2_countOf_106 : decode cX2_countOf 106 = .ok (.aload_n 0, 1) := by decide +kernel
theorem dX2_countOf_107 : decode cX2_countOf 107 = .ok (.getfield 38, 3) := by decide +kernel
theorem dX2_countOf_110 : decode cX2_countOf 110 = .ok (.iconst 3, 1) := by decide +kernel
theorem dX2_countOf_111 : decode cX2_countOf 111 = .ok (.invokevirtual 147, 3) := by decide +kernel
theorem dX2_countOf_114 : decode cX2_countOf 114 = .ok (.ireturn, 1) := by decide +kernel
theorem dX2_countOf_115 : decode cX2_countOf 115 = .ok (.aload_n 0, 1) := by decide +kernel
theorem dX2_countOf_116 : decode cX2_countOf 116 = .ok (.getfield 31, 3) := by decide +kernel
theorem dX2_countOf_119 : decode cX2_countOf 119 = .ok (.invokevirtual 150, 3) := by decide +kernel
theorem dX2_countOf_122 : decode cX2_countOf 122 = .ok (.ireturn, 1) := by decide +kernel
theorem dX3_init_0 : decode cX3_init 0 = .ok (.aload_n 0, 1) := by decide +kernel
theorem dX3_init_1 : decode cX3_init 1 = .ok (.invokespecial 3, 3) := by decide +kernel
theorem dX3_init_4 : decode cX3_init 4 = .ok (.aload_n 0, 1) := by decide +kernel
theorem dX3_init_5 : decode cX3_init 5 = .ok (.iconst 3, 1) := by decide +kernel
theorem dX3_init_6 : decode cX3_init 6 = .ok (.newarray .int, 2) := by decide +kernel
theorem dX3_init_8 : decode cX3_init 8 = .ok (.putfield 9, 3) := by decide +kernel
theorem dX3_init_11 : decode cX3_init 11 = .ok (.aload_n 0, 1) := by decide +kernel
theorem dX3_init_12 : decode cX3_init 12 = .ok (.iconst 3, 1) := by decide +kernel
theorem dX3_init_13 : decode cX3_init 13 = .ok (.newarray .int, 2) := by decide +kernel
theorem dX3_init_15 : decode cX3_init 15 = .ok (.putfield 15, 3) := by decide +kernel
theorem dX3_init_18 : decode cX3_init 18 = .ok (.return_, 1) := by decide +kernel
theorem dX3_has_0 : decode cX3_has 0 = .ok (.iload_n 1, 1) := by decide +kernel
theorem dX3_has_1 : decode cX3_has 1 = .ok (.ifCond .lt 15, 3) := by decide +kernel
theorem dX3_has_4 : decode cX3_has 4 = .ok (.iload_n 1, 1) := by decide +kernel
theorem dX3_has_5 : decode cX3_has 5 = .ok (.aload_n 0, 1) := by decide +kernel
theorem dX3_has_6 : decode cX3_has 6 = .ok (.getfield 18, 3) := by decide +kernel
theorem dX3_has_9 : decode cX3_has 9 = .ok (.if_icmp .ge 7, 3) := by decide +kernel
theorem dX3_has_12 : decode cX3_has 12 = .ok (.iconst 1, 1) := by decide +kernel
theorem dX3_has_13 : decode cX3_has 13 = .ok (.goto 4, 3) := by decide +kernel
theorem dX3_has_16 : decode cX3_has 16 = .ok (.iconst 0, 1) := by decide +kernel
theorem dX3_has_17 : decode cX3_has 17 = .ok (.ireturn, 1) := by decide +kernel
theorem dX3_add_0 : decode cX3_add 0 = .ok (.aload_n 0, 1) := by decide +kernel
theorem dX3_add_1 : decode cX3_add 1 = .ok (.getfield 18, 3) := by decide +kernel
theorem dX3_add_4 : decode cX3_add 4 = .ok (.iconst 3, 1) := by decide +kernel
theorem dX3_add_5 : decode cX3_add 5 = .ok (.if_icmp .lt 5, 3) := by decide +kernel
theorem dX3_add_8 : decode cX3_add 8 = .ok (.iconst (-1), 1) := by decide +kernel
theorem dX3_add_9 : decode cX3_add 9 = .ok (.ireturn, 1) := by decide +kernel
theorem dX3_add_10 : decode cX3_add 10 = .ok (.aload_n 0, 1) := by decide +kernel
theorem dX3_add_11 : decode cX3_add 11 = .ok (.getfield 9, 3) := by decide +kernel
theorem dX3_add_14 : decode cX3_add 14 = .ok (.aload_n 0, 1) := by decide +kernel
theorem dX3_add_15 : decode cX3_add 15 = .ok (.getfield 18, 3) := by decide +kernel
theorem dX3_add_18 : decode cX3_add 18 = .ok (.iload_n 1, 1) := by decide +kernel
theorem dX3_add_19 : decode cX3_add 19 = .ok (.iastore, 1) := by decide +kernel
theorem dX3_add_20 : decode cX3_add 20 = .ok (.aload_n 0, 1) := by decide +kernel
theorem dX3_add_21 : decode cX3_add 21 = .ok (.dup, 1) := by decide +kernel
theorem dX3_add_22 : decode cX3_add 22 = .ok (.getfield 18, 3) := by decide +kernel
theorem dX3_add_25 : decode cX3_add 25 = .ok (.dup_x1, 1) := by decide +kernel
theorem dX3_add_26 : decode cX3_add 26 = .ok (.iconst 1, 1) := by decide +kernel
theorem dX3_add_27 : decode cX3_add 27 = .ok (.iadd, 1) := by decide +kernel
theorem dX3_add_28 : decode cX3_add 28 = .ok (.putfield 18, 3) := by decide +kernel
theorem dX3_add_31 : decode cX3_add 31 = .ok (.ireturn, 1) := by decide +kernel
theorem dX3_isAway_0 : decode cX3_isAway 0 = .ok (.iload_n 2, 1) := by decide +kernel
theorem dX3_isAway_1 : decode cX3_isAway 1 = .ok (.aload_n 0, 1) := by decide +kernel
theorem dX3_isAway_2 : decode cX3_isAway 2 = .ok (.getfield 15, 3) := by decide +kernel
theorem dX3_isAway_5 : decode cX3_isAway 5 = .ok (.iload_n 1, 1) := by decide +kernel
theorem dX3_isAway_6 : decode cX3_isAway 6 = .ok (.iaload, 1) := by decide +kernel
theorem dX3_isAway_7 : decode cX3_isAway 7 = .ok (.if_icmp .ge 7, 3) := by decide +kernel
theorem dX3_isAway_10 : decode cX3_isAway 10 = .ok (.iconst 1, 1) := by decide +kernel
theorem dX3_isAway_11 : decode cX3_isAway 11 = .ok (.goto 4, 3) := by decide +kernel
theorem dX3_isAway_14 : decode cX3_isAway 14 = .ok (.iconst 0, 1) := by decide +kernel
theorem dX3_isAway_15 : decode cX3_isAway 15 = .ok (.ireturn, 1) := by decide +kernel
theorem dX3_leave_0 : decode cX3_leave 0 = .ok (.aload_n 0, 1) := by decide +kernel
theorem dX3_leave_1 : decode cX3_leave 1 = .ok (.getfield 15, 3) := by decide +kernel
theorem dX3_leave_4 : decode cX3_leave 4 = .ok (.iload_n 1, 1) := by decide +kernel
theorem dX3_leave_5 : decode cX3_leave 5 = .ok (.iload_n 2, 1) := by decide +kernel
theorem dX3_leave_6 : decode cX3_leave 6 = .ok (.iconst 4, 1) := by decide +kernel
theorem dX3_leave_7 : decode cX3_leave 7 = .ok (.iadd, 1) := by decide +kernel
theorem dX3_leave_8 : decode cX3_leave 8 = .ok (.iastore, 1) := by decide +kernel
theorem dX3_leave_9 : decode cX3_leave 9 = .ok (.return_, 1) := by decide +kernel
theorem dX4_init_0 : decode cX4_init 0 = .ok (.aload_n 0, 1) := by decide +kernel
theorem dX4_init_1 : decode cX4_init 1 = .ok (.invokespecial 3, 3) := by decide +kernel
theorem dX4_init_4 : decode cX4_init 4 = .ok (.aload_n 0, 1) := by decide +kernel
theorem dX4_init_5 : decode cX4_init 5 = .ok (.bipush 60, 2) := by decide +kernel
theorem dX4_init_7 : decode cX4_init 7 = .ok (.newarray .int, 2) := by decide +kernel
theorem dX4_init_9 : decode cX4_init 9 = .ok (.putfield 9, 3) := by decide +kernel
theorem dX4_init_12 : decode cX4_init 12 = .ok (.aload_n 0, 1) := by decide +kernel
theorem dX4_init_13 : decode cX4_init 13 = .ok (.bipush 60, 2) := by decide +kernel
theorem dX4_init_15 : decode cX4_init 15 = .ok (.newarray .int, 2) := by decide +kernel
theorem dX4_init_17 : decode cX4_init 17 = .ok (.putfield 15, 3) := by decide +kernel
theorem dX4_init_20 : decode cX4_init 20 = .ok (.aload_n 0, 1) := by decide +kernel
theorem dX4_init_21 : decode cX4_init 21 = .ok (.bipush 60, 2) := by decide +kernel
theorem dX4_init_23 : decode cX4_init 23 = .ok (.newarray .int, 2) := by decide +kernel
theorem dX4_init_25 : decode cX4_init 25 = .ok (.putfield 18, 3) := by decide +kernel
theorem dX4_init_28 : decode cX4_init 28 = .ok (.aload_n 0, 1) := by decide +kernel
theorem dX4_init_29 : decode cX4_init 29 = .ok (.bipush 60, 2) := by decide +kernel
theorem dX4_init_31 : decode cX4_init 31 = .ok (.newarray .boolean, 2) := by decide +kernel
theorem dX4_init_33 : decode cX4_init 33 = .ok (.putfield 21, 3) := by decide +kernel
theorem dX4_init_36 : decode cX4_init 36 = .ok (.aload_n 0, 1) := by decide +kernel
theorem dX4_init_37 : decode cX4_init 37 = .ok (.bipush 60, 2) := by decide +kernel
theorem dX4_init_39 : decode cX4_init 39 = .ok (.newarray .int, 2) := by decide +kernel
theorem dX4_init_41 : decode cX4_init 41 = .ok (.putfield 25, 3) := by decide +kernel
theorem dX4_init_44 : decode cX4_init 44 = .ok (.aload_n 0, 1) := by decide +kernel
theorem dX4_init_45 : decode cX4_init 45 = .ok (.bipush 60, 2) := by decide +kernel
theorem dX4_init_47 : decode cX4_init 47 = .ok (.newarray .int, 2) := by decide +kernel
theorem dX4_init_49 : decode cX4_init 49 = .ok (.putfield 28, 3) := by decide +kernel
theorem dX4_init_52 : decode cX4_init 52 = .ok (.return_, 1) := by decide +kernel
theorem dX4_copyFrom_0 : decode cX4_copyFrom 0 = .ok (.aload_n 0, 1) := by decide +kernel
theorem dX4_copyFrom_1 : decode cX4_copyFrom 1 = .ok (.aload_n 1, 1) := by decide +kernel
theorem dX4_copyFrom_2 : decode cX4_copyFrom 2 = .ok (.getfield 31, 3) := by decide +kernel
theorem dX4_copyFrom_5 : decode cX4_copyFrom 5 = .ok (.putfield 31, 3) := by decide +kernel
theorem dX4_copyFrom_8 : decode cX4_copyFrom 8 = .ok (.iconst 0, 1) := by decide +kernel
theorem dX4_copyFrom_9 : decode cX4_copyFrom 9 = .ok (.istore_n 2, 1) := by decide +kernel
theorem dX4_copyFrom_10 : decode cX4_copyFrom 10 = .ok (.iload_n 2, 1) := by decide +kernel
theorem dX4_copyFrom_11 : decode cX4_copyFrom 11 = .ok (.aload_n 0, 1) := by decide +kernel
theorem dX4_copyFrom_12 : decode cX4_copyFrom 12 = .ok (.getfield 31, 3) := by decide +kernel
theorem dX4_copyFrom_15 : decode cX4_copyFrom 15 = .ok (.if_icmp .ge 81, 3) := by decide +kernel
theorem dX4_copyFrom_18 : decode cX4_copyFrom 18 = .ok (.aload_n 0, 1) := by decide +kernel
theorem dX4_copyFrom_19 : decode cX4_copyFrom 19 = .ok (.getfield 9, 3) := by decide +kernel
theorem dX4_copyFrom_22 : decode cX4_copyFrom 22 = .ok (.iload_n 2, 1) := by decide +kernel
theorem dX4_copyFrom_23 : decode cX4_copyFrom 23 = .ok (.aload_n 1, 1) := by decide +kernel
theorem dX4_copyFrom_24 : decode cX4_copyFrom 24 = .ok (.getfield 9, 3) := by decide +kernel
theorem dX4_copyFrom_27 : decode cX4_copyFrom 27 = .ok (.iload_n 2, 1) := by decide +kernel
theorem dX4_copyFrom_28 : decode cX4_copyFrom 28 = .ok (.iaload, 1) := by decide +kernel
theorem dX4_copyFrom_29 : decode cX4_copyFrom 29 = .ok (.iastore, 1) := by decide +kernel
theorem dX4_copyFrom_30 : decode cX4_copyFrom 30 = .ok (.aload_n 0, 1) := by decide +kernel
theorem dX4_copyFrom_31 : decode cX4_copyFrom 31 = .ok (.getfield 15, 3) := by decide +kernel
theorem dX4_copyFrom_34 : decode cX4_copyFrom 34 = .ok (.iload_n 2, 1) := by decide +kernel
theorem dX4_copyFrom_35 : decode cX4_copyFrom 35 = .ok (.aload_n 1, 1) := by decide +kernel
theorem dX4_copyFrom_36 : decode cX4_copyFrom 36 = .ok (.getfield 15, 3) := by decide +kernel
theorem dX4_copyFrom_39 : decode cX4_copyFrom 39 = .ok (.iload_n 2, 1) := by decide +kernel
theorem dX4_copyFrom_40 : decode cX4_copyFrom 40 = .ok (.iaload, 1) := by decide +kernel
theorem dX4_copyFrom_41 : decode cX4_copyFrom 41 = .ok (.iastore, 1) := by decide +kernel
theorem dX4_copyFrom_42 : decode cX4_copyFrom 42 = .ok (.aload_n 0, 1) := by decide +kernel
theorem dX4_copyFrom_43 : decode cX4_copyFrom 43 = .ok (.getfield 18, 3) := by decide +kernel
theorem dX4_copyFrom_46 : decode cX4_copyFrom 46 = .ok (.iload_n 2, 1) := by decide +kernel
theorem dX4_copyFrom_47 : decode cX4_copyFrom 47 = .ok (.aload_n 1, 1) := by decide +kernel
theorem dX4_copyFrom_48 : decode cX4_copyFrom 48 = .ok (.getfield 18, 3) := by decide +kernel
theorem dX4_copyFrom_51 : decode cX4_copyFrom 51 = .ok (.iload_n 2, 1) := by decide +kernel
theorem dX4_copyFrom_52 : decode cX4_copyFrom 52 = .ok (.iaload, 1) := by decide +kernel
theorem dX4_copyFrom_53 : decode cX4_copyFrom 53 = .ok (.iastore, 1) := by decide +kernel
theorem dX4_copyFrom_54 : decode cX4_copyFrom 54 = .ok (.aload_n 0, 1) := by decide +kernel
theorem dX4_copyFrom_55 : decode cX4_copyFrom 55 = .ok (.getfield 21, 3) := by decide +kernel
theorem dX4_copyFrom_58 : decode cX4_copyFrom 58 = .ok (.iload_n 2, 1) := by decide +kernel
theorem dX4_copyFrom_59 : decode cX4_copyFrom 59 = .ok (.aload_n 1, 1) := by decide +kernel
theorem dX4_copyFrom_60 : decode cX4_copyFrom 60 = .ok (.getfield 21, 3) := by decide +kernel
theorem dX4_copyFrom_63 : decode cX4_copyFrom 63 = .ok (.iload_n 2, 1) := by decide +kernel
theorem dX4_copyFrom_64 : decode cX4_copyFrom 64 = .ok (.baload, 1) := by decide +kernel
theorem dX4_copyFrom_65 : decode cX4_copyFrom 65 = .ok (.bastore, 1) := by decide +kernel
theorem dX4_copyFrom_66 : decode cX4_copyFrom 66 = .ok (.aload_n 0, 1) := by decide +kernel
theorem dX4_copyFrom_67 : decode cX4_copyFrom 67 = .ok (.getfield 25, 3) := by decide +kernel
theorem dX4_copyFrom_70 : decode cX4_copyFrom 70 = .ok (.iload_n 2, 1) := by decide +kernel
theorem dX4_copyFrom_71 : decode cX4_copyFrom 71 = .ok (.aload_n 1, 1) := by decide +kernel
theorem dX4_copyFrom_72 : decode cX4_copyFrom 72 = .ok (.getfield 25, 3) := by decide +kernel
theorem dX4_copyFrom_75 : decode cX4_copyFrom 75 = .ok (.iload_n 2, 1) := by decide +kernel
theorem dX4_copyFrom_76 : decode cX4_copyFrom 76 = .ok (.iaload, 1) := by decide +kernel
theorem dX4_copyFrom_77 : decode cX4_copyFrom 77 = .ok (.iastore, 1) := by decide +kernel
theorem dX4_copyFrom_78 : decode cX4_copyFrom 78 = .ok (.aload_n 0, 1) := by decide +kernel
theorem dX4_copyFrom_79 : decode cX4_copyFrom 79 = .ok (.getfield 28, 3) := by decide +kernel
theorem dX4_copyFrom_82 : decode cX4_copyFrom 82 = .ok (.iload_n 2, 1) := by decide +kernel
theorem dX4_copyFrom_83 : decode cX4_copyFrom 83 = .ok (.aload_n 1, 1) := by decide +kernel
theorem dX4_copyFrom_84 : decode cX4_copyFrom 84 = .ok (.getfield 28, 3) := by decide +kernel
theorem dX4_copyFrom_87 : decode cX4_copyFrom 87 = .ok (.iload_n 2, 1) := by decide +kernel
theorem dX4_copyFrom_88 : decode cX4_copyFrom 88 = .ok (.iaload, 1) := by decide +kernel
theorem dX4_copyFrom_89 : decode cX4_copyFrom 89 = .ok (.iastore, 1) := by decide +kernel
theorem dX4_copyFrom_90 : decode cX4_copyFrom 90 = .ok (.iinc 2 1, 3) := by decide +kernel
theorem dX4_copyFrom_93 : decode cX4_copyFrom 93 = .ok (.goto (-83), 3) := by decide +kernel
theorem dX4_copyFrom_96 : decode cX4_copyFrom 96 = .ok (.return_, 1) := by decide +kernel
theorem dX4_has_0 : decode cX4_has 0 = .ok (.iload_n 1, 1) := by decide +kernel
theorem dX4_has_1 : decode cX4_has 1 = .ok (.ifCond .lt 15, 3) := by decide +kernel
theorem dX4_has_4 : decode cX4_has 4 = .ok (.iload_n 1, 1) := by decide +kernel
theorem dX4_has_5 : decode cX4_has 5 = .ok (.aload_n 0, 1) := by decide +kernel
theorem dX4_has_6 : decode cX4_has 6 = .ok (.getfield 31, 3) := by decide +kernel
theorem dX4_has_9 : decode cX4_has 9 = .ok (.if_icmp .ge 7, 3) := by decide +kernel
theorem dX4_has_12 : decode cX4_has 12 = .ok (.iconst 1, 1) := by decide +kernel
theorem dX4_has_13 : decode cX4_has 13 = .ok (.goto 4, 3) := by decide +kernel
theorem dX4_has_16 : decode cX4_has 16 = .ok (.iconst 0, 1) := by decide +kernel
theorem dX4_has_17 : decode cX4_has 17 = .ok (.ireturn, 1) := by decide +kernel
theorem dX4_add_0 : decode cX4_add 0 = .ok (.aload_n 0, 1) := by decide +kernel
theorem dX4_add_1 : decode cX4_add 1 = .ok (.getfield 31, 3) := by decide +kernel
theorem dX4_add_4 : decode cX4_add 4 = .ok (.bipush 60, 2) := by decide +kernel
theorem dX4_add_6 : decode cX4_add 6 = .ok (.if_icmp .lt 4, 3) := by decide +kernel
theorem dX4_add_9 : decode cX4_add 9 = .ok (.return_, 1) := by decide +kernel
theorem dX4_add_10 : decode cX4_add 10 = .ok (.aload_n 0, 1) := by decide +kernel
theorem dX4_add_11 : decode cX4_add 11 = .ok (.getfield 9, 3) := by decide +kernel
theorem dX4_add_14 : decode cX4_add 14 = .ok (.aload_n 0, 1) := by decide +kernel
theorem dX4_add_15 : decode cX4_add 15 = .ok (.getfield 31, 3) := by decide +kernel
theorem dX4_add_18 : decode cX4_add 18 = .ok (.iload_n 1, 1) := by decide +kernel
theorem dX4_add_19 : decode cX4_add 19 = .ok (.iastore, 1) := by decide +kernel
theorem dX4_add_20 : decode cX4_add 20 = .ok (.aload_n 0, 1) := by decide +kernel
theorem dX4_add_21 : decode cX4_add 21 = .ok (.getfield 15, 3) := by decide +kernel
theorem dX4_add_24 : decode cX4_add 24 = .ok (.aload_n 0, 1) := by decide +kernel
theorem dX4_add_25 : decode cX4_add 25 = .ok (.getfield 31, 3) := by decide +kernel
theorem dX4_add_28 : decode cX4_add 28 = .ok (.iload_n 2, 1) := by decide +kernel
theorem dX4_add_29 : decode cX4_add 29 = .ok (.iastore, 1) := by decide +kernel
theorem dX4_add_30 : decode cX4_add 30 = .ok (.aload_n 0, 1) := by decide +kernel
theorem dX4_add_31 : decode cX4_add 31 = .ok (.getfield 18, 3) := by decide +kernel
theorem dX4_add_34 : decode cX4_add 34 = .ok (.aload_n 0, 1) := by decide +kernel
theorem dX4_add_35 : decode cX4_add 35 = .ok (.getfield 31, 3) := by decide +kernel
theorem dX4_add_38 : decode cX4_add 38 = .ok (.iload_n 3, 1) := by decide +kernel
theorem dX4_add_39 : decode cX4_add 39 = .ok (.iastore, 1) := by decide +kernel
theorem dX4_add_40 : decode cX4_add 40 = .ok (.aload_n 0, 1) := by decide +kernel
theorem dX4_add_41 : decode cX4_add 41 = .ok (.getfield 21, 3) := by decide +kernel
theorem dX4_add_44 : decode cX4_add 44 = .ok (.aload_n 0, 1) := by decide +kernel
theorem dX4_add_45 : decode cX4_add 45 = .ok (.getfield 31, 3) := by decide +kernel
theorem dX4_add_48 : decode cX4_add 48 = .ok (.iload 4, 2) := by decide +kernel
theorem dX4_add_50 : decode cX4_add 50 = .ok (.bastore, 1) := by decide +kernel
theorem dX4_add_51 : decode cX4_add 51 = .ok (.aload_n 0, 1) := by decide +kernel
theorem dX4_add_52 : decode cX4_add 52 = .ok (.getfield 25, 3) := by decide +kernel
theorem dX4_add_55 : decode cX4_add 55 = .ok (.aload_n 0, 1) := by decide +kernel
theorem dX4_add_56 : decode cX4_add 56 = .ok (.getfield 31, 3) := by decide +kernel
theorem dX4_add_59 : decode cX4_add 59 = .ok (.iconst 0, 1) := by decide +kernel
theorem dX4_add_60 : decode cX4_add 60 = .ok (.iastore, 1) := by decide +kernel
theorem dX4_add_61 : decode cX4_add 61 = .ok (.aload_n 0, 1) := by decide +kernel
theorem dX4_add_62 : decode cX4_add 62 = .ok (.getfield 28, 3) := by decide +kernel
theorem dX4_add_65 : decode cX4_add 65 = .ok (.aload_n 0, 1) := by decide +kernel
theorem dX4_add_66 : decode cX4_add 66 = .ok (.getfield 31, 3) := by decide +kernel
theorem dX4_add_69 : decode cX4_add 69 = .ok (.iconst (-1), 1) := by decide +kernel
theorem dX4_add_70 : decode cX4_add 70 = .ok (.iastore, 1) := by decide +kernel
theorem dX4_add_71 : decode cX4_add 71 = .ok (.aload_n 0, 1) := by decide +kernel
theorem dX4_add_72 : decode cX4_add 72 = .ok (.dup, 1) := by decide +kernel
theorem dX4_add_73 : decode cX4_add 73 = .ok (.getfield 31, 3) := by decide +kernel
theorem dX4_add_76 : decode cX4_add 76 = .ok (.iconst 1, 1) := by decide +kernel
theorem dX4_add_77 : decode cX4_add 77 = .ok (.iadd, 1) := by decide +kernel
theorem dX4_add_78 : decode cX4_add 78 = .ok (.putfield 31, 3) := by decide +kernel
theorem dX4_add_81 : decode cX4_add 81 = .ok (.return_, 1) := by decide +kernel
theorem dX4_tone_0 : decode cX4_tone 0 = .ok (.bipush 50, 2) := by decide +kernel
theorem dX4_tone_2 : decode cX4_tone 2 = .ok (.iconst 4, 1) := by decide +kernel
theorem dX4_tone_3 : decode cX4_tone 3 = .ok (.aload_n 0, 1) := by decide +kernel
theorem dX4_tone_4 : decode cX4_tone 4 = .ok (.getfield 18, 3) := by decide +kernel
theorem dX4_tone_7 : decode cX4_tone 7 = .ok (.iload_n 1, 1) := by decide +kernel
theorem dX4_tone_8 : decode cX4_tone 8 = .ok (.iaload, 1) := by decide +kernel
theorem dX4_tone_9 : decode cX4_tone 9 = .ok (.imul, 1) := by decide +kernel
theorem dX4_tone_10 : decode cX4_tone 10 = .ok (.isub, 1) := by decide +kernel
theorem dX4_tone_11 : decode cX4_tone 11 = .ok (.aload_n 0, 1) := by decide +kernel
theorem dX4_tone_12 : decode cX4_tone 12 = .ok (.getfield 15, 3) := by decide +kernel
theorem dX4_tone_15 : decode cX4_tone 15 = .ok (.iload_n 1, 1) := by decide +kernel
theorem dX4_tone_16 : decode cX4_tone 16 = .ok (.iaload, 1) := by decide +kernel
theorem dX4_tone_17 : decode cX4_tone 17 = .ok (.isub, 1) := by decide +kernel
theorem dX4_tone_18 : decode cX4_tone 18 = .ok (.aload_n 0, 1) := by decide +kernel
theorem dX4_tone_19 : decode cX4_tone 19 = .ok (.getfield 21, 3) := by decide +kernel
theorem dX4_tone_22 : decode cX4_tone 22 = .ok (.iload_n 1, 1) := by decide +kernel
theorem dX4_tone_23 : decode cX4_tone 23 = .ok (.baload, 1) := by decide +kernel
theorem dX4_tone_24 : decode cX4_tone 24 = .ok (.ifCond .eq 8, 3) := by decide +kernel
theorem dX4_tone_27 : decode cX4_tone 27 = .ok (.bipush 9, 2) := by decide +kernel
theorem dX4_tone_29 : decode cX4_tone 29 = .ok (.goto 4, 3) := by decide +kernel
theorem dX4_tone_32 : decode cX4_tone 32 = .ok (.iconst 0, 1) := by decide +kernel
theorem dX4_tone_33 : decode cX4_tone 33 = .ok (.isub, 1) := by decide +kernel
theorem dX4_tone_34 : decode cX4_tone 34 = .ok (.ireturn, 1) := by decide +kernel
theorem dX4_weight_0 : decode cX4_weight 0 = .ok (.iconst 2, 1) := by decide +kernel
theorem dX4_weight_1 : decode cX4_weight 1 = .ok (.aload_n 0, 1) := by decide +kernel
theorem dX4_weight_2 : decode cX4_weight 2 = .ok (.getfield 18, 3) := by decide +kernel
theorem dX4_weight_5 : decode cX4_weight 5 = .ok (.iload_n 1, 1) := by decide +kernel
theorem dX4_weight_6 : decode cX4_weight 6 = .ok (.iaload, 1) := by decide +kernel
theorem dX4_weight_7 : decode cX4_weight 7 = .ok (.imul, 1) := by decide +kernel
theorem dX4_weight_8 : decode cX4_weight 8 = .ok (.aload_n 0, 1) := by decide +kernel
theorem dX4_weight_9 : decode cX4_weight 9 = .ok (.getfield 18, 3) := by decide +kernel
theorem dX4_weight_12 : decode cX4_weight 12 = .ok (.iload_n 1, 1) := by decide +kernel
theorem dX4_weight_13 : decode cX4_weight 13 = .ok (.iaload, 1) := by decide +kernel
theorem dX4_weight_14 : decode cX4_weight 14 = .ok (.imul, 1) := by decide +kernel
theorem dX4_weight_15 : decode cX4_weight 15 = .ok (.ireturn, 1) := by decide +kernel
theorem dX4_worth_0 : decode cX4_worth 0 = .ok (.aload_n 0, 1) := by decide +kernel
theorem dX4_worth_1 : decode cX4_worth 1 = .ok (.getfield 25, 3) := by decide +kernel
theorem dX4_worth_4 : decode cX4_worth 4 = .ok (.iload_n 1, 1) := by decide +kernel
theorem dX4_worth_5 : decode cX4_worth 5 = .ok (.iaload, 1) := by decide +kernel
theorem dX4_worth_6 : decode cX4_worth 6 = .ok (.iconst 4, 1) := by decide +kernel
theorem dX4_worth_7 : decode cX4_worth 7 = .ok (.if_icmp .ne 5, 3) := by decide +kernel
theorem dX4_worth_10 : decode cX4_worth 10 = .ok (.iconst 0, 1) := by decide +kernel
theorem dX4_worth_11 : decode cX4_worth 11 = .ok (.ireturn, 1) := by decide +kernel
theorem dX4_worth_12 : decode cX4_worth 12 = .ok (.aload_n 0, 1) := by decide +kernel
theorem dX4_worth_13 : decode cX4_worth 13 = .ok (.getfield 18, 3) := by decide +kernel
theorem dX4_worth_16 : decode cX4_worth 16 = .ok (.iload_n 1, 1) := by decide +kernel
theorem dX4_worth_17 : decode cX4_worth 17 = .ok (.iaload, 1) := by decide +kernel
theorem dX4_worth_18 : decode cX4_worth 18 = .ok (.bipush 10, 2) := by decide +kernel
theorem dX4_worth_20 : decode cX4_worth 20 = .ok (.aload_n 0, 1) := by decide +kernel
theorem dX4_worth_21 : decode cX4_worth 21 = .ok (.getfield 15, 3) := by decide +kernel
theorem dX4_worth_24 : decode cX4_worth 24 = .ok (.iload_n 1, 1) := by decide +kernel
theorem dX4_worth_25 : decode cX4_worth 25 = .ok (.iaload, 1) := by decide +kernel
theorem dX4_worth_26 : decode cX4_worth 26 = .ok (.isub, 1) := by decide +kernel
theorem dX4_worth_27 : decode cX4_worth 27 = .ok (.imul, 1) := by decide +kernel
theorem dX4_worth_28 : decode cX4_worth 28 = .ok (.istore_n 2, 1) := by decide +kernel
theorem dX4_worth_29 : decode cX4_worth 29 = .ok (.aload_n 0, 1) := by decide +kernel
theorem dX4_worth_30 : decode cX4_worth 30 = .ok (.getfield 25, 3) := by decide +kernel
theorem dX4_worth_33 : decode cX4_worth 33 = .ok (.iload_n 1, 1) := by decide +kernel
theorem dX4_worth_34 : decode cX4_worth 34 = .ok (.iaload, 1) := by decide +kernel
theorem dX4_worth_35 : decode cX4_worth 35 = .ok (.ifCond .ne 7, 3) := by decide +kernel
theorem dX4_worth_38 : decode cX4_worth 38 = .ok (.iload_n 2, 1) := by decide +kernel
theorem dX4_worth_39 : decode cX4_worth 39 = .ok (.goto 6, 3) := by decide +kernel
theorem dX4_worth_42 : decode cX4_worth 42 = .ok (.iconst 3, 1) := by decide +kernel
theorem dX4_worth_43 : decode cX4_worth 43 = .ok (.iload_n 2, 1) := by decide +kernel
theorem dX4_worth_44 : decode cX4_worth 44 = .ok (.imul, 1) := by decide +kernel
theorem dX4_worth_45 : decode cX4_worth 45 = .ok (.istore_n 3, 1) := by decide +kernel
theorem dX4_worth_46 : decode cX4_worth 46 = .ok (.aload_n 0, 1) := by decide +kernel
theorem dX4_worth_47 : decode cX4_worth 47 = .ok (.getfield 21, 3) := by decide +kernel
theorem dX4_worth_50 : decode cX4_worth 50 = .ok (.iload_n 1, 1) := by decide +kernel
theorem dX4_worth_51 : decode cX4_worth 51 = .ok (.baload, 1) := by decide +kernel
theorem dX4_worth_52 : decode cX4_worth 52 = .ok (.ifCond .eq 9, 3) := by decide +kernel
theorem dX4_worth_55 : decode cX4_worth 55 = .ok (.iload_n 3, 1) := by decide +kernel
theorem dX4_worth_56 : decode cX4_worth 56 = .ok (.iconst 5, 1) := by decide +kernel
theorem dX4_worth_57 : decode cX4_worth 57 = .ok (.idiv, 1) := by decide +kernel
theorem dX4_worth_58 : decode cX4_worth 58 = .ok (.goto 4, 3) := by decide +kernel
theorem dX4_worth_61 : decode cX4_worth 61 = .ok (.iload_n 3, 1) := by decide +kernel
theorem dX4_worth_62 : decode cX4_worth 62 = .ok (.ireturn, 1) := by decide +kernel
theorem dX4_dress_0 : decode cX4_dress 0 = .ok (.iload_n 1, 1) := by decide +kernel
theorem dX4_dress_1 : decode cX4_dress 1 = .ok (.istore_n 2, 1) := by decide +kernel
theorem dX4_dress_2 : decode cX4_dress 2 = .ok (.iconst 0, 1) := by decide +kernel
theorem dX4_dress_3 : decode cX4_dress 3 = .ok (.istore_n 3, 1) := by decide +kernel
theorem dX4_dress_4 : decode cX4_dress 4 = .ok (.iload_n 3, 1) := by decide +kernel
theorem dX4_dress_5 : decode cX4_dress 5 = .ok (.aload_n 0, 1) := by decide +kernel
theorem dX4_dress_6 : decode cX4_dress 6 = .ok (.getfield 31, 3) := by decide +kernel
theorem dX4_dress_9 : decode cX4_dress 9 = .ok (.if_icmp .ge 32, 3) := by decide +kernel
theorem dX4_dress_12 : decode cX4_dress 12 = .ok (.iload_n 2, 1) := by decide +kernel
theorem dX4_dress_13 : decode cX4_dress 13 = .ok (.ifCond .le 28, 3) := by decide +kernel
theorem dX4_dress_16 : decode cX4_dress 16 = .ok (.aload_n 0, 1) := by decide +kernel
theorem dX4_dress_17 : decode cX4_dress 17 = .ok (.getfield 25, 3) := by decide +kernel
theorem dX4_dress_20 : decode cX4_dress 20 = .ok (.iload_n 3, 1) := by decide +kernel
theorem dX4_dress_21 : decode cX4_dress 21 = .ok (.iaload, 1) := by decide +kernel
theorem dX4_dress_22 : decode cX4_dress 22 = .ok (.ifCond .ne 13, 3) := by decide +kernel
theorem dX4_dress_25 : decode cX4_dress 25 = .ok (.aload_n 0, 1) := by decide +kernel
theorem dX4_dress_26 : decode cX4_dress 26 = .ok (.getfield 25, 3) := by decide +kernel
theorem dX4_dress_29 : decode cX4_dress 29 = .ok (.iload_n 3, 1) := by decide +kernel
theorem dX4_dress_30 : decode cX4_dress 30 = .ok (.iconst 1, 1) := by decide +kernel
theorem dX4_dress_31 : decode cX4_dress 31 = .ok (.iastore, 1) := by decide +kernel
theorem dX4_dress_32 : decode cX4_dress 32 = .ok (.iinc 2 (-1), 3) := by decide +kernel
theorem dX4_dress_35 : decode cX4_dress 35 = .ok (.iinc 3 1, 3) := by decide +kernel
theorem dX4_dress_38 : decode cX4_dress 38 = .ok (.goto (-34), 3) := by decide +kernel
theorem dX4_dress_41 : decode cX4_dress 41 = .ok (.return_, 1) := by decide +kernel
theorem dX4_putOn_0 : decode cX4_putOn 0 = .ok (.aload_n 0, 1) := by decide +kernel
theorem dX4_putOn_1 : decode cX4_putOn 1 = .ok (.getfield 25, 3) := by decide +kernel
theorem dX4_putOn_4 : decode cX4_putOn 4 = .ok (.iload_n 1, 1) := by decide +kernel
theorem dX4_putOn_5 : decode cX4_putOn 5 = .ok (.iconst 2, 1) := by decide +kernel
theorem dX4_putOn_6 : decode cX4_putOn 6 = .ok (.iastore, 1) := by decide +kernel
theorem dX4_putOn_7 : decode cX4_putOn 7 = .ok (.aload_n 0, 1) := by decide +kernel
theorem dX4_putOn_8 : decode cX4_putOn 8 = .ok (.getfield 28, 3) := by decide +kernel
theorem dX4_putOn_11 : decode cX4_putOn 11 = .ok (.iload_n 1, 1) := by decide +kernel
theorem dX4_putOn_12 : decode cX4_putOn 12 = .ok (.iload_n 2, 1) := by decide +kernel
theorem dX4_putOn_13 : decode cX4_putOn 13 = .ok (.iastore, 1) := by decide +kernel
theorem dX4_putOn_14 : decode cX4_putOn 14 = .ok (.return_, 1) := by decide +kernel
set_option maxRecDepth 20000 in
theorem ggX4_goWith_X4_worth : GoodIn wsX4_goWith wsX4_worth := goodIn_r _ [8, 3, 9, 10, 11, 12, 13, 14, 15, 16, 17, 18] (by decide +kernel) (by decide +kernel)
set_option maxRecDepth 20000 in
theorem gX4_goWith_X4_worth : GoodIn wsX4_goWith (wsV RX4 35 RX4 yX4_worth wsX4_worth) := goodIn_app (goodIn_of _ (by decide +kernel)) ggX4_goWith_X4_worth
theorem dX4_goWith_0 : decode cX4_goWith 0 = .ok (.iconst 0, 1) := by decide +kernel
theorem dX4_goWith_1 : decode cX4_goWith 1 = .ok (.istore_n 2, 1) := by decide +kernel
theorem dX4_goWith_2 : decode cX4_goWith 2 = .ok (.iconst 0, 1) := by decide +kernel
theorem dX4_goWith_3 : decode cX4_goWith 3 = .ok (.istore_n 3, 1) := by decide +kernel
theorem dX4_goWith_4 : decode cX4_goWith 4 = .ok (.iload_n 3, 1) := by decide +kernel
theorem dX4_goWith_5 : decode cX4_goWith 5 = .ok (.aload_n 0, 1) := by decide +kernel
theorem dX4_goWith_6 : decode cX4_goWith 6 = .ok (.getfield 31, 3) := by decide +kernel
theorem dX4_goWith_9 : decode cX4_goWith 9 = .ok (.if_icmp .ge 41, 3) := by decide +kernel
theorem dX4_goWith_12 : decode cX4_goWith 12 = .ok (.aload_n 0, 1) := by decide +kernel
theorem dX4_goWith_13 : decode cX4_goWith 13 = .ok (.getfield 28, 3) := by decide +kernel
