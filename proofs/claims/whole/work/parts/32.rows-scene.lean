theorem dX7_init_0 : decode cX7_init 0 = .ok (.aload_n 0, 1) := by decide +kernel
theorem dX7_init_1 : decode cX7_init 1 = .ok (.invokespecial 3, 3) := by decide +kernel
theorem dX7_init_4 : decode cX7_init 4 = .ok (.aload_n 0, 1) := by decide +kernel
theorem dX7_init_5 : decode cX7_init 5 = .ok (.bipush 8, 2) := by decide +kernel
theorem dX7_init_7 : decode cX7_init 7 = .ok (.newarray .int, 2) := by decide +kernel
theorem dX7_init_9 : decode cX7_init 9 = .ok (.putfield 9, 3) := by decide +kernel
theorem dX7_init_12 : decode cX7_init 12 = .ok (.aload_n 0, 1) := by decide +kernel
theorem dX7_init_13 : decode cX7_init 13 = .ok (.new 15, 3) := by decide +kernel
theorem dX7_init_16 : decode cX7_init 16 = .ok (.dup, 1) := by decide +kernel
theorem dX7_init_17 : decode cX7_init 17 = .ok (.invokespecial 17, 3) := by decide +kernel
theorem dX7_init_20 : decode cX7_init 20 = .ok (.putfield 18, 3) := by decide +kernel
theorem dX7_init_23 : decode cX7_init 23 = .ok (.aload_n 0, 1) := by decide +kernel
theorem dX7_init_24 : decode cX7_init 24 = .ok (.new 22, 3) := by decide +kernel
theorem dX7_init_27 : decode cX7_init 27 = .ok (.dup, 1) := by decide +kernel
theorem dX7_init_28 : decode cX7_init 28 = .ok (.invokespecial 24, 3) := by decide +kernel
theorem dX7_init_31 : decode cX7_init 31 = .ok (.putfield 25, 3) := by decide +kernel
theorem dX7_init_34 : decode cX7_init 34 = .ok (.aload_n 0, 1) := by decide +kernel
theorem dX7_init_35 : decode cX7_init 35 = .ok (.new 29, 3) := by decide +kernel
theorem dX7_init_38 : decode cX7_init 38 = .ok (.dup, 1) := by decide +kernel
theorem dX7_init_39 : decode cX7_init 39 = .ok (.invokespecial 31, 3) := by decide +kernel
theorem dX7_init_42 : decode cX7_init 42 = .ok (.putfield 32, 3) := by decide +kernel
theorem dX7_init_45 : decode cX7_init 45 = .ok (.aload_n 0, 1) := by decide +kernel
theorem dX7_init_46 : decode cX7_init 46 = .ok (.new 36, 3) := by decide +kernel
theorem dX7_init_49 : decode cX7_init 49 = .ok (.dup, 1) := by decide +kernel
theorem dX7_init_50 : decode cX7_init 50 = .ok (.invokespecial 38, 3) := by decide +kernel
theorem dX7_init_53 : decode cX7_init 53 = .ok (.putfield 39, 3) := by decide +kernel
theorem dX7_init_56 : decode cX7_init 56 = .ok (.aload_n 0, 1) := by decide +kernel
theorem dX7_init_57 : decode cX7_init 57 = .ok (.new 43, 3) := by decide +kernel
theorem dX7_init_60 : decode cX7_init 60 = .ok (.dup, 1) := by decide +kernel
theorem dX7_init_61 : decode cX7_init 61 = .ok (.invokespecial 45, 3) := by decide +kernel
theorem dX7_init_64 : decode cX7_init 64 = .ok (.putfield 46, 3) := by decide +kernel
theorem dX7_init_67 : decode cX7_init 67 = .ok (.getstatic 50, 3) := by decide +kernel
theorem dX7_init_70 : decode cX7_init 70 = .ok (.iconst 0, 1) := by decide +kernel
theorem dX7_init_71 : decode cX7_init 71 = .ok (.aload_n 0, 1) := by decide +kernel
theorem dX7_init_72 : decode cX7_init 72 = .ok (.getfield 9, 3) := by decide +kernel
theorem dX7_init_75 : decode cX7_init 75 = .ok (.iconst 0, 1) := by decide +kernel
theorem dX7_init_76 : decode cX7_init 76 = .ok (.bipush 8, 2) := by decide +kernel
theorem dX7_init_78 : decode cX7_init 78 = .ok (.invokestatic 53, 3) := by decide +kernel
theorem dX7_init_81 : decode cX7_init 81 = .ok (.aload_n 0, 1) := by decide +kernel
theorem dX7_init_82 : decode cX7_init 82 = .ok (.invokevirtual 59, 3) := by decide +kernel
theorem dX7_init_85 : decode cX7_init 85 = .ok (.return_, 1) := by decide +kernel
set_option maxRecDepth 20000 in
theorem ggX7_begin_X8_clear : GoodIn wsX7_begin wsX8_clear := goodIn_r _ [10, 11, 12, 13, 14, 15, 16, 17, 18, 19, 20, 51, 52, 53, 54, 55, 56, 57, 58, 59, 60] (by decide +kernel) (by decide +kernel)
set_option maxRecDepth 20000 in
theorem gX7_begin_X8_clear : GoodIn wsX7_begin (wsV RX7 69 RX8 yX8_clear wsX8_clear) := goodIn_app (goodIn_of _ (by decide +kernel)) ggX7_begin_X8_clear
set_option maxRecDepth 20000 in
theorem ggX7_begin_X7_firstPeriod : GoodIn wsX7_begin wsX7_firstPeriod := goodIn_r _ [25, 26, 39, 40, 41, 42, 43, 44, 45] (by decide +kernel) (by decide +kernel)
set_option maxRecDepth 20000 in
theorem gX7_begin_X7_firstPeriod : GoodIn wsX7_begin (wsV RX7 72 RX7 yX7_firstPeriod wsX7_firstPeriod) := goodIn_app (goodIn_of _ (by decide +kernel)) ggX7_begin_X7_firstPeriod
set_option maxRecDepth 20000 in
theorem ggX7_begin_X1_begin : GoodIn wsX7_begin wsX1_begin := goodIn_r _ [31, 32, 33, 34, 35, 36, 37, 38, 61, 62, 63, 64, 65, 66, 67] (by decide +kernel) (by decide +kernel)
set_option maxRecDepth 20000 in
theorem gX7_begin_X1_begin : GoodIn wsX7_begin (wsV RX7 76 RX1 yX1_begin wsX1_begin) := goodIn_app (goodIn_of _ (by decide +kernel)) ggX7_begin_X1_begin
theorem dX7_begin_0 : decode cX7_begin 0 = .ok (.aload_n 0, 1) := by decide +kernel
theorem dX7_begin_1 : decode cX7_begin 1 = .ok (.iconst 0, 1) := by decide +kernel
theorem dX7_begin_2 : decode cX7_begin 2 = .ok (.putfield 62, 3) := by decide +kernel
theorem dX7_begin_5 : decode cX7_begin 5 = .ok (.aload_n 0, 1) := by decide +kernel
theorem dX7_begin_6 : decode cX7_begin 6 = .ok (.getfield 32, 3) := by decide +kernel
theorem dX7_begin_9 : decode cX7_begin 9 = .ok (.iconst 0, 1) := by decide +kernel
theorem dX7_begin_10 : decode cX7_begin 10 = .ok (.putfield 66, 3) := by decide +kernel
theorem dX7_begin_13 : decode cX7_begin 13 = .ok (.aload_n 0, 1) := by decide +kernel
theorem dX7_begin_14 : decode cX7_begin 14 = .ok (.getfield 46, 3) := by decide +kernel
theorem dX7_begin_17 : decode cX7_begin 17 = .ok (.invokevirtual 69, 3) := by decide +kernel
theorem dX7_begin_20 : decode cX7_begin 20 = .ok (.aload_n 0, 1) := by decide +kernel
theorem dX7_begin_21 : decode cX7_begin 21 = .ok (.getfield 39, 3) := by decide +kernel
theorem dX7_begin_24 : decode cX7_begin 24 = .ok (.aload_n 0, 1) := by decide +kernel
theorem dX7_begin_25 : decode cX7_begin 25 = .ok (.invokevirtual 72, 3) := by decide +kernel
theorem dX7_begin_28 : decode cX7_begin 28 = .ok (.invokevirtual 76, 3) := by decide +kernel
theorem dX7_begin_31 : decode cX7_begin 31 = .ok (.return_, 1) := by decide +kernel
set_option maxRecDepth 20000 in
theorem ggX7_copyFrom_X5_copyFrom : GoodIn wsX7_copyFrom wsX5_copyFrom := goodIn_r _ [16, 17, 18, 3, 4, 5, 19, 20, 76, 77, 78] (by decide +kernel) (by decide +kernel)
set_option maxRecDepth 20000 in
theorem gX7_copyFrom_X5_copyFrom : GoodIn wsX7_copyFrom (wsV RX7 79 RX5 yX5_copyFrom wsX5_copyFrom) := goodIn_app (goodIn_of _ (by decide +kernel)) ggX7_copyFrom_X5_copyFrom
set_option maxRecDepth 20000 in
theorem ggX7_copyFrom_X2_copyFrom : GoodIn wsX7_copyFrom wsX2_copyFrom := goodIn_r _ [25, 26, 27, 3, 4, 5, 28, 29, 30, 79, 80, 81, 82] (by decide +kernel) (by decide +kernel)
set_option maxRecDepth 20000 in
theorem gX7_copyFrom_X2_copyFrom : GoodIn wsX7_copyFrom (wsV RX7 83 RX2 yX2_copyFrom wsX2_copyFrom) := goodIn_app (goodIn_of _ (by decide +kernel)) ggX7_copyFrom_X2_copyFrom
set_option maxRecDepth 20000 in
theorem ggX7_copyFrom_X0_copyFrom : GoodIn wsX7_copyFrom wsX0_copyFrom := goodIn_r _ [35, 36, 37, 3, 4, 5, 38, 39, 40, 41, 83, 84, 85, 86, 87] (by decide +kernel) (by decide +kernel)
set_option maxRecDepth 20000 in
theorem gX7_copyFrom_X0_copyFrom : GoodIn wsX7_copyFrom (wsV RX7 86 RX0 yX0_copyFrom wsX0_copyFrom) := goodIn_app (goodIn_of _ (by decide +kernel)) ggX7_copyFrom_X0_copyFrom
set_option maxRecDepth 20000 in
theorem ggX7_copyFrom_X1_copyFrom : GoodIn wsX7_copyFrom wsX1_copyFrom := goodIn_r _ [46, 47, 48, 49, 50, 51, 52, 53, 88, 89, 90, 91, 92, 93, 94] (by decide +kernel) (by decide +kernel)
set_option maxRecDepth 20000 in
theorem gX7_copyFrom_X1_copyFrom : GoodIn wsX7_copyFrom (wsV RX7 89 RX1 yX1_copyFrom wsX1_copyFrom) := goodIn_app (goodIn_of _ (by decide +kernel)) ggX7_copyFrom_X1_copyFrom
set_option maxRecDepth 20000 in
theorem ggX7_copyFrom_X8_copyFrom : GoodIn wsX7_copyFrom wsX8_copyFrom := goodIn_r _ [58, 59, 60, 61, 62, 63, 64, 65, 66, 67, 68, 95, 96, 97, 98, 99, 100, 101, 102, 103, 104] (by decide +kernel) (by decide +kernel)
set_option maxRecDepth 20000 in
theorem gX7_copyFrom_X8_copyFrom : GoodIn wsX7_copyFrom (wsV RX7 92 RX8 yX8_copyFrom wsX8_copyFrom) := goodIn_app (goodIn_of _ (by decide +kernel)) ggX7_copyFrom_X8_copyFrom
theorem dX7_copyFrom_0 : decode cX7_copyFrom 0 = .ok (.aload_n 1, 1) := by decide +kernel
theorem dX7_copyFrom_1 : decode cX7_copyFrom 1 = .ok (.getfield 9, 3) := by decide +kernel
theorem dX7_copyFrom_4 : decode cX7_copyFrom 4 = .ok (.iconst 0, 1) := by decide +kernel
theorem dX7_copyFrom_5 : decode cX7_copyFrom 5 = .ok (.aload_n 0, 1) := by decide +kernel
theorem dX7_copyFrom_6 : decode cX7_copyFrom 6 = .ok (.getfield 9, 3) := by decide +kernel
theorem dX7_copyFrom_9 : decode cX7_copyFrom 9 = .ok (.iconst 0, 1) := by decide +kernel
theorem dX7_copyFrom_10 : decode cX7_copyFrom 10 = .ok (.bipush 8, 2) := by decide +kernel
theorem dX7_copyFrom_12 : decode cX7_copyFrom 12 = .ok (.invokestatic 53, 3) := by decide +kernel
theorem dX7_copyFrom_15 : decode cX7_copyFrom 15 = .ok (.aload_n 0, 1) := by decide +kernel
theorem dX7_copyFrom_16 : decode cX7_copyFrom 16 = .ok (.getfield 18, 3) := by decide +kernel
theorem dX7_copyFrom_19 : decode cX7_copyFrom 19 = .ok (.aload_n 1, 1) := by decide +kernel
theorem dX7_copyFrom_20 : decode cX7_copyFrom 20 = .ok (.getfield 18, 3) := by decide +kernel
theorem dX7_copyFrom_23 : decode cX7_copyFrom 23 = .ok (.invokevirtual 79, 3) := by decide +kernel
theorem dX7_copyFrom_26 : decode cX7_copyFrom 26 = .ok (.aload_n 0, 1) := by decide +kernel
theorem dX7_copyFrom_27 : decode cX7_copyFrom 27 = .ok (.getfield 25, 3) := by decide +kernel
theorem dX7_copyFrom_30 : decode cX7_copyFrom 30 = .ok (.aload_n 1, 1) := by decide +kernel
theorem dX7_copyFrom_31 : decode cX7_copyFrom 31 = .ok (.getfield 25, 3) := by decide +kernel
theorem dX7_copyFrom_34 : decode cX7_copyFrom 34 = .ok (.invokevirtual 83, 3) := by decide +kernel
theorem dX7_copyFrom_37 : decode cX7_copyFrom 37 = .ok (.aload_n 0, 1) := by decide +kernel
theorem dX7_copyFrom_38 : decode cX7_copyFrom 38 = .ok (.getfield 32, 3) := by decide +kernel
theorem dX7_copyFrom_41 : decode cX7_copyFrom 41 = .ok (.aload_n 1, 1) := by decide +kernel
theorem dX7_copyFrom_42 : decode cX7_copyFrom 42 = .ok (.getfield 32, 3) := by decide +kernel
theorem dX7_copyFrom_45 : decode cX7_copyFrom 45 = .ok (.invokevirtual 86, 3) := by decide +kernel
theorem dX7_copyFrom_48 : decode cX7_copyFrom 48 = .ok (.aload_n 0, 1) := by decide +kernel
theorem dX7_copyFrom_49 : decode cX7_copyFrom 49 = .ok (.getfield 39, 3) := by decide +kernel
theorem dX7_copyFrom_52 : decode cX7_copyFrom 52 = .ok (.aload_n 1, 1) := by decide +kernel
theorem dX7_copyFrom_53 : decode cX7_copyFrom 53 = .ok (.getfield 39, 3) := by decide +kernel
theorem dX7_copyFrom_56 : decode cX7_copyFrom 56 = .ok (.invokevirtual 89, 3) := by decide +kernel
theorem dX7_copyFrom_59 : decode cX7_copyFrom 59 = .ok (.aload_n 0, 1) := by decide +kernel
theorem dX7_copyFrom_60 : decode cX7_copyFrom 60 = .ok (.getfield 46, 3) := by decide +kernel
theorem dX7_copyFrom_63 : decode cX7_copyFrom 63 = .ok (.aload_n 1, 1) := by decide +kernel
theorem dX7_copyFrom_64 : decode cX7_copyFrom 64 = .ok (.getfield 46, 3) := by decide +kernel
theorem dX7_copyFrom_67 : decode cX7_copyFrom 67 = .ok (.invokevirtual 92, 3) := by decide +kernel
theorem dX7_copyFrom_70 : decode cX7_copyFrom 70 = .ok (.aload_n 0, 1) := by decide +kernel
theorem dX7_copyFrom_71 : decode cX7_copyFrom 71 = .ok (.aload_n 1, 1) := by decide +kernel
theorem dX7_copyFrom_72 : decode cX7_copyFrom 72 = .ok (.getfield 62, 3) := by decide +kernel
theorem dX7_copyFrom_75 : decode cX7_copyFrom 75 = .ok (.putfield 62, 3) := by decide +kernel
theorem dX7_copyFrom_78 : decode cX7_copyFrom 78 = .ok (.return_, 1) := by decide +kernel
theorem dX7_firstPeriod_0 : decode cX7_firstPeriod 0 = .ok (.iconst 4, 1) := by decide +kernel
theorem dX7_firstPeriod_1 : decode cX7_firstPeriod 1 = .ok (.aload_n 0, 1) := by decide +kernel
theorem dX7_firstPeriod_2 : decode cX7_firstPeriod 2 = .ok (.getfield 9, 3) := by decide +kernel
theorem dX7_firstPeriod_5 : decode cX7_firstPeriod 5 = .ok (.iconst 0, 1) := by decide +kernel
theorem dX7_firstPeriod_6 : decode cX7_firstPeriod 6 = .ok (.iaload, 1) := by decide +kernel
theorem dX7_firstPeriod_7 : decode cX7_firstPeriod 7 = .ok (.imul, 1) := by decide +kernel
theorem dX7_firstPeriod_8 : decode cX7_firstPeriod 8 = .ok (.ireturn, 1) := by decide +kernel
theorem dX7_isHeard_0 : decode cX7_isHeard 0 = .ok (.iload_n 1, 1) := by decide +kernel
theorem dX7_isHeard_1 : decode cX7_isHeard 1 = .ok (.aload_n 0, 1) := by decide +kernel
theorem dX7_isHeard_2 : decode cX7_isHeard 2 = .ok (.getfield 46, 3) := by decide +kernel
theorem dX7_isHeard_5 : decode cX7_isHeard 5 = .ok (.getfield 95, 3) := by decide +kernel
theorem dX7_isHeard_8 : decode cX7_isHeard 8 = .ok (.if_icmp .ge 7, 3) := by decide +kernel
theorem dX7_isHeard_11 : decode cX7_isHeard 11 = .ok (.iconst 1, 1) := by decide +kernel
theorem dX7_isHeard_12 : decode cX7_isHeard 12 = .ok (.goto 4, 3) := by decide +kernel
theorem dX7_isHeard_15 : decode cX7_isHeard 15 = .ok (.iconst 0, 1) := by decide +kernel
theorem dX7_isHeard_16 : decode cX7_isHeard 16 = .ok (.ireturn, 1) := by decide +kernel
set_option maxRecDepth 20000 in
theorem ggX7_runTo_X5_timeOf : GoodIn wsX7_runTo wsX5_timeOf := goodIn_r _ [15, 16, 17, 18, 19, 14, 20, 21, 156, 157, 158] (by decide +kernel) (by decide +kernel)
set_option maxRecDepth 20000 in
theorem gX7_runTo_X5_timeOf : GoodIn wsX7_runTo (wsV RX7 99 RX5 yX5_timeOf wsX5_timeOf) := goodIn_app (goodIn_of _ (by decide +kernel)) ggX7_runTo_X5_timeOf
set_option maxRecDepth 20000 in
theorem ggX7_runTo_X7_isWindowOver : GoodIn wsX7_runTo wsX7_isWindowOver := goodIn_r _ [26, 27, 28, 29, 30, 31, 25, 32, 33, 34, 35, 36, 37, 38, 139, 140, 141, 142, 143, 144, 145, 159, 160, 161, 162, 163, 164, 165] (by decide +kernel) (by decide +kernel)
set_option maxRecDepth 20000 in
theorem gX7_runTo_X7_isWindowOver : GoodIn wsX7_runTo (wsV RX7 110 RX7 yX7_isWindowOver wsX7_isWindowOver) := goodIn_app (goodIn_of _ (by decide +kernel)) ggX7_runTo_X7_isWindowOver
set_option maxRecDepth 20000 in
theorem ggX7_runTo_X7_holdBlow : GoodIn wsX7_runTo wsX7_holdBlow := goodIn_r _ [42, 27, 28, 33, 43, 1, 44, 45, 34, 46, 47, 48, 49, 25, 50, 51, 52, 53, 54, 55, 56, 57, 58, 59, 60, 61, 62, 63, 64, 65, 66, 67, 68, 69, 70, 71, 72, 73, 74, 75, 76, 77, 139, 140, 141, 142, 143, 144, 145, 159, 160, 161, 162, 163, 164, 165, 146, 147, 148, 149, 150, 151, 152, 153, 154, 155, 166, 167, 168, 169, 170] (by decide +kernel) (by decide +kernel)
set_option maxRecDepth 20000 in
theorem gX7_runTo_X7_holdBlow : GoodIn wsX7_runTo (wsV RX7 114 RX7 yX7_holdBlow wsX7_holdBlow) := goodIn_app (goodIn_of _ (by decide +kernel)) ggX7_runTo_X7_holdBlow
set_option maxRecDepth 20000 in
theorem ggX7_runTo_X7_hearBeat : GoodIn wsX7_runTo wsX7_hearBeat := goodIn_r _ [81, 3, 27, 45, 1, 82, 2, 28, 11, 12, 13, 14, 15, 16, 17, 18, 19, 20, 21, 83, 84, 85, 25, 86, 29, 30, 31, 32, 33, 34, 35, 36, 37, 38, 87, 88, 89, 90, 46, 91, 92, 93, 94, 95, 96, 97, 98, 99, 100, 101, 102, 103, 104, 105, 106, 107, 108, 109, 110, 64, 65, 66, 67, 68, 69, 70, 71, 72, 73, 74, 75, 76, 77, 111, 112, 113, 114, 115, 116, 47, 48, 49, 50, 51, 52, 53, 54, 55, 56, 57, 58, 117, 118, 119, 120, 121, 122, 8, 123, 43, 124, 125, 126, 127, 128, 6, 7, 9, 129, 130, 131, 132, 133, 134, 135, 136, 137, 138, 139, 140, 141, 142, 143, 144, 145, 159, 160, 161, 162, 163, 164, 165, 146, 147, 148, 149, 150, 151, 152, 153, 154, 155, 156, 157, 158, 166, 167, 168, 169, 170, 171, 172, 173, 174] (by decide +kernel) (by decide +kernel)
set_option maxRecDepth 20000 in
theorem gX7_runTo_X7_hearBeat : GoodIn wsX7_runTo (wsV RX7 117 RX7 yX7_hearBeat wsX7_hearBeat) := goodIn_app (goodIn_of _ (by decide +kernel)) ggX7_runTo_X7_hearBeat
theorem dX7_runTo_0 : decode cX7_runTo 0 = .ok (.iconst 0, 1) := by decide +kernel
theorem dX7_runTo_1 : decode cX7_runTo 1 = .ok (.istore_n 2, 1) := by decide +kernel
theorem dX7_runTo_2 : decode cX7_runTo 2 = .ok (.iload_n 2, 1) := by decide +kernel
theorem dX7_runTo_3 : decode cX7_runTo 3 = .ok (.sipush 2000, 3) := by decide +kernel
theorem dX7_runTo_6 : decode cX7_runTo 6 = .ok (.if_icmp .ge 83, 3) := by decide +kernel
theorem dX7_runTo_9 : decode cX7_runTo 9 = .ok (.aload_n 0, 1) := by decide +kernel
theorem dX7_runTo_10 : decode cX7_runTo 10 = .ok (.getfield 46, 3) := by decide +kernel
theorem dX7_runTo_13 : decode cX7_runTo 13 = .ok (.getfield 95, 3) := by decide +kernel
theorem dX7_runTo_16 : decode cX7_runTo 16 = .ok (.aload_n 0, 1) := by decide +kernel
theorem dX7_runTo_17 : decode cX7_runTo 17 = .ok (.getfield 18, 3) := by decide +kernel
theorem dX7_runTo_20 : decode cX7_runTo 20 = .ok (.getfield 98, 3) := by decide +kernel
theorem dX7_runTo_23 : decode cX7_runTo 23 = .ok (.if_icmp .ge 20, 3) := by decide +kernel
theorem dX7_runTo_26 : decode cX7_runTo 26 = .ok (.aload_n 0, 1) := by decide +kernel
theorem dX7_runTo_27 : decode cX7_runTo 27 = .ok (.getfield 18, 3) := by decide +kernel
theorem dX7_runTo_30 : decode cX7_runTo 30 = .ok (.aload_n 0, 1) := by decide +kernel
theorem dX7_runTo_31 : decode cX7_runTo 31 = .ok (.getfield 46, 3) := by decide +kernel
theorem dX7_runTo_34 : decode cX7_runTo 34 = .ok (.getfield 95, 3) := by decide +kernel
theorem dX7_runTo_37 : decode cX7_runTo 37 = .ok (.invokevirtual 99, 3) := by decide +kernel
theorem dX7_runTo_40 : decode cX7_runTo 40 = .ok (.goto 5, 3) := by decide +kernel
theorem dX7_runTo_43 : decode cX7_runTo 43 = .ok (.ldc 103, 2) := by decide +kernel
theorem dX7_runTo_45 : decode cX7_runTo 45 = .ok (.istore_n 3, 1) := by decide +kernel
theorem dX7_runTo_46 : decode cX7_runTo 46 = .ok (.aload_n 0, 1) := by decide +kernel
theorem dX7_runTo_47 : decode cX7_runTo 47 = .ok (.iconst 4, 1) := by decide +kernel
theorem dX7_runTo_48 : decode cX7_runTo 48 = .ok (.iload_n 3, 1) := by decide +kernel
theorem dX7_runTo_49 : decode cX7_runTo 49 = .ok (.iload_n 1, 1) := by decide +kernel
theorem dX7_runTo_50 : decode cX7_runTo 50 = .ok (.invokestatic 104, 3) := by decide +kernel
theorem dX7_runTo_53 : decode cX7_runTo 53 = .ok (.imul, 1) := by decide +kernel
theorem dX7_runTo_54 : decode cX7_runTo 54 = .ok (.invokevirtual 110, 3) := by decide +kernel
theorem dX7_runTo_57 : decode cX7_runTo 57 = .ok (.ifCond .eq 10, 3) := by decide +kernel
theorem dX7_runTo_60 : decode cX7_runTo 60 = .ok (.aload_n 0, 1) := by decide +kernel
theorem dX7_runTo_61 : decode cX7_runTo 61 = .ok (.invokevirtual 114, 3) := by decide +kernel
theorem dX7_runTo_64 : decode cX7_runTo 64 = .ok (.goto 19, 3) := by decide +kernel
theorem dX7_runTo_67 : decode cX7_runTo 67 = .ok (.iload_n 3, 1) := by decide +kernel
theorem dX7_runTo_68 : decode cX7_runTo 68 = .ok (.iload_n 1, 1) := by decide +kernel
theorem dX7_runTo_69 : decode cX7_runTo 69 = .ok (.if_icmp .gt 20, 3) := by decide +kernel
theorem dX7_runTo_72 : decode cX7_runTo 72 = .ok (.aload_n 0, 1) := by decide +kernel
theorem dX7_runTo_73 : decode cX7_runTo 73 = .ok (.aload_n 0, 1) := by decide +kernel
theorem dX7_runTo_74 : decode cX7_runTo 74 = .ok (.getfield 46, 3) := by decide +kernel
theorem dX7_runTo_77 : decode cX7_runTo 77 = .ok (.getfield 95, 3) := by decide +kernel
theorem dX7_runTo_80 : decode cX7_runTo 80 = .ok (.invokevirtual 117, 3) := by decide +kernel
theorem dX7_runTo_83 : decode cX7_runTo 83 = .ok (.iinc 2 1, 3) := by decide +kernel
theorem dX7_runTo_86 : decode cX7_runTo 86 = .ok (.goto (-84), 3) := by decide +kernel
theorem dX7_runTo_89 : decode cX7_runTo 89 = .ok (.aload_n 0, 1) := by decide +kernel
theorem dX7_runTo_90 : decode cX7_runTo 90 = .ok (.iload_n 1, 1) := by decide +kernel
theorem dX7_runTo_91 : decode cX7_runTo 91 = .ok (.putfield 62, 3) := by decide +kernel
theorem dX7_runTo_94 : decode cX7_runTo 94 = .ok (.return_, 1) := by decide +kernel
set_option maxRecDepth 20000 in
theorem ggX7_isWindowOver_X7_halfWindow : GoodIn wsX7_isWindowOver wsX7_halfWindow := goodIn_r _ [7, 1, 8, 9, 10, 11, 12, 13, 14, 15, 16, 17, 18, 19, 20, 21, 22, 23, 24, 25, 26, 27] (by decide +kernel) (by decide +kernel)
set_option maxRecDepth 20000 in
theorem gX7_isWindowOver_X7_halfWindow : GoodIn wsX7_isWindowOver (wsV RX7 123 RX7 yX7_halfWindow wsX7_halfWindow) := goodIn_app (goodIn_of _ (by decide +kernel)) ggX7_isWindowOver_X7_halfWindow
theorem dX7_isWindowOver_0 : decode cX7_isWindowOver 0 = .ok (.aload_n 0, 1) := by decide +kernel
theorem dX7_isWindowOver_1 : decode cX7_isWindowOver 1 = .ok (.getfield 39, 3) := by decide +kernel
theorem dX7_isWindowOver_4 : decode cX7_isWindowOver 4 = .ok (.getfield 120, 3) := by decide +kernel
theorem dX7_isWindowOver_7 : decode cX7_isWindowOver 7 = .ok (.bipush (-6), 2) := by decide +kernel
theorem dX7_isWindowOver_9 : decode cX7_isWindowOver 9 = .ok (.if_icmp .eq 25, 3) := by decide +kernel
theorem dX7_isWindowOver_12 : decode cX7_isWindowOver 12 = .ok (.aload_n 0, 1) := by decide +kernel
theorem dX7_isWindowOver_13 : decode cX7_isWindowOver 13 = .ok (.getfield 39, 3) := by decide +kernel
theorem dX7_isWindowOver_16 : decode cX7_isWindowOver 16 = .ok (.getfield 120, 3) := by decide +kernel
theorem dX7_isWindowOver_19 : decode cX7_isWindowOver 19 = .ok (.aload_n 0, 1) := by decide +kernel
theorem dX7_isWindowOver_20 : decode cX7_isWindowOver 20 = .ok (.invokevirtual 123, 3) := by decide +kernel
theorem dX7_isWindowOver_23 : decode cX7_isWindowOver 23 = .ok (.iadd, 1) := by decide +kernel
theorem dX7_isWindowOver_24 : decode cX7_isWindowOver 24 = .ok (.iconst 1, 1) := by decide +kernel
theorem dX7_isWindowOver_25 : decode cX7_isWindowOver 25 = .ok (.iadd, 1) := by decide +kernel
theorem dX7_isWindowOver_26 : decode cX7_isWindowOver 26 = .ok (.iload_n 1, 1) := by decide +kernel
theorem dX7_isWindowOver_27 : decode cX7_isWindowOver 27 = .ok (.if_icmp .gt 7, 3) := by decide +kernel
theorem dX7_isWindowOver_30 : decode cX7_isWindowOver 30 = .ok (.iconst 1, 1) := by decide +kernel
theorem dX7_isWindowOver_31 : decode cX7_isWindowOver 31 = .ok (.goto 4, 3) := by decide +kernel
theorem dX7_isWindowOver_34 : decode cX7_isWindowOver 34 = .ok (.iconst 0, 1) := by decide +kernel
theorem dX7_isWindowOver_35 : decode cX7_isWindowOver 35 = .ok (.ireturn, 1) := by decide +kernel
set_option maxRecDepth 20000 in
theorem ggX7_halfWindow_J9_floorDiv_7cf53 : GoodIn wsX7_halfWindow wsJ9_floorDiv_7cf53 := goodIn_r _ [7] (by decide +kernel) (by decide +kernel)
set_option maxRecDepth 20000 in
theorem gX7_halfWindow_J9_floorDiv_7cf53 : GoodIn wsX7_halfWindow (va_wsS RX7 129 yJ9_floorDiv_7cf53 wsJ9_floorDiv_7cf53) := goodIn_app (goodIn_of _ (by decide +kernel)) ggX7_halfWindow_J9_floorDiv_7cf53
theorem dX7_halfWindow_0 : decode cX7_halfWindow 0 = .ok (.aload_n 0, 1) := by decide +kernel
theorem dX7_halfWindow_1 : decode cX7_halfWindow 1 = .ok (.getfield 39, 3) := by decide +kernel
theorem dX7_halfWindow_4 : decode cX7_halfWindow 4 = .ok (.getfield 126, 3) := by decide +kernel
theorem dX7_halfWindow_7 : decode cX7_halfWindow 7 = .ok (.aload_n 0, 1) := by decide +kernel
theorem dX7_halfWindow_8 : decode cX7_halfWindow 8 = .ok (.getfield 9, 3) := by decide +kernel
theorem dX7_halfWindow_11 : decode cX7_halfWindow 11 = .ok (.iconst 1, 1) := by decide +kernel
theorem dX7_halfWindow_12 : decode cX7_halfWindow 12 = .ok (.iaload, 1) := by decide +kernel
theorem dX7_halfWindow_13 : decode cX7_halfWindow 13 = .ok (.imul, 1) := by decide +kernel
theorem dX7_halfWindow_14 : decode cX7_halfWindow 14 = .ok (.bipush 100, 2) := by decide +kernel
theorem dX7_halfWindow_16 : decode cX7_halfWindow 16 = .ok (.invokestatic 129, 3) := by decide +kernel
theorem dX7_halfWindow_19 : decode cX7_halfWindow 19 = .ok (.ireturn, 1) := by decide +kernel
set_option maxRecDepth 20000 in
theorem ggX7_fateAt_X7_halfWindow : GoodIn wsX7_fateAt wsX7_halfWindow := goodIn_r _ [7, 1, 8, 9, 10, 11, 12, 13, 14, 15, 16, 17, 18, 19, 20, 21, 22, 23, 24, 25, 26, 27] (by decide +kernel) (by decide +kernel)
set_option maxRecDepth 20000 in
theorem gX7_fateAt_X7_halfWindow : GoodIn wsX7_fateAt (wsV RX7 123 RX7 yX7_halfWindow wsX7_halfWindow) := goodIn_app (goodIn_of _ (by decide +kernel)) ggX7_fateAt_X7_halfWindow
theorem dX7_fateAt_0 : decode cX7_fateAt 0 = .ok (.aload_n 0, 1) := by decide +kernel
theorem dX7_fateAt_1 : decode cX7_fateAt 1 = .ok (.getfield 39, 3) := by decide +kernel
theorem dX7_fateAt_4 : decode cX7_fateAt 4 = .ok (.getfield 120, 3) := by decide +kernel
theorem dX7_fateAt_7 : decode cX7_fateAt 7 = .ok (.bipush (-6), 2) := by decide +kernel
theorem dX7_fateAt_9 : decode cX7_fateAt 9 = .ok (.if_icmp .ne 5, 3) := by decide +kernel
theorem dX7_fateAt_12 : decode cX7_fateAt 12 = .ok (.iconst 3, 1) := by decide +kernel
theorem dX7_fateAt_13 : decode cX7_fateAt 13 = .ok (.ireturn, 1) := by decide +kernel
theorem dX7_fateAt_14 : decode cX7_fateAt 14 = .ok (.iload_n 1, 1) := by decide +kernel
theorem dX7_fateAt_15 : decode cX7_fateAt 15 = .ok (.aload_n 0, 1) := by decide +kernel
theorem dX7_fateAt_16 : decode cX7_fateAt 16 = .ok (.getfield 39, 3) := by decide +kernel
theorem dX7_fateAt_19 : decode cX7_fateAt 19 = .ok (.getfield 120, 3) := by decide +kernel
theorem dX7_fateAt_22 : decode cX7_fateAt 22 = .ok (.isub, 1) := by decide +kernel
theorem dX7_fateAt_23 : decode cX7_fateAt 23 = .ok (.aload_n 0, 1) := by decide +kernel
theorem dX7_fateAt_24 : decode cX7_fateAt 24 = .ok (.invokevirtual 123, 3) := by decide +kernel
theorem dX7_fateAt_27 : decode cX7_fateAt 27 = .ok (.ineg, 1) := by decide +kernel
theorem dX7_fateAt_28 : decode cX7_fateAt 28 = .ok (.if_icmp .ge 7, 3) := by decide +kernel
theorem dX7_fateAt_31 : decode cX7_fateAt 31 = .ok (.iconst 1, 1) := by decide +kernel
theorem dX7_fateAt_32 : decode cX7_fateAt 32 = .ok (.goto 4, 3) := by decide +kernel
theorem dX7_fateAt_35 : decode cX7_fateAt 35 = .ok (.iconst 2, 1) := by decide +kernel
theorem dX7_fateAt_36 : decode cX7_fateAt 36 = .ok (.ireturn, 1) := by decide +kernel
set_option maxRecDepth 20000 in
theorem ggX7_hearBeat_X5_timeOf : GoodIn wsX7_hearBeat wsX5_timeOf := goodIn_r _ [12, 13, 14, 15, 16, 11, 17, 18, 142, 143, 144] (by decide +kernel) (by decide +kernel)
set_option maxRecDepth 20000 in
theorem gX7_hearBeat_X5_timeOf : GoodIn wsX7_hearBeat (wsV RX7 99 RX5 yX5_timeOf wsX5_timeOf) := goodIn_app (goodIn_of _ (by decide +kernel)) ggX7_hearBeat_X5_timeOf
set_option maxRecDepth 20000 in
theorem ggX7_hearBeat_X7_fateAt : GoodIn wsX7_hearBeat wsX7_fateAt := goodIn_r _ [23, 2, 7, 24, 25, 26, 22, 27, 28, 29, 30, 31, 32, 33, 118, 119, 120, 121, 122, 123, 124, 125, 126, 127, 128, 129, 130, 131] (by decide +kernel) (by decide +kernel)
set_option maxRecDepth 20000 in
theorem gX7_hearBeat_X7_fateAt : GoodIn wsX7_hearBeat (wsV RX7 138 RX7 yX7_fateAt wsX7_fateAt) := goodIn_app (goodIn_of _ (by decide +kernel)) ggX7_hearBeat_X7_fateAt
set_option maxRecDepth 20000 in
theorem ggX7_hearBeat_X7_strikeWithBeat : GoodIn wsX7_hearBeat wsX7_strikeWithBeat := goodIn_r _ [37, 2, 28, 7, 1, 38, 39, 40, 41, 3, 42, 43, 44, 11, 45, 46, 14, 15, 16, 17, 18, 47, 48, 49, 50, 51, 52, 53, 54, 55, 56, 57, 58, 59, 60, 61, 62, 63, 64, 65, 66, 67, 68, 69, 70, 71, 72, 118, 119, 120, 121, 122, 123, 124, 125, 126, 127, 128, 129, 130, 131, 145, 146, 147, 148, 149, 142, 143, 144, 150, 151, 152, 153] (by decide +kernel) (by decide +kernel)
set_option maxRecDepth 20000 in
theorem gX7_hearBeat_X7_strikeWithBeat : GoodIn wsX7_hearBeat (wsV RX7 141 RX7 yX7_strikeWithBeat wsX7_strikeWithBeat) := goodIn_app (goodIn_of _ (by decide +kernel)) ggX7_hearBeat_X7_strikeWithBeat
set_option maxRecDepth 20000 in
theorem ggX7_hearBeat_X7_passOver : GoodIn wsX7_hearBeat wsX7_passOver := goodIn_r _ [76, 4, 77, 41, 78, 47, 48, 49, 50, 51, 52, 53, 54, 55, 56, 57, 58, 79, 80, 81, 22, 82, 2, 83, 84, 3, 29, 85, 86, 87, 88, 89, 90, 118, 119, 120, 121, 122, 123, 124, 132, 133, 134, 135, 136, 137, 138, 139, 140, 141, 150, 151, 152, 153, 125, 126, 127, 128, 129, 130, 131] (by decide +kernel) (by decide +kernel)
set_option maxRecDepth 20000 in
theorem gX7_hearBeat_X7_passOver : GoodIn wsX7_hearBeat (wsV RX7 145 RX7 yX7_passOver wsX7_passOver) := goodIn_app (goodIn_of _ (by decide +kernel)) ggX7_hearBeat_X7_passOver
set_option maxRecDepth 20000 in
theorem ggX7_hearBeat_X7_takeBeat : GoodIn wsX7_hearBeat wsX7_takeBeat := goodIn_r _ [94, 2, 7, 95, 96, 97, 98, 28, 29, 99, 4, 100, 1, 38, 39, 40, 41, 78, 3, 30, 31, 32, 33, 101, 102, 103, 22, 104, 105, 106, 107, 108, 109, 110, 42, 43, 44, 11, 45, 46, 14, 15, 16, 17, 18, 111, 112, 113, 114, 115, 116, 117, 47, 48, 49, 50, 51, 52, 53, 54, 55, 56, 57, 58, 79, 80, 81, 82, 83, 84, 85, 86, 87, 88, 89, 90, 59, 60, 61, 62, 63, 64, 65, 66, 67, 68, 69, 70, 71, 72, 118, 119, 120, 121, 122, 123, 124, 125, 126, 127, 128, 129, 130, 131, 132, 133, 134, 135, 136, 137, 138, 139, 140, 141, 145, 146, 147, 148, 149, 142, 143, 144, 150, 151, 152, 153] (by decide +kernel) (by decide +kernel)
set_option maxRecDepth 20000 in
theorem gX7_hearBeat_X7_takeBeat : GoodIn wsX7_hearBeat (wsV RX7 148 RX7 yX7_takeBeat wsX7_takeBeat) := goodIn_app (goodIn_of _ (by decide +kernel)) ggX7_hearBeat_X7_takeBeat
theorem dX7_hearBeat_0 : decode cX7_hearBeat 0 = .ok (.iconst 4, 1) := by decide +kernel
theorem dX7_hearBeat_1 : decode cX7_hearBeat 1 = .ok (.aload_n 0, 1) := by decide +kernel
theorem dX7_hearBeat_2 : decode cX7_hearBeat 2 = .ok (.getfield 18, 3) := by decide +kernel
theorem dX7_hearBeat_5 : decode cX7_hearBeat 5 = .ok (.iload_n 1, 1) := by decide +kernel
theorem dX7_hearBeat_6 : decode cX7_hearBeat 6 = .ok (.invokevirtual 99, 3) := by decide +kernel
theorem dX7_hearBeat_9 : decode cX7_hearBeat 9 = .ok (.imul, 1) := by decide +kernel
theorem dX7_hearBeat_10 : decode cX7_hearBeat 10 = .ok (.istore_n 2, 1) := by decide +kernel
theorem dX7_hearBeat_11 : decode cX7_hearBeat 11 = .ok (.aload_n 0, 1) := by decide +kernel
theorem dX7_hearBeat_12 : decode cX7_hearBeat 12 = .ok (.getfield 39, 3) := by decide +kernel
theorem dX7_hearBeat_15 : decode cX7_hearBeat 15 = .ok (.getfield 132, 3) := by decide +kernel
theorem dX7_hearBeat_18 : decode cX7_hearBeat 18 = .ok (.iconst 1, 1) := by decide +kernel
theorem dX7_hearBeat_19 : decode cX7_hearBeat 19 = .ok (.if_icmp .ne 16, 3) := by decide +kernel
theorem dX7_hearBeat_22 : decode cX7_hearBeat 22 = .ok (.aload_n 0, 1) := by decide +kernel
theorem dX7_hearBeat_23 : decode cX7_hearBeat 23 = .ok (.getfield 46, 3) := by decide +kernel
theorem dX7_hearBeat_26 : decode cX7_hearBeat 26 = .ok (.dup, 1) := by decide +kernel
theorem dX7_hearBeat_27 : decode cX7_hearBeat 27 = .ok (.getfield 135, 3) := by decide +kernel
theorem dX7_hearBeat_30 : decode cX7_hearBeat 30 = .ok (.iconst 1, 1) := by decide +kernel
theorem dX7_hearBeat_31 : decode cX7_hearBeat 31 = .ok (.iadd, 1) := by decide +kernel
theorem dX7_hearBeat_32 : decode cX7_hearBeat 32 = .ok (.putfield 135, 3) := by decide +kernel
theorem dX7_hearBeat_35 : decode cX7_hearBeat 35 = .ok (.aload_n 0, 1) := by decide +kernel
theorem dX7_hearBeat_36 : decode cX7_hearBeat 36 = .ok (.getfield 46, 3) := by decide +kernel
theorem dX7_hearBeat_39 : decode cX7_hearBeat 39 = .ok (.dup, 1) := by decide +kernel
theorem dX7_hearBeat_40 : decode cX7_hearBeat 40 = .ok (.getfield 95, 3) := by decide +kernel
theorem dX7_hearBeat_43 : decode cX7_hearBeat 43 = .ok (.iconst 1, 1) := by decide +kernel
theorem dX7_hearBeat_44 : decode cX7_hearBeat 44 = .ok (.iadd, 1) := by decide +kernel
theorem dX7_hearBeat_45 : decode cX7_hearBeat 45 = .ok (.putfield 95, 3) := by decide +kernel
theorem dX7_hearBeat_48 : decode cX7_hearBeat 48 = .ok (.aload_n 0, 1) := by decide +kernel
theorem dX7_hearBeat_49 : decode cX7_hearBeat 49 = .ok (.iload_n 2, 1) := by decide +kernel
theorem dX7_hearBeat_50 : decode cX7_hearBeat 50 = .ok (.invokevirtual 138, 3) := by decide +kernel
theorem dX7_hearBeat_53 : decode cX7_hearBeat 53 = .ok (.lookupswitch 53 #[(1, 36), (3, 27)], 27) := by decide +kernel
theorem dX7_hearBeat_80 : decode cX7_hearBeat 80 = .ok (.aload_n 0, 1) := by decide +kernel
theorem dX7_hearBeat_81 : decode cX7_hearBeat 81 = .ok (.iload_n 1, 1) := by decide +kernel
theorem dX7_hearBeat_82 : decode cX7_hearBeat 82 = .ok (.iload_n 2, 1) := by decide +kernel
theorem dX7_hearBeat_83 : decode cX7_hearBeat 83 = .ok (.invokevirtual 141, 3) := by decide +kernel
theorem dX7_hearBeat_86 : decode cX7_hearBeat 86 = .ok (.goto 34, 3) := by decide +kernel
theorem dX7_hearBeat_89 : decode cX7_hearBeat 89 = .ok (.aload_n 0, 1) := by decide +kernel
theorem dX7_hearBeat_90 : decode cX7_hearBeat 90 = .ok (.iload_n 1, 1) := by decide +kernel
theorem dX7_hearBeat_91 : decode cX7_hearBeat 91 = .ok (.iload_n 2, 1) := by decide +kernel
theorem dX7_hearBeat_92 : decode cX7_hearBeat 92 = .ok (.aload_n 0, 1) := by decide +kernel
theorem dX7_hearBeat_93 : decode cX7_hearBeat 93 = .ok (.getfield 39, 3) := by decide +kernel
theorem dX7_hearBeat_96 : decode cX7_hearBeat 96 = .ok (.getfield 120, 3) := by decide +kernel
theorem dX7_hearBeat_99 : decode cX7_hearBeat 99 = .ok (.isub, 1) := by decide +kernel
theorem dX7_hearBeat_100 : decode cX7_hearBeat 100 = .ok (.invokevirtual 145, 3) := by decide +kernel
theorem dX7_hearBeat_103 : decode cX7_hearBeat 103 = .ok (.goto 17, 3) := by decide +kernel
theorem dX7_hearBeat_106 : decode cX7_hearBeat 106 = .ok (.aload_n 0, 1) := by decide +kernel
theorem dX7_hearBeat_107 : decode cX7_hearBeat 107 = .ok (.iload_n 1, 1) := by decide +kernel
theorem dX7_hearBeat_108 : decode cX7_hearBeat 108 = .ok (.iload_n 2, 1) := by decide +kernel
theorem dX7_hearBeat_109 : decode cX7_hearBeat 109 = .ok (.aload_n 0, 1) := by decide +kernel
theorem dX7_hearBeat_110 : decode cX7_hearBeat 110 = .ok (.getfield 39, 3) := by decide +kernel
theorem dX7_hearBeat_113 : decode cX7_hearBeat 113 = .ok (.getfield 120, 3) := by decide +kernel
theorem dX7_hearBeat_116 : decode cX7_hearBeat 116 = .ok (.isub, 1) := by decide +kernel
theorem dX7_hearBeat_117 : decode cX7_hearBeat 117 = .ok (.invokevirtual 148, 3) := by decide +kernel
theorem dX7_hearBeat_120 : decode cX7_hearBeat 120 = .ok (.return_, 1) := by decide +kernel
set_option maxRecDepth 20000 in
theorem ggX7_strikeWithBeat_X5_numberOf : GoodIn wsX7_strikeWithBeat wsX5_numberOf := goodIn_r _ [14, 15, 16, 17, 18, 13, 19, 20, 66, 67, 68] (by decide +kernel) (by decide +kernel)
set_option maxRecDepth 20000 in
theorem gX7_strikeWithBeat_X5_numberOf : GoodIn wsX7_strikeWithBeat (wsV RX7 151 RX5 yX5_numberOf wsX5_numberOf) := goodIn_app (goodIn_of _ (by decide +kernel)) ggX7_strikeWithBeat_X5_numberOf
set_option maxRecDepth 20000 in
theorem ggX7_strikeWithBeat_X2_note : GoodIn wsX7_strikeWithBeat wsX2_note := goodIn_r _ [25, 26, 27, 28, 29, 30, 31, 24, 32, 69, 70, 71, 72] (by decide +kernel) (by decide +kernel)
set_option maxRecDepth 20000 in
theorem gX7_strikeWithBeat_X2_note : GoodIn wsX7_strikeWithBeat (wsV RX7 157 RX2 yX2_note wsX2_note) := goodIn_app (goodIn_of _ (by decide +kernel)) ggX7_strikeWithBeat_X2_note
set_option maxRecDepth 20000 in
theorem ggX7_strikeWithBeat_X0_append : GoodIn wsX7_strikeWithBeat wsX0_append := goodIn_r _ [37, 38, 39, 40, 41, 42, 43, 44, 45, 36, 46, 61, 62, 63, 64, 65] (by decide +kernel) (by decide +kernel)
set_option maxRecDepth 20000 in
theorem gX7_strikeWithBeat_X0_append : GoodIn wsX7_strikeWithBeat (wsV RX7 161 RX0 yX0_append wsX0_append) := goodIn_app (goodIn_of _ (by decide +kernel)) ggX7_strikeWithBeat_X0_append
theorem dX7_strikeWithBeat_0 : decode cX7_strikeWithBeat 0 = .ok (.aload_n 0, 1) := by decide +kernel
theorem dX7_strikeWithBeat_1 : decode cX7_strikeWithBeat 1 = .ok (.getfield 39, 3) := by decide +kernel
theorem dX7_strikeWithBeat_4 : decode cX7_strikeWithBeat 4 = .ok (.iload_n 2, 1) := by decide +kernel
theorem dX7_strikeWithBeat_5 : decode cX7_strikeWithBeat 5 = .ok (.aload_n 0, 1) := by decide +kernel
theorem dX7_strikeWithBeat_6 : decode cX7_strikeWithBeat 6 = .ok (.getfield 39, 3) := by decide +kernel
theorem dX7_strikeWithBeat_9 : decode cX7_strikeWithBeat 9 = .ok (.getfield 126, 3) := by decide +kernel
theorem dX7_strikeWithBeat_12 : decode cX7_strikeWithBeat 12 = .ok (.iadd, 1) := by decide +kernel
theorem dX7_strikeWithBeat_13 : decode cX7_strikeWithBeat 13 = .ok (.putfield 120, 3) := by decide +kernel
theorem dX7_strikeWithBeat_16 : decode cX7_strikeWithBeat 16 = .ok (.aload_n 0, 1) := by decide +kernel
theorem dX7_strikeWithBeat_17 : decode cX7_strikeWithBeat 17 = .ok (.getfield 39, 3) := by decide +kernel
theorem dX7_strikeWithBeat_20 : decode cX7_strikeWithBeat 20 = .ok (.aload_n 0, 1) := by decide +kernel
theorem dX7_strikeWithBeat_21 : decode cX7_strikeWithBeat 21 = .ok (.getfield 18, 3) := by decide +kernel
theorem dX7_strikeWithBeat_24 : decode cX7_strikeWithBeat 24 = .ok (.iload_n 1, 1) := by decide +kernel
theorem dX7_strikeWithBeat_25 : decode cX7_strikeWithBeat 25 = .ok (.invokevirtual 151, 3) := by decide +kernel
theorem dX7_strikeWithBeat_28 : decode cX7_strikeWithBeat 28 = .ok (.aload_n 0, 1) := by decide +kernel
theorem dX7_strikeWithBeat_29 : decode cX7_strikeWithBeat 29 = .ok (.getfield 32, 3) := by decide +kernel
theorem dX7_strikeWithBeat_32 : decode cX7_strikeWithBeat 32 = .ok (.getfield 66, 3) := by decide +kernel
theorem dX7_strikeWithBeat_35 : decode cX7_strikeWithBeat 35 = .ok (.isub, 1) := by decide +kernel
theorem dX7_strikeWithBeat_36 : decode cX7_strikeWithBeat 36 = .ok (.putfield 154, 3) := by decide +kernel
theorem dX7_strikeWithBeat_39 : decode cX7_strikeWithBeat 39 = .ok (.aload_n 0, 1) := by decide +kernel
theorem dX7_strikeWithBeat_40 : decode cX7_strikeWithBeat 40 = .ok (.getfield 25, 3) := by decide +kernel
theorem dX7_strikeWithBeat_43 : decode cX7_strikeWithBeat 43 = .ok (.iload_n 1, 1) := by decide +kernel
theorem dX7_strikeWithBeat_44 : decode cX7_strikeWithBeat 44 = .ok (.iconst 3, 1) := by decide +kernel
theorem dX7_strikeWithBeat_45 : decode cX7_strikeWithBeat 45 = .ok (.aload_n 0, 1) := by decide +kernel
theorem dX7_strikeWithBeat_46 : decode cX7_strikeWithBeat 46 = .ok (.getfield 32, 3) := by decide +kernel
theorem dX7_strikeWithBeat_49 : decode cX7_strikeWithBeat 49 = .ok (.getfield 66, 3) := by decide +kernel
theorem dX7_strikeWithBeat_52 : decode cX7_strikeWithBeat 52 = .ok (.bipush (-6), 2) := by decide +kernel
theorem dX7_strikeWithBeat_54 : decode cX7_strikeWithBeat 54 = .ok (.sipush 1000, 3) := by decide +kernel
theorem dX7_strikeWithBeat_57 : decode cX7_strikeWithBeat 57 = .ok (.invokevirtual 157, 3) := by decide +kernel
theorem dX7_strikeWithBeat_60 : decode cX7_strikeWithBeat 60 = .ok (.aload_n 0, 1) := by decide +kernel
theorem dX7_strikeWithBeat_61 : decode cX7_strikeWithBeat 61 = .ok (.getfield 32, 3) := by decide +kernel
theorem dX7_strikeWithBeat_64 : decode cX7_strikeWithBeat 64 = .ok (.iload_n 2, 1) := by decide +kernel
theorem dX7_strikeWithBeat_65 : decode cX7_strikeWithBeat 65 = .ok (.iload_n 1, 1) := by decide +kernel
theorem dX7_strikeWithBeat_66 : decode cX7_strikeWithBeat 66 = .ok (.aload_n 0, 1) := by decide +kernel
theorem dX7_strikeWithBeat_67 : decode cX7_strikeWithBeat 67 = .ok (.getfield 39, 3) := by decide +kernel
theorem dX7_strikeWithBeat_70 : decode cX7_strikeWithBeat 70 = .ok (.getfield 126, 3) := by decide +kernel
theorem dX7_strikeWithBeat_73 : decode cX7_strikeWithBeat 73 = .ok (.aload_n 0, 1) := by decide +kernel
theorem dX7_strikeWithBeat_74 : decode cX7_strikeWithBeat 74 = .ok (.getfield 39, 3) := by decide +kernel
theorem dX7_strikeWithBeat_77 : decode cX7_strikeWithBeat 77 = .ok (.getfield 132, 3) := by decide +kernel
theorem dX7_strikeWithBeat_80 : decode cX7_strikeWithBeat 80 = .ok (.invokevirtual 161, 3) := by decide +kernel
theorem dX7_strikeWithBeat_83 : decode cX7_strikeWithBeat 83 = .ok (.return_, 1) := by decide +kernel
set_option maxRecDepth 20000 in
theorem ggX7_passOver_X2_note : GoodIn wsX7_passOver wsX2_note := goodIn_r _ [9, 10, 11, 12, 13, 14, 15, 8, 16, 50, 51, 52, 53] (by decide +kernel) (by decide +kernel)
set_option maxRecDepth 20000 in
theorem gX7_passOver_X2_note : GoodIn wsX7_passOver (wsV RX7 157 RX2 yX2_note wsX2_note) := goodIn_app (goodIn_of _ (by decide +kernel)) ggX7_passOver_X2_note
set_option maxRecDepth 20000 in
theorem ggX7_passOver_X7_judge : GoodIn wsX7_passOver wsX7_judge := goodIn_r _ [21, 22, 23, 24, 25, 26, 1, 27, 28, 29, 30, 20, 31, 32, 33, 34, 35, 36, 37, 38, 39, 54, 55, 56, 57, 58, 59, 60, 40, 41, 42, 43, 44, 45, 46, 47, 48, 49] (by decide +kernel) (by decide +kernel)
set_option maxRecDepth 20000 in
theorem gX7_passOver_X7_judge : GoodIn wsX7_passOver (wsV RX7 169 RX7 yX7_judge wsX7_judge) := goodIn_app (goodIn_of _ (by decide +kernel)) ggX7_passOver_X7_judge
theorem dX7_passOver_0 : decode cX7_passOver 0 = .ok (.aload_n 0, 1) := by decide +kernel
theorem dX7_passOver_1 : decode cX7_passOver 1 = .ok (.getfield 46, 3) := by decide +kernel
theorem dX7_passOver_4 : decode cX7_passOver 4 = .ok (.dup, 1) := by decide +kernel
theorem dX7_passOver_5 : decode cX7_passOver 5 = .ok (.getfield 165, 3) := by decide +kernel
theorem dX7_passOver_8 : decode cX7_passOver 8 = .ok (.iconst 1, 1) := by decide +kernel
theorem dX7_passOver_9 : decode cX7_passOver 9 = .ok (.iadd, 1) := by decide +kernel
theorem dX7_passOver_10 : decode cX7_passOver 10 = .ok (.putfield 165, 3) := by decide +kernel
theorem dX7_passOver_13 : decode cX7_passOver 13 = .ok (.aload_n 0, 1) := by decide +kernel
theorem dX7_passOver_14 : decode cX7_passOver 14 = .ok (.getfield 25, 3) := by decide +kernel
theorem dX7_passOver_17 : decode cX7_passOver 17 = .ok (.iload_n 1, 1) := by decide +kernel
theorem dX7_passOver_18 : decode cX7_passOver 18 = .ok (.iconst 1, 1) := by decide +kernel
theorem dX7_passOver_19 : decode cX7_passOver 19 = .ok (.bipush (-6), 2) := by decide +kernel
theorem dX7_passOver_21 : decode cX7_passOver 21 = .ok (.ldc 168, 2) := by decide +kernel
theorem dX7_passOver_23 : decode cX7_passOver 23 = .ok (.iload_n 2, 1) := by decide +kernel
theorem dX7_passOver_24 : decode cX7_passOver 24 = .ok (.iadd, 1) := by decide +kernel
theorem dX7_passOver_25 : decode cX7_passOver 25 = .ok (.bipush (-6), 2) := by decide +kernel
theorem dX7_passOver_27 : decode cX7_passOver 27 = .ok (.invokevirtual 157, 3) := by decide +kernel
theorem dX7_passOver_30 : decode cX7_passOver 30 = .ok (.aload_n 0, 1) := by decide +kernel
theorem dX7_passOver_31 : decode cX7_passOver 31 = .ok (.iconst 0, 1) := by decide +kernel
theorem dX7_passOver_32 : decode cX7_passOver 32 = .ok (.invokevirtual 169, 3) := by decide +kernel
theorem dX7_passOver_35 : decode cX7_passOver 35 = .ok (.return_, 1) := by decide +kernel
set_option maxRecDepth 20000 in
theorem ggX7_takeBeat_J9_floorDiv_7cf53 : GoodIn wsX7_takeBeat wsJ9_floorDiv_7cf53 := goodIn_r _ [22] (by decide +kernel) (by decide +kernel)
set_option maxRecDepth 20000 in
theorem gX7_takeBeat_J9_floorDiv_7cf53 : GoodIn wsX7_takeBeat (va_wsS RX7 129 yJ9_floorDiv_7cf53 wsJ9_floorDiv_7cf53) := goodIn_app (goodIn_of _ (by decide +kernel)) ggX7_takeBeat_J9_floorDiv_7cf53
set_option maxRecDepth 20000 in
theorem ggX7_takeBeat_X7_nudge : GoodIn wsX7_takeBeat wsX7_nudge := goodIn_r _ [27, 1, 7, 8, 28, 29, 5, 30, 31, 32, 33, 2, 19, 20, 21, 22, 90, 91, 92, 93, 94, 95, 96, 97, 98, 99, 100, 101, 102, 103] (by decide +kernel) (by decide +kernel)
set_option maxRecDepth 20000 in
theorem gX7_takeBeat_X7_nudge : GoodIn wsX7_takeBeat (wsV RX7 176 RX7 yX7_nudge wsX7_nudge) := goodIn_app (goodIn_of _ (by decide +kernel)) ggX7_takeBeat_X7_nudge
set_option maxRecDepth 20000 in
theorem ggX7_takeBeat_X5_numberOf : GoodIn wsX7_takeBeat wsX5_numberOf := goodIn_r _ [38, 39, 40, 41, 42, 37, 43, 44, 119, 120, 121] (by decide +kernel) (by decide +kernel)
set_option maxRecDepth 20000 in
theorem gX7_takeBeat_X5_numberOf : GoodIn wsX7_takeBeat (wsV RX7 151 RX5 yX5_numberOf wsX5_numberOf) := goodIn_app (goodIn_of _ (by decide +kernel)) ggX7_takeBeat_X5_numberOf
set_option maxRecDepth 20000 in
theorem ggX7_takeBeat_X8_addSlip : GoodIn wsX7_takeBeat wsX8_addSlip := goodIn_r _ [49, 50, 51, 104, 105, 106, 107, 108, 109, 110, 111, 112, 113] (by decide +kernel) (by decide +kernel)
set_option maxRecDepth 20000 in
theorem gX7_takeBeat_X8_addSlip : GoodIn wsX7_takeBeat (wsV RX7 185 RX8 yX8_addSlip wsX8_addSlip) := goodIn_app (goodIn_of _ (by decide +kernel)) ggX7_takeBeat_X8_addSlip
set_option maxRecDepth 20000 in
theorem ggX7_takeBeat_X2_note : GoodIn wsX7_takeBeat wsX2_note := goodIn_r _ [56, 57, 58, 59, 60, 61, 62, 55, 63, 122, 123, 124, 125] (by decide +kernel) (by decide +kernel)
set_option maxRecDepth 20000 in
theorem gX7_takeBeat_X2_note : GoodIn wsX7_takeBeat (wsV RX7 157 RX2 yX2_note wsX2_note) := goodIn_app (goodIn_of _ (by decide +kernel)) ggX7_takeBeat_X2_note
set_option maxRecDepth 20000 in
theorem ggX7_takeBeat_X7_judge : GoodIn wsX7_takeBeat wsX7_judge := goodIn_r _ [67, 1, 68, 69, 18, 8, 10, 70, 71, 72, 73, 26, 74, 75, 90, 91, 92, 93, 94, 95, 96, 97, 98, 99, 100, 101, 102, 103, 104, 105, 106, 107, 108, 109, 110, 111, 112, 113] (by decide +kernel) (by decide +kernel)
set_option maxRecDepth 20000 in
theorem gX7_takeBeat_X7_judge : GoodIn wsX7_takeBeat (wsV RX7 169 RX7 yX7_judge wsX7_judge) := goodIn_app (goodIn_of _ (by decide +kernel)) ggX7_takeBeat_X7_judge
set_option maxRecDepth 20000 in
theorem ggX7_takeBeat_X0_append : GoodIn wsX7_takeBeat wsX0_append := goodIn_r _ [80, 81, 82, 83, 84, 85, 86, 87, 88, 79, 89, 114, 115, 116, 117, 118] (by decide +kernel) (by decide +kernel)
set_option maxRecDepth 20000 in
theorem gX7_takeBeat_X0_append : GoodIn wsX7_takeBeat (wsV RX7 161 RX0 yX0_append wsX0_append) := goodIn_app (goodIn_of _ (by decide +kernel)) ggX7_takeBeat_X0_append
theorem dX7_takeBeat_0 : decode cX7_takeBeat 0 = .ok (.aload_n 0, 1) := by decide +kernel
theorem dX7_takeBeat_1 : decode cX7_takeBeat 1 = .ok (.getfield 39, 3) := by decide +kernel
theorem dX7_takeBeat_4 : decode cX7_takeBeat 4 = .ok (.getfield 120, 3) := by decide +kernel
theorem dX7_takeBeat_7 : decode cX7_takeBeat 7 = .ok (.istore_n 3, 1) := by decide +kernel
theorem dX7_takeBeat_8 : decode cX7_takeBeat 8 = .ok (.iload_n 2, 1) := by decide +kernel
theorem dX7_takeBeat_9 : decode cX7_takeBeat 9 = .ok (.invokestatic 173, 3) := by decide +kernel
theorem dX7_takeBeat_12 : decode cX7_takeBeat 12 = .ok (.aload_n 0, 1) := by decide +kernel
theorem dX7_takeBeat_13 : decode cX7_takeBeat 13 = .ok (.getfield 39, 3) := by decide +kernel
theorem dX7_takeBeat_16 : decode cX7_takeBeat 16 = .ok (.getfield 126, 3) := by decide +kernel
theorem dX7_takeBeat_19 : decode cX7_takeBeat 19 = .ok (.aload_n 0, 1) := by decide +kernel
theorem dX7_takeBeat_20 : decode cX7_takeBeat 20 = .ok (.getfield 9, 3) := by decide +kernel
theorem dX7_takeBeat_23 : decode cX7_takeBeat 23 = .ok (.iconst 4, 1) := by decide +kernel
theorem dX7_takeBeat_24 : decode cX7_takeBeat 24 = .ok (.iaload, 1) := by decide +kernel
theorem dX7_takeBeat_25 : decode cX7_takeBeat 25 = .ok (.imul, 1) := by decide +kernel
theorem dX7_takeBeat_26 : decode cX7_takeBeat 26 = .ok (.bipush 100, 2) := by decide +kernel
theorem dX7_takeBeat_28 : decode cX7_takeBeat 28 = .ok (.invokestatic 129, 3) := by decide +kernel
theorem dX7_takeBeat_31 : decode cX7_takeBeat 31 = .ok (.if_icmp .gt 7, 3) := by decide +kernel
theorem dX7_takeBeat_34 : decode cX7_takeBeat 34 = .ok (.iconst 1, 1) := by decide +kernel
theorem dX7_takeBeat_35 : decode cX7_takeBeat 35 = .ok (.goto 4, 3) := by decide +kernel
theorem dX7_takeBeat_38 : decode cX7_takeBeat 38 = .ok (.iconst 0, 1) := by decide +kernel
theorem dX7_takeBeat_39 : decode cX7_takeBeat 39 = .ok (.istore 4, 2) := by decide +kernel
theorem dX7_takeBeat_41 : decode cX7_takeBeat 41 = .ok (.aload_n 0, 1) := by decide +kernel
theorem dX7_takeBeat_42 : decode cX7_takeBeat 42 = .ok (.iload_n 2, 1) := by decide +kernel
theorem dX7_takeBeat_43 : decode cX7_takeBeat 43 = .ok (.invokevirtual 176, 3) := by decide +kernel
theorem dX7_takeBeat_46 : decode cX7_takeBeat 46 = .ok (.aload_n 0, 1) := by decide +kernel
theorem dX7_takeBeat_47 : decode cX7_takeBeat 47 = .ok (.getfield 39, 3) := by decide +kernel
theorem dX7_takeBeat_50 : decode cX7_takeBeat 50 = .ok (.iconst 0, 1) := by decide +kernel
theorem dX7_takeBeat_51 : decode cX7_takeBeat 51 = .ok (.putfield 179, 3) := by decide +kernel
theorem dX7_takeBeat_54 : decode cX7_takeBeat 54 = .ok (.aload_n 0, 1) := by decide +kernel
theorem dX7_takeBeat_55 : decode cX7_takeBeat 55 = .ok (.getfield 46, 3) := by decide +kernel
theorem dX7_takeBeat_58 : decode cX7_takeBeat 58 = .ok (.dup, 1) := by decide +kernel
theorem dX7_takeBeat_59 : decode cX7_takeBeat 59 = .ok (.getfield 182, 3) := by decide +kernel
theorem dX7_takeBeat_62 : decode cX7_takeBeat 62 = .ok (.iload_n 2, 1) := by decide +kernel
theorem dX7_takeBeat_63 : decode cX7_takeBeat 63 = .ok (.invokestatic 173, 3) := by decide +kernel
theorem dX7_takeBeat_66 : decode cX7_takeBeat 66 = .ok (.iadd, 1) := by decide +kernel
theorem dX7_takeBeat_67 : decode cX7_takeBeat 67 = .ok (.putfield 182, 3) := by decide +kernel
theorem dX7_takeBeat_70 : decode cX7_takeBeat 70 = .ok (.aload_n 0, 1) := by decide +kernel
theorem dX7_takeBeat_71 : decode cX7_takeBeat 71 = .ok (.getfield 18, 3) := by decide +kernel
theorem dX7_takeBeat_74 : decode cX7_takeBeat 74 = .ok (.iload_n 1, 1) := by decide +kernel
theorem dX7_takeBeat_75 : decode cX7_takeBeat 75 = .ok (.invokevirtual 151, 3) := by decide +kernel
theorem dX7_takeBeat_78 : decode cX7_takeBeat 78 = .ok (.aload_n 0, 1) := by decide +kernel
theorem dX7_takeBeat_79 : decode cX7_takeBeat 79 = .ok (.getfield 32, 3) := by decide +kernel
theorem dX7_takeBeat_82 : decode cX7_takeBeat 82 = .ok (.getfield 66, 3) := by decide +kernel
theorem dX7_takeBeat_85 : decode cX7_takeBeat 85 = .ok (.isub, 1) := by decide +kernel
theorem dX7_takeBeat_86 : decode cX7_takeBeat 86 = .ok (.istore 5, 2) := by decide +kernel
theorem dX7_takeBeat_88 : decode cX7_takeBeat 88 = .ok (.iload 5, 2) := by decide +kernel
theorem dX7_takeBeat_90 : decode cX7_takeBeat 90 = .ok (.aload_n 0, 1) := by decide +kernel
theorem dX7_takeBeat_91 : decode cX7_takeBeat 91 = .ok (.getfield 39, 3) := by decide +kernel
theorem dX7_takeBeat_94 : decode cX7_takeBeat 94 = .ok (.getfield 154, 3) := by decide +kernel
theorem dX7_takeBeat_97 : decode cX7_takeBeat 97 = .ok (.isub, 1) := by decide +kernel
theorem dX7_takeBeat_98 : decode cX7_takeBeat 98 = .ok (.istore 6, 2) := by decide +kernel
theorem dX7_takeBeat_100 : decode cX7_takeBeat 100 = .ok (.aload_n 0, 1) := by decide +kernel
theorem dX7_takeBeat_101 : decode cX7_takeBeat 101 = .ok (.getfield 39, 3) := by decide +kernel
theorem dX7_takeBeat_104 : decode cX7_takeBeat 104 = .ok (.iload 5, 2) := by decide +kernel
theorem dX7_takeBeat_106 : decode cX7_takeBeat 106 = .ok (.putfield 154, 3) := by decide +kernel
theorem dX7_takeBeat_109 : decode cX7_takeBeat 109 = .ok (.aload_n 0, 1) := by decide +kernel
theorem dX7_takeBeat_110 : decode cX7_takeBeat 110 = .ok (.getfield 46, 3) := by decide +kernel
theorem dX7_takeBeat_113 : decode cX7_takeBeat 113 = .ok (.iload 6, 2) := by decide +kernel
theorem dX7_takeBeat_115 : decode cX7_takeBeat 115 = .ok (.invokevirtual 185, 3) := by decide +kernel
theorem dX7_takeBeat_118 : decode cX7_takeBeat 118 = .ok (.aload_n 0, 1) := by decide +kernel
theorem dX7_takeBeat_119 : decode cX7_takeBeat 119 = .ok (.getfield 25, 3) := by decide +kernel
theorem dX7_takeBeat_122 : decode cX7_takeBeat 122 = .ok (.iload_n 1, 1) := by decide +kernel
theorem dX7_takeBeat_123 : decode cX7_takeBeat 123 = .ok (.iconst 2, 1) := by decide +kernel
theorem dX7_takeBeat_124 : decode cX7_takeBeat 124 = .ok (.aload_n 0, 1) := by decide +kernel
theorem dX7_takeBeat_125 : decode cX7_takeBeat 125 = .ok (.getfield 32, 3) := by decide +kernel
theorem dX7_takeBeat_128 : decode cX7_takeBeat 128 = .ok (.getfield 66, 3) := by decide +kernel
theorem dX7_takeBeat_131 : decode cX7_takeBeat 131 = .ok (.ldc 168, 2) := by decide +kernel
theorem dX7_takeBeat_133 : decode cX7_takeBeat 133 = .ok (.iload_n 2, 1) := by decide +kernel
theorem dX7_takeBeat_134 : decode cX7_takeBeat 134 = .ok (.iadd, 1) := by decide +kernel
theorem dX7_takeBeat_135 : decode cX7_takeBeat 135 = .ok (.sipush 1000, 3) := by decide +kernel
theorem dX7_takeBeat_138 : decode cX7_takeBeat 138 = .ok (.iload 6, 2) := by decide +kernel
theorem dX7_takeBeat_140 : decode cX7_takeBeat 140 = .ok (.iadd, 1) := by decide +kernel
theorem dX7_takeBeat_141 : decode cX7_takeBeat 141 = .ok (.invokevirtual 157, 3) := by decide +kernel
theorem dX7_takeBeat_144 : decode cX7_takeBeat 144 = .ok (.aload_n 0, 1) := by decide +kernel
theorem dX7_takeBeat_145 : decode cX7_takeBeat 145 = .ok (.iload 4, 2) := by decide +kernel
theorem dX7_takeBeat_147 : decode cX7_takeBeat 147 = .ok (.invokevirtual 169, 3) := by decide +kernel
theorem dX7_takeBeat_150 : decode cX7_takeBeat 150 = .ok (.aload_n 0, 1) := by decide +kernel
theorem dX7_takeBeat_151 : decode cX7_takeBeat 151 = .ok (.getfield 32, 3) := by decide +kernel
theorem dX7_takeBeat_154 : decode cX7_takeBeat 154 = .ok (.iload_n 3, 1) := by decide +kernel
theorem dX7_takeBeat_155 : decode cX7_takeBeat 155 = .ok (.iload_n 1, 1) := by decide +kernel
theorem dX7_takeBeat_156 : decode cX7_takeBeat 156 = .ok (.aload_n 0, 1) := by decide +kernel
theorem dX7_takeBeat_157 : decode cX7_takeBeat 157 = .ok (.getfield 39, 3) := by decide +kernel
theorem dX7_takeBeat_160 : decode cX7_takeBeat 160 = .ok (.getfield 126, 3) := by decide +kernel
theorem dX7_takeBeat_163 : decode cX7_takeBeat 163 = .ok (.aload_n 0, 1) := by decide +kernel
theorem dX7_takeBeat_164 : decode cX7_takeBeat 164 = .ok (.getfield 39, 3) := by decide +kernel
theorem dX7_takeBeat_167 : decode cX7_takeBeat 167 = .ok (.getfield 132, 3) := by decide +kernel
theorem dX7_takeBeat_170 : decode cX7_takeBeat 170 = .ok (.invokevirtual 161, 3) := by decide +kernel
theorem dX7_takeBeat_173 : decode cX7_takeBeat 173 = .ok (.return_, 1) := by decide +kernel
set_option maxRecDepth 20000 in
theorem ggX7_nudge_J9_floorDiv_7cf53 : GoodIn wsX7_nudge wsJ9_floorDiv_7cf53 := goodIn_r _ [15] (by decide +kernel) (by decide +kernel)
set_option maxRecDepth 20000 in
theorem gX7_nudge_J9_floorDiv_7cf53 : GoodIn wsX7_nudge (va_wsS RX7 129 yJ9_floorDiv_7cf53 wsJ9_floorDiv_7cf53) := goodIn_app (goodIn_of _ (by decide +kernel)) ggX7_nudge_J9_floorDiv_7cf53
theorem dX7_nudge_0 : decode cX7_nudge 0 = .ok (.aload_n 0, 1) := by decide +kernel
theorem dX7_nudge_1 : decode cX7_nudge 1 = .ok (.getfield 39, 3) := by decide +kernel
theorem dX7_nudge_4 : decode cX7_nudge 4 = .ok (.getfield 126, 3) := by decide +kernel
theorem dX7_nudge_7 : decode cX7_nudge 7 = .ok (.iload_n 1, 1) := by decide +kernel
theorem dX7_nudge_8 : decode cX7_nudge 8 = .ok (.aload_n 0, 1) := by decide +kernel
theorem dX7_nudge_9 : decode cX7_nudge 9 = .ok (.getfield 9, 3) := by decide +kernel
theorem dX7_nudge_12 : decode cX7_nudge 12 = .ok (.iconst 3, 1) := by decide +kernel
theorem dX7_nudge_13 : decode cX7_nudge 13 = .ok (.iaload, 1) := by decide +kernel
theorem dX7_nudge_14 : decode cX7_nudge 14 = .ok (.imul, 1) := by decide +kernel
theorem dX7_nudge_15 : decode cX7_nudge 15 = .ok (.bipush 16, 2) := by decide +kernel
theorem dX7_nudge_17 : decode cX7_nudge 17 = .ok (.invokestatic 129, 3) := by decide +kernel
theorem dX7_nudge_20 : decode cX7_nudge 20 = .ok (.iadd, 1) := by decide +kernel
theorem dX7_nudge_21 : decode cX7_nudge 21 = .ok (.istore_n 2, 1) := by decide +kernel
theorem dX7_nudge_22 : decode cX7_nudge 22 = .ok (.aload_n 0, 1) := by decide +kernel
theorem dX7_nudge_23 : decode cX7_nudge 23 = .ok (.getfield 39, 3) := by decide +kernel
theorem dX7_nudge_26 : decode cX7_nudge 26 = .ok (.iconst 2, 1) := by decide +kernel
theorem dX7_nudge_27 : decode cX7_nudge 27 = .ok (.aload_n 0, 1) := by decide +kernel
theorem dX7_nudge_28 : decode cX7_nudge 28 = .ok (.getfield 9, 3) := by decide +kernel
theorem dX7_nudge_31 : decode cX7_nudge 31 = .ok (.iconst 0, 1) := by decide +kernel
theorem dX7_nudge_32 : decode cX7_nudge 32 = .ok (.iaload, 1) := by decide +kernel
theorem dX7_nudge_33 : decode cX7_nudge 33 = .ok (.imul, 1) := by decide +kernel
theorem dX7_nudge_34 : decode cX7_nudge 34 = .ok (.bipush 8, 2) := by decide +kernel
theorem dX7_nudge_36 : decode cX7_nudge 36 = .ok (.aload_n 0, 1) := by decide +kernel
theorem dX7_nudge_37 : decode cX7_nudge 37 = .ok (.getfield 9, 3) := by decide +kernel
theorem dX7_nudge_40 : decode cX7_nudge 40 = .ok (.iconst 0, 1) := by decide +kernel
theorem dX7_nudge_41 : decode cX7_nudge 41 = .ok (.iaload, 1) := by decide +kernel
theorem dX7_nudge_42 : decode cX7_nudge 42 = .ok (.imul, 1) := by decide +kernel
theorem dX7_nudge_43 : decode cX7_nudge 43 = .ok (.iload_n 2, 1) := by decide +kernel
theorem dX7_nudge_44 : decode cX7_nudge 44 = .ok (.invokestatic 104, 3) := by decide +kernel
theorem dX7_nudge_47 : decode cX7_nudge 47 = .ok (.invokestatic 188, 3) := by decide +kernel
theorem dX7_nudge_50 : decode cX7_nudge 50 = .ok (.putfield 126, 3) := by decide +kernel
theorem dX7_nudge_53 : decode cX7_nudge 53 = .ok (.aload_n 0, 1) := by decide +kernel
theorem dX7_nudge_54 : decode cX7_nudge 54 = .ok (.getfield 39, 3) := by decide +kernel
theorem dX7_nudge_57 : decode cX7_nudge 57 = .ok (.dup, 1) := by decide +kernel
theorem dX7_nudge_58 : decode cX7_nudge 58 = .ok (.getfield 120, 3) := by decide +kernel
theorem dX7_nudge_61 : decode cX7_nudge 61 = .ok (.iload_n 1, 1) := by decide +kernel
theorem dX7_nudge_62 : decode cX7_nudge 62 = .ok (.aload_n 0, 1) := by decide +kernel
theorem dX7_nudge_63 : decode cX7_nudge 63 = .ok (.getfield 9, 3) := by decide +kernel
theorem dX7_nudge_66 : decode cX7_nudge 66 = .ok (.iconst 2, 1) := by decide +kernel
theorem dX7_nudge_67 : decode cX7_nudge 67 = .ok (.iaload, 1) := by decide +kernel
theorem dX7_nudge_68 : decode cX7_nudge 68 = .ok (.imul, 1) := by decide +kernel
theorem dX7_nudge_69 : decode cX7_nudge 69 = .ok (.bipush 16, 2) := by decide +kernel
theorem dX7_nudge_71 : decode cX7_nudge 71 = .ok (.invokestatic 129, 3) := by decide +kernel
theorem dX7_nudge_74 : decode cX7_nudge 74 = .ok (.aload_n 0, 1) := by decide +kernel
theorem dX7_nudge_75 : decode cX7_nudge 75 = .ok (.getfield 39, 3) := by decide +kernel
theorem dX7_nudge_78 : decode cX7_nudge 78 = .ok (.getfield 126, 3) := by decide +kernel
theorem dX7_nudge_81 : decode cX7_nudge 81 = .ok (.iadd, 1) := by decide +kernel
theorem dX7_nudge_82 : decode cX7_nudge 82 = .ok (.iadd, 1) := by decide +kernel
theorem dX7_nudge_83 : decode cX7_nudge 83 = .ok (.putfield 120, 3) := by decide +kernel
theorem dX7_nudge_86 : decode cX7_nudge 86 = .ok (.return_, 1) := by decide +kernel
set_option maxRecDepth 20000 in
theorem ggX7_holdBlow_X7_judge : GoodIn wsX7_holdBlow wsX7_judge := goodIn_r _ [14, 1, 15, 16, 7, 8, 5, 17, 18, 19, 20, 13, 21, 22, 42, 43, 44, 45, 46, 47, 48, 49, 50, 51, 52, 53, 54, 55, 56, 57, 58, 59, 60, 61, 62, 63, 64, 65] (by decide +kernel) (by decide +kernel)
set_option maxRecDepth 20000 in
theorem gX7_holdBlow_X7_judge : GoodIn wsX7_holdBlow (wsV RX7 169 RX7 yX7_judge wsX7_judge) := goodIn_app (goodIn_of _ (by decide +kernel)) ggX7_holdBlow_X7_judge
set_option maxRecDepth 20000 in
theorem ggX7_holdBlow_X7_fallSilent : GoodIn wsX7_holdBlow wsX7_fallSilent := goodIn_r _ [26, 5, 27, 1, 7, 15, 16, 4, 2, 18, 19, 20, 13, 21, 22, 42, 43, 44, 45, 46, 47, 48, 56, 57, 58, 59, 60, 61, 62, 63, 64, 65, 49, 50, 51, 52, 53, 54, 55] (by decide +kernel) (by decide +kernel)
set_option maxRecDepth 20000 in
theorem gX7_holdBlow_X7_fallSilent : GoodIn wsX7_holdBlow (wsV RX7 194 RX7 yX7_fallSilent wsX7_fallSilent) := goodIn_app (goodIn_of _ (by decide +kernel)) ggX7_holdBlow_X7_fallSilent
set_option maxRecDepth 20000 in
theorem ggX7_holdBlow_X0_append : GoodIn wsX7_holdBlow wsX0_append := goodIn_r _ [32, 33, 34, 35, 36, 37, 38, 39, 40, 31, 41, 66, 67, 68, 69, 70] (by decide +kernel) (by decide +kernel)
set_option maxRecDepth 20000 in
theorem gX7_holdBlow_X0_append : GoodIn wsX7_holdBlow (wsV RX7 161 RX0 yX0_append wsX0_append) := goodIn_app (goodIn_of _ (by decide +kernel)) ggX7_holdBlow_X0_append
theorem dX7_holdBlow_0 : decode cX7_holdBlow 0 = .ok (.aload_n 0, 1) := by decide +kernel
theorem dX7_holdBlow_1 : decode cX7_holdBlow 1 = .ok (.getfield 39, 3) := by decide +kernel
theorem dX7_holdBlow_4 : decode cX7_holdBlow 4 = .ok (.getfield 120, 3) := by decide +kernel
theorem dX7_holdBlow_7 : decode cX7_holdBlow 7 = .ok (.istore_n 1, 1) := by decide +kernel
theorem dX7_holdBlow_8 : decode cX7_holdBlow 8 = .ok (.aload_n 0, 1) := by decide +kernel
theorem dX7_holdBlow_9 : decode cX7_holdBlow 9 = .ok (.getfield 39, 3) := by decide +kernel
theorem dX7_holdBlow_12 : decode cX7_holdBlow 12 = .ok (.iload_n 1, 1) := by decide +kernel
theorem dX7_holdBlow_13 : decode cX7_holdBlow 13 = .ok (.aload_n 0, 1) := by decide +kernel
theorem dX7_holdBlow_14 : decode cX7_holdBlow 14 = .ok (.getfield 39, 3) := by decide +kernel
theorem dX7_holdBlow_17 : decode cX7_holdBlow 17 = .ok (.getfield 126, 3) := by decide +kernel
theorem dX7_holdBlow_20 : decode cX7_holdBlow 20 = .ok (.iadd, 1) := by decide +kernel
theorem dX7_holdBlow_21 : decode cX7_holdBlow 21 = .ok (.putfield 120, 3) := by decide +kernel
theorem dX7_holdBlow_24 : decode cX7_holdBlow 24 = .ok (.aload_n 0, 1) := by decide +kernel
theorem dX7_holdBlow_25 : decode cX7_holdBlow 25 = .ok (.getfield 39, 3) := by decide +kernel
theorem dX7_holdBlow_28 : decode cX7_holdBlow 28 = .ok (.dup, 1) := by decide +kernel
theorem dX7_holdBlow_29 : decode cX7_holdBlow 29 = .ok (.getfield 179, 3) := by decide +kernel
theorem dX7_holdBlow_32 : decode cX7_holdBlow 32 = .ok (.iconst 1, 1) := by decide +kernel
theorem dX7_holdBlow_33 : decode cX7_holdBlow 33 = .ok (.iadd, 1) := by decide +kernel
theorem dX7_holdBlow_34 : decode cX7_holdBlow 34 = .ok (.putfield 179, 3) := by decide +kernel
theorem dX7_holdBlow_37 : decode cX7_holdBlow 37 = .ok (.aload_n 0, 1) := by decide +kernel
theorem dX7_holdBlow_38 : decode cX7_holdBlow 38 = .ok (.getfield 46, 3) := by decide +kernel
theorem dX7_holdBlow_41 : decode cX7_holdBlow 41 = .ok (.dup, 1) := by decide +kernel
theorem dX7_holdBlow_42 : decode cX7_holdBlow 42 = .ok (.getfield 191, 3) := by decide +kernel
theorem dX7_holdBlow_45 : decode cX7_holdBlow 45 = .ok (.iconst 1, 1) := by decide +kernel
theorem dX7_holdBlow_46 : decode cX7_holdBlow 46 = .ok (.iadd, 1) := by decide +kernel
theorem dX7_holdBlow_47 : decode cX7_holdBlow 47 = .ok (.putfield 191, 3) := by decide +kernel
theorem dX7_holdBlow_50 : decode cX7_holdBlow 50 = .ok (.aload_n 0, 1) := by decide +kernel
theorem dX7_holdBlow_51 : decode cX7_holdBlow 51 = .ok (.getfield 39, 3) := by decide +kernel
theorem dX7_holdBlow_54 : decode cX7_holdBlow 54 = .ok (.getfield 132, 3) := by decide +kernel
theorem dX7_holdBlow_57 : decode cX7_holdBlow 57 = .ok (.iconst 1, 1) := by decide +kernel
theorem dX7_holdBlow_58 : decode cX7_holdBlow 58 = .ok (.if_icmp .ne 11, 3) := by decide +kernel
theorem dX7_holdBlow_61 : decode cX7_holdBlow 61 = .ok (.aload_n 0, 1) := by decide +kernel
theorem dX7_holdBlow_62 : decode cX7_holdBlow 62 = .ok (.getfield 39, 3) := by decide +kernel
theorem dX7_holdBlow_65 : decode cX7_holdBlow 65 = .ok (.iconst 2, 1) := by decide +kernel
theorem dX7_holdBlow_66 : decode cX7_holdBlow 66 = .ok (.putfield 132, 3) := by decide +kernel
theorem dX7_holdBlow_69 : decode cX7_holdBlow 69 = .ok (.aload_n 0, 1) := by decide +kernel
theorem dX7_holdBlow_70 : decode cX7_holdBlow 70 = .ok (.iconst 0, 1) := by decide +kernel
theorem dX7_holdBlow_71 : decode cX7_holdBlow 71 = .ok (.invokevirtual 169, 3) := by decide +kernel
theorem dX7_holdBlow_74 : decode cX7_holdBlow 74 = .ok (.aload_n 0, 1) := by decide +kernel
theorem dX7_holdBlow_75 : decode cX7_holdBlow 75 = .ok (.getfield 39, 3) := by decide +kernel
theorem dX7_holdBlow_78 : decode cX7_holdBlow 78 = .ok (.getfield 179, 3) := by decide +kernel
theorem dX7_holdBlow_81 : decode cX7_holdBlow 81 = .ok (.aload_n 0, 1) := by decide +kernel
theorem dX7_holdBlow_82 : decode cX7_holdBlow 82 = .ok (.getfield 9, 3) := by decide +kernel
theorem dX7_holdBlow_85 : decode cX7_holdBlow 85 = .ok (.bipush 7, 2) := by decide +kernel
theorem dX7_holdBlow_87 : decode cX7_holdBlow 87 = .ok (.iaload, 1) := by decide +kernel
theorem dX7_holdBlow_88 : decode cX7_holdBlow 88 = .ok (.if_icmp .lt 7, 3) := by decide +kernel
theorem dX7_holdBlow_91 : decode cX7_holdBlow 91 = .ok (.aload_n 0, 1) := by decide +kernel
theorem dX7_holdBlow_92 : decode cX7_holdBlow 92 = .ok (.invokevirtual 194, 3) := by decide +kernel
theorem dX7_holdBlow_95 : decode cX7_holdBlow 95 = .ok (.aload_n 0, 1) := by decide +kernel
theorem dX7_holdBlow_96 : decode cX7_holdBlow 96 = .ok (.getfield 32, 3) := by decide +kernel
theorem dX7_holdBlow_99 : decode cX7_holdBlow 99 = .ok (.iload_n 1, 1) := by decide +kernel
theorem dX7_holdBlow_100 : decode cX7_holdBlow 100 = .ok (.bipush (-6), 2) := by decide +kernel
theorem dX7_holdBlow_102 : decode cX7_holdBlow 102 = .ok (.aload_n 0, 1) := by decide +kernel
theorem dX7_holdBlow_103 : decode cX7_holdBlow 103 = .ok (.getfield 39, 3) := by decide +kernel
theorem dX7_holdBlow_106 : decode cX7_holdBlow 106 = .ok (.getfield 126, 3) := by decide +kernel
theorem dX7_holdBlow_109 : decode cX7_holdBlow 109 = .ok (.aload_n 0, 1) := by decide +kernel
theorem dX7_holdBlow_110 : decode cX7_holdBlow 110 = .ok (.getfield 39, 3) := by decide +kernel
theorem dX7_holdBlow_113 : decode cX7_holdBlow 113 = .ok (.getfield 132, 3) := by decide +kernel
theorem dX7_holdBlow_116 : decode cX7_holdBlow 116 = .ok (.invokevirtual 161, 3) := by decide +kernel
theorem dX7_holdBlow_119 : decode cX7_holdBlow 119 = .ok (.return_, 1) := by decide +kernel
set_option maxRecDepth 20000 in
theorem ggX7_judge_X7_loseLock : GoodIn wsX7_judge wsX7_loseLock := goodIn_r _ [12, 1, 4, 2, 3, 6, 13, 14, 15, 16, 17, 18, 19, 20, 21, 22, 23, 24, 25, 26, 27, 28, 29, 30, 31, 32, 33, 34, 35, 36, 37] (by decide +kernel) (by decide +kernel)
set_option maxRecDepth 20000 in
theorem gX7_judge_X7_loseLock : GoodIn wsX7_judge (wsV RX7 206 RX7 yX7_loseLock wsX7_loseLock) := goodIn_app (goodIn_of _ (by decide +kernel)) ggX7_judge_X7_loseLock
theorem dX7_judge_0 : decode cX7_judge 0 = .ok (.aload_n 0, 1) := by decide +kernel
theorem dX7_judge_1 : decode cX7_judge 1 = .ok (.getfield 39, 3) := by decide +kernel
theorem dX7_judge_4 : decode cX7_judge 4 = .ok (.iload_n 1, 1) := by decide +kernel
theorem dX7_judge_5 : decode cX7_judge 5 = .ok (.ifCond .eq 15, 3) := by decide +kernel
theorem dX7_judge_8 : decode cX7_judge 8 = .ok (.aload_n 0, 1) := by decide +kernel
theorem dX7_judge_9 : decode cX7_judge 9 = .ok (.getfield 39, 3) := by decide +kernel
theorem dX7_judge_12 : decode cX7_judge 12 = .ok (.getfield 197, 3) := by decide +kernel
theorem dX7_judge_15 : decode cX7_judge 15 = .ok (.iconst 1, 1) := by decide +kernel
theorem dX7_judge_16 : decode cX7_judge 16 = .ok (.iadd, 1) := by decide +kernel
theorem dX7_judge_17 : decode cX7_judge 17 = .ok (.goto 4, 3) := by decide +kernel
theorem dX7_judge_20 : decode cX7_judge 20 = .ok (.iconst 0, 1) := by decide +kernel
theorem dX7_judge_21 : decode cX7_judge 21 = .ok (.putfield 197, 3) := by decide +kernel
theorem dX7_judge_24 : decode cX7_judge 24 = .ok (.aload_n 0, 1) := by decide +kernel
theorem dX7_judge_25 : decode cX7_judge 25 = .ok (.getfield 39, 3) := by decide +kernel
theorem dX7_judge_28 : decode cX7_judge 28 = .ok (.iload_n 1, 1) := by decide +kernel
theorem dX7_judge_29 : decode cX7_judge 29 = .ok (.ifCond .eq 7, 3) := by decide +kernel
theorem dX7_judge_32 : decode cX7_judge 32 = .ok (.iconst 0, 1) := by decide +kernel
theorem dX7_judge_33 : decode cX7_judge 33 = .ok (.goto 12, 3) := by decide +kernel
theorem dX7_judge_36 : decode cX7_judge 36 = .ok (.aload_n 0, 1) := by decide +kernel
theorem dX7_judge_37 : decode cX7_judge 37 = .ok (.getfield 39, 3) := by decide +kernel
theorem dX7_judge_40 : decode cX7_judge 40 = .ok (.getfield 200, 3) := by decide +kernel
theorem dX7_judge_43 : decode cX7_judge 43 = .ok (.iconst 1, 1) := by decide +kernel
theorem dX7_judge_44 : decode cX7_judge 44 = .ok (.iadd, 1) := by decide +kernel
theorem dX7_judge_45 : decode cX7_judge 45 = .ok (.putfield 200, 3) := by decide +kernel
theorem dX7_judge_48 : decode cX7_judge 48 = .ok (.iload_n 1, 1) := by decide +kernel
theorem dX7_judge_49 : decode cX7_judge 49 = .ok (.ifCond .eq 51, 3) := by decide +kernel
theorem dX7_judge_52 : decode cX7_judge 52 = .ok (.aload_n 0, 1) := by decide +kernel
theorem dX7_judge_53 : decode cX7_judge 53 = .ok (.getfield 39, 3) := by decide +kernel
theorem dX7_judge_56 : decode cX7_judge 56 = .ok (.getfield 132, 3) := by decide +kernel
theorem dX7_judge_59 : decode cX7_judge 59 = .ok (.iconst 1, 1) := by decide +kernel
theorem dX7_judge_60 : decode cX7_judge 60 = .ok (.if_icmp .eq 40, 3) := by decide +kernel
theorem dX7_judge_63 : decode cX7_judge 63 = .ok (.aload_n 0, 1) := by decide +kernel
theorem dX7_judge_64 : decode cX7_judge 64 = .ok (.getfield 39, 3) := by decide +kernel
theorem dX7_judge_67 : decode cX7_judge 67 = .ok (.getfield 197, 3) := by decide +kernel
theorem dX7_judge_70 : decode cX7_judge 70 = .ok (.aload_n 0, 1) := by decide +kernel
theorem dX7_judge_71 : decode cX7_judge 71 = .ok (.getfield 9, 3) := by decide +kernel
theorem dX7_judge_74 : decode cX7_judge 74 = .ok (.iconst 5, 1) := by decide +kernel
theorem dX7_judge_75 : decode cX7_judge 75 = .ok (.iaload, 1) := by decide +kernel
theorem dX7_judge_76 : decode cX7_judge 76 = .ok (.if_icmp .lt 24, 3) := by decide +kernel
theorem dX7_judge_79 : decode cX7_judge 79 = .ok (.aload_n 0, 1) := by decide +kernel
theorem dX7_judge_80 : decode cX7_judge 80 = .ok (.getfield 39, 3) := by decide +kernel
theorem dX7_judge_83 : decode cX7_judge 83 = .ok (.iconst 1, 1) := by decide +kernel
theorem dX7_judge_84 : decode cX7_judge 84 = .ok (.putfield 132, 3) := by decide +kernel
theorem dX7_judge_87 : decode cX7_judge 87 = .ok (.aload_n 0, 1) := by decide +kernel
theorem dX7_judge_88 : decode cX7_judge 88 = .ok (.getfield 46, 3) := by decide +kernel
theorem dX7_judge_91 : decode cX7_judge 91 = .ok (.dup, 1) := by decide +kernel
theorem dX7_judge_92 : decode cX7_judge 92 = .ok (.getfield 203, 3) := by decide +kernel
theorem dX7_judge_95 : decode cX7_judge 95 = .ok (.iconst 1, 1) := by decide +kernel
theorem dX7_judge_96 : decode cX7_judge 96 = .ok (.iadd, 1) := by decide +kernel
theorem dX7_judge_97 : decode cX7_judge 97 = .ok (.putfield 203, 3) := by decide +kernel
theorem dX7_judge_100 : decode cX7_judge 100 = .ok (.aload_n 0, 1) := by decide +kernel
theorem dX7_judge_101 : decode cX7_judge 101 = .ok (.getfield 39, 3) := by decide +kernel
theorem dX7_judge_104 : decode cX7_judge 104 = .ok (.getfield 132, 3) := by decide +kernel
theorem dX7_judge_107 : decode cX7_judge 107 = .ok (.ifCond .eq 24, 3) := by decide +kernel
theorem dX7_judge_110 : decode cX7_judge 110 = .ok (.aload_n 0, 1) := by decide +kernel
theorem dX7_judge_111 : decode cX7_judge 111 = .ok (.getfield 39, 3) := by decide +kernel
theorem dX7_judge_114 : decode cX7_judge 114 = .ok (.getfield 200, 3) := by decide +kernel
theorem dX7_judge_117 : decode cX7_judge 117 = .ok (.aload_n 0, 1) := by decide +kernel
theorem dX7_judge_118 : decode cX7_judge 118 = .ok (.getfield 9, 3) := by decide +kernel
theorem dX7_judge_121 : decode cX7_judge 121 = .ok (.bipush 6, 2) := by decide +kernel
theorem dX7_judge_123 : decode cX7_judge 123 = .ok (.iaload, 1) := by decide +kernel
theorem dX7_judge_124 : decode cX7_judge 124 = .ok (.if_icmp .lt 7, 3) := by decide +kernel
theorem dX7_judge_127 : decode cX7_judge 127 = .ok (.aload_n 0, 1) := by decide +kernel
theorem dX7_judge_128 : decode cX7_judge 128 = .ok (.invokevirtual 206, 3) := by decide +kernel
theorem dX7_judge_131 : decode cX7_judge 131 = .ok (.return_, 1) := by decide +kernel
theorem dX7_loseLock_0 : decode cX7_loseLock 0 = .ok (.aload_n 0, 1) := by decide +kernel
theorem dX7_loseLock_1 : decode cX7_loseLock 1 = .ok (.getfield 39, 3) := by decide +kernel
theorem dX7_loseLock_4 : decode cX7_loseLock 4 = .ok (.iconst 0, 1) := by decide +kernel
theorem dX7_loseLock_5 : decode cX7_loseLock 5 = .ok (.putfield 132, 3) := by decide +kernel
theorem dX7_loseLock_8 : decode cX7_loseLock 8 = .ok (.aload_n 0, 1) := by decide +kernel
theorem dX7_loseLock_9 : decode cX7_loseLock 9 = .ok (.getfield 39, 3) := by decide +kernel
theorem dX7_loseLock_12 : decode cX7_loseLock 12 = .ok (.iconst 0, 1) := by decide +kernel
theorem dX7_loseLock_13 : decode cX7_loseLock 13 = .ok (.putfield 197, 3) := by decide +kernel
theorem dX7_loseLock_16 : decode cX7_loseLock 16 = .ok (.aload_n 0, 1) := by decide +kernel
theorem dX7_loseLock_17 : decode cX7_loseLock 17 = .ok (.getfield 39, 3) := by decide +kernel
theorem dX7_loseLock_20 : decode cX7_loseLock 20 = .ok (.iconst 0, 1) := by decide +kernel
theorem dX7_loseLock_21 : decode cX7_loseLock 21 = .ok (.putfield 200, 3) := by decide +kernel
theorem dX7_loseLock_24 : decode cX7_loseLock 24 = .ok (.aload_n 0, 1) := by decide +kernel
theorem dX7_loseLock_25 : decode cX7_loseLock 25 = .ok (.getfield 46, 3) := by decide +kernel
theorem dX7_loseLock_28 : decode cX7_loseLock 28 = .ok (.dup, 1) := by decide +kernel
theorem dX7_loseLock_29 : decode cX7_loseLock 29 = .ok (.getfield 209, 3) := by decide +kernel
theorem dX7_loseLock_32 : decode cX7_loseLock 32 = .ok (.iconst 1, 1) := by decide +kernel
theorem dX7_loseLock_33 : decode cX7_loseLock 33 = .ok (.iadd, 1) := by decide +kernel
theorem dX7_loseLock_34 : decode cX7_loseLock 34 = .ok (.putfield 209, 3) := by decide +kernel
theorem dX7_loseLock_37 : decode cX7_loseLock 37 = .ok (.return_, 1) := by decide +kernel
set_option maxRecDepth 20000 in
theorem ggX7_fallSilent_X7_loseLock : GoodIn wsX7_fallSilent wsX7_loseLock := goodIn_r _ [13, 3, 4, 5, 6, 1, 14, 15, 16, 17, 18, 19, 20, 21, 32, 33, 34, 35, 36, 37, 38, 22, 23, 24, 25, 26, 27, 28, 29, 30, 31] (by decide +kernel) (by decide +kernel)
set_option maxRecDepth 20000 in
theorem gX7_fallSilent_X7_loseLock : GoodIn wsX7_fallSilent (wsV RX7 206 RX7 yX7_loseLock wsX7_loseLock) := goodIn_app (goodIn_of _ (by decide +kernel)) ggX7_fallSilent_X7_loseLock
theorem dX7_fallSilent_0 : decode cX7_fallSilent 0 = .ok (.aload_n 0, 1) := by decide +kernel
theorem dX7_fallSilent_1 : decode cX7_fallSilent 1 = .ok (.getfield 46, 3) := by decide +kernel
theorem dX7_fallSilent_4 : decode cX7_fallSilent 4 = .ok (.dup, 1) := by decide +kernel
theorem dX7_fallSilent_5 : decode cX7_fallSilent 5 = .ok (.getfield 212, 3) := by decide +kernel
theorem dX7_fallSilent_8 : decode cX7_fallSilent 8 = .ok (.iconst 1, 1) := by decide +kernel
theorem dX7_fallSilent_9 : decode cX7_fallSilent 9 = .ok (.iadd, 1) := by decide +kernel
theorem dX7_fallSilent_10 : decode cX7_fallSilent 10 = .ok (.putfield 212, 3) := by decide +kernel
theorem dX7_fallSilent_13 : decode cX7_fallSilent 13 = .ok (.aload_n 0, 1) := by decide +kernel
theorem dX7_fallSilent_14 : decode cX7_fallSilent 14 = .ok (.getfield 39, 3) := by decide +kernel
theorem dX7_fallSilent_17 : decode cX7_fallSilent 17 = .ok (.getfield 132, 3) := by decide +kernel
theorem dX7_fallSilent_20 : decode cX7_fallSilent 20 = .ok (.ifCond .eq 7, 3) := by decide +kernel
theorem dX7_fallSilent_23 : decode cX7_fallSilent 23 = .ok (.aload_n 0, 1) := by decide +kernel
theorem dX7_fallSilent_24 : decode cX7_fallSilent 24 = .ok (.invokevirtual 206, 3) := by decide +kernel
theorem dX7_fallSilent_27 : decode cX7_fallSilent 27 = .ok (.aload_n 0, 1) := by decide +kernel
theorem dX7_fallSilent_28 : decode cX7_fallSilent 28 = .ok (.getfield 39, 3) := by decide +kernel
theorem dX7_fallSilent_31 : decode cX7_fallSilent 31 = .ok (.iconst 0, 1) := by decide +kernel
theorem dX7_fallSilent_32 : decode cX7_fallSilent 32 = .ok (.putfield 197, 3) := by decide +kernel
theorem dX7_fallSilent_35 : decode cX7_fallSilent 35 = .ok (.aload_n 0, 1) := by decide +kernel
theorem dX7_fallSilent_36 : decode cX7_fallSilent 36 = .ok (.getfield 39, 3) := by decide +kernel
theorem dX7_fallSilent_39 : decode cX7_fallSilent 39 = .ok (.iconst 0, 1) := by decide +kernel
theorem dX7_fallSilent_40 : decode cX7_fallSilent 40 = .ok (.putfield 200, 3) := by decide +kernel
theorem dX7_fallSilent_43 : decode cX7_fallSilent 43 = .ok (.aload_n 0, 1) := by decide +kernel
theorem dX7_fallSilent_44 : decode cX7_fallSilent 44 = .ok (.getfield 39, 3) := by decide +kernel
theorem dX7_fallSilent_47 : decode cX7_fallSilent 47 = .ok (.iconst 0, 1) := by decide +kernel
theorem dX7_fallSilent_48 : decode cX7_fallSilent 48 = .ok (.putfield 179, 3) := by decide +kernel
theorem dX7_fallSilent_51 : decode cX7_fallSilent 51 = .ok (.aload_n 0, 1) := by decide +kernel
theorem dX7_fallSilent_52 : decode cX7_fallSilent 52 = .ok (.getfield 39, 3) := by decide +kernel
theorem dX7_fallSilent_55 : decode cX7_fallSilent 55 = .ok (.bipush (-6), 2) := by decide +kernel
theorem dX7_fallSilent_57 : decode cX7_fallSilent 57 = .ok (.putfield 120, 3) := by decide +kernel
theorem dX7_fallSilent_60 : decode cX7_fallSilent 60 = .ok (.return_, 1) := by decide +kernel
theorem dX8_init_0 : decode cX8_init 0 = .ok (.aload_n 0, 1) := by decide +kernel
theorem dX8_init_1 : decode cX8_init 1 = .ok (.invokespecial 1, 3) := by decide +kernel
theorem dX8_init_4 : decode cX8_init 4 = .ok (.return_, 1) := by decide +kernel
theorem dX8_addSlip_0 : decode cX8_addSlip 0 = .ok (.aload_n 0, 1) := by decide +kernel
theorem dX8_addSlip_1 : decode cX8_addSlip 1 = .ok (.dup, 1) := by decide +kernel
theorem dX8_addSlip_2 : decode cX8_addSlip 2 = .ok (.getfield 7, 3) := by decide +kernel
theorem dX8_addSlip_5 : decode cX8_addSlip 5 = .ok (.iload_n 1, 1) := by decide +kernel
theorem dX8_addSlip_6 : decode cX8_addSlip 6 = .ok (.iadd, 1) := by decide +kernel
theorem dX8_addSlip_7 : decode cX8_addSlip 7 = .ok (.putfield 7, 3) := by decide +kernel
theorem dX8_addSlip_10 : decode cX8_addSlip 10 = .ok (.iload_n 1, 1) := by decide +kernel
theorem dX8_addSlip_11 : decode cX8_addSlip 11 = .ok (.ifCond .eq 13, 3) := by decide +kernel
theorem dX8_addSlip_14 : decode cX8_addSlip 14 = .ok (.aload_n 0, 1) := by decide +kernel
theorem dX8_addSlip_15 : decode cX8_addSlip 15 = .ok (.dup, 1) := by decide +kernel
theorem dX8_addSlip_16 : decode cX8_addSlip 16 = .ok (.getfield 13, 3) := by decide +kernel
theorem dX8_addSlip_19 : decode cX8_addSlip 19 = .ok (.iconst 1, 1) := by decide +kernel
theorem dX8_addSlip_20 : decode cX8_addSlip 20 = .ok (.iadd, 1) := by decide +kernel
theorem dX8_addSlip_21 : decode cX8_addSlip 21 = .ok (.putfield 13, 3) := by decide +kernel
theorem dX8_addSlip_24 : decode cX8_addSlip 24 = .ok (.return_, 1) := by decide +kernel
theorem dX8_clear_0 : decode cX8_clear 0 = .ok (.aload_n 0, 1) := by decide +kernel
theorem dX8_clear_1 : decode cX8_clear 1 = .ok (.iconst 0, 1) := by decide +kernel
theorem dX8_clear_2 : decode cX8_clear 2 = .ok (.putfield 16, 3) := by decide +kernel
theorem dX8_clear_5 : decode cX8_clear 5 = .ok (.aload_n 0, 1) := by decide +kernel
theorem dX8_clear_6 : decode cX8_clear 6 = .ok (.iconst 0, 1) := by decide +kernel
theorem dX8_clear_7 : decode cX8_clear 7 = .ok (.putfield 19, 3) := by decide +kernel
theorem dX8_clear_10 : decode cX8_clear 10 = .ok (.aload_n 0, 1) := by decide +kernel
theorem dX8_clear_11 : decode cX8_clear 11 = .ok (.iconst 0, 1) := by decide +kernel
theorem dX8_clear_12 : decode cX8_clear 12 = .ok (.putfield 22, 3) := by decide +kernel
theorem dX8_clear_15 : decode cX8_clear 15 = .ok (.aload_n 0, 1) := by decide +kernel
theorem dX8_clear_16 : decode cX8_clear 16 = .ok (.iconst 0, 1) := by decide +kernel
theorem dX8_clear_17 : decode cX8_clear 17 = .ok (.putfield 25, 3) := by decide +kernel
theorem dX8_clear_20 : decode cX8_clear 20 = .ok (.aload_n 0, 1) := by decide +kernel
theorem dX8_clear_21 : decode cX8_clear 21 = .ok (.iconst 0, 1) := by decide +kernel
theorem dX8_clear_22 : decode cX8_clear 22 = .ok (.putfield 28, 3) := by decide +kernel
theorem dX8_clear_25 : decode cX8_clear 25 = .ok (.aload_n 0, 1) := by decide +kernel
theorem dX8_clear_26 : decode cX8_clear 26 = .ok (.iconst 0, 1) := by decide +kernel
theorem dX8_clear_27 : decode cX8_clear 27 = .ok (.putfield 31, 3) := by decide +kernel
theorem dX8_clear_30 : decode cX8_clear 30 = .ok (.aload_n 0, 1) := by decide +kernel
theorem dX8_clear_31 : decode cX8_clear 31 = .ok (.iconst 0, 1) := by decide +kernel
theorem dX8_clear_32 : decode cX8_clear 32 = .ok (.putfield 13, 3) := by decide +kernel
theorem dX8_clear_35 : decode cX8_clear 35 = .ok (.aload_n 0, 1) := by decide +kernel
theorem dX8_clear_36 : decode cX8_clear 36 = .ok (.iconst 0, 1) := by decide +kernel
theorem dX8_clear_37 : decode cX8_clear 37 = .ok (.putfield 7, 3) := by decide +kernel
theorem dX8_clear_40 : decode cX8_clear 40 = .ok (.aload_n 0, 1) := by decide +kernel
theorem dX8_clear_41 : decode cX8_clear 41 = .ok (.iconst 0, 1) := by decide +kernel
theorem dX8_clear_42 : decode cX8_clear 42 = .ok (.putfield 34, 3) := by decide +kernel
theorem dX8_clear_45 : decode cX8_clear 45 = .ok (.aload_n 0, 1) := by decide +kernel
theorem dX8_clear_46 : decode cX8_clear 46 = .ok (.iconst 0, 1) := by decide +kernel
theorem dX8_clear_47 : decode cX8_clear 47 = .ok (.putfield 37, 3) := by decide +kernel
theorem dX8_clear_50 : decode cX8_clear 50 = .ok (.return_, 1) := by decide +kernel
theorem dX8_copyFrom_0 : decode cX8_copyFrom 0 = .ok (.aload_n 0, 1) := by decide +kernel
theorem dX8_copyFrom_1 : decode cX8_copyFrom 1 = .ok (.aload_n 1, 1) := by decide +kernel
theorem dX8_copyFrom_2 : decode cX8_copyFrom 2 = .ok (.getfield 16, 3) := by decide +kernel
theorem dX8_copyFrom_5 : decode cX8_copyFrom 5 = .ok (.putfield 16, 3) := by decide +kernel
theorem dX8_copyFrom_8 : decode cX8_copyFrom 8 = .ok (.aload_n 0, 1) := by decide +kernel
theorem dX8_copyFrom_9 : decode cX8_copyFrom 9 = .ok (.aload_n 1, 1) := by decide +kernel
theorem dX8_copyFrom_10 : decode cX8_copyFrom 10 = .ok (.getfield 19, 3) := by decide +kernel
theorem dX8_copyFrom_13 : decode cX8_copyFrom 13 = .ok (.putfield 19, 3) := by decide +kernel
theorem dX8_copyFrom_16 : decode cX8_copyFrom 16 = .ok (.aload_n 0, 1) := by decide +kernel
theorem dX8_copyFrom_17 : decode cX8_copyFrom 17 = .ok (.aload_n 1, 1) := by decide +kernel
theorem dX8_copyFrom_18 : decode cX8_copyFrom 18 = .ok (.getfield 22, 3) := by decide +kernel
theorem dX8_copyFrom_21 : decode cX8_copyFrom 21 = .ok (.putfield 22, 3) := by decide +kernel
theorem dX8_copyFrom_24 : decode cX8_copyFrom 24 = .ok (.aload_n 0, 1) := by decide +kernel
theorem dX8_copyFrom_25 : decode cX8_copyFrom 25 = .ok (.aload_n 1, 1) := by decide +kernel
theorem dX8_copyFrom_26 : decode cX8_copyFrom 26 = .ok (.getfield 25, 3) := by decide +kernel
theorem dX8_copyFrom_29 : decode cX8_copyFrom 29 = .ok (.putfield 25, 3) := by decide +kernel
theorem dX8_copyFrom_32 : decode cX8_copyFrom 32 = .ok (.aload_n 0, 1) := by decide +kernel
theorem dX8_copyFrom_33 : decode cX8_copyFrom 33 = .ok (.aload_n 1, 1) := by decide +kernel
theorem dX8_copyFrom_34 : decode cX8_copyFrom 34 = .ok (.getfield 28, 3) := by decide +kernel
theorem dX8_copyFrom_37 : decode cX8_copyFrom 37 = .ok (.putfield 28, 3) := by decide +kernel
theorem dX8_copyFrom_40 : decode cX8_copyFrom 40 = .ok (.aload_n 0, 1) := by decide +kernel
theorem dX8_copyFrom_41 : decode cX8_copyFrom 41 = .ok (.aload_n 1, 1) := by decide +kernel
theorem dX8_copyFrom_42 : decode cX8_copyFrom 42 = .ok (.getfield 31, 3) := by decide +kernel
theorem dX8_copyFrom_45 : decode cX8_copyFrom 45 = .ok (.putfield 31, 3) := by decide +kernel
theorem dX8_copyFrom_48 : decode cX8_copyFrom 48 = .ok (.aload_n 0, 1) := by decide +kernel
theorem dX8_copyFrom_49 : decode cX8_copyFrom 49 = .ok (.aload_n 1, 1) := by decide +kernel
theorem dX8_copyFrom_50 : decode cX8_copyFrom 50 = .ok (.getfield 13, 3) := by decide +kernel
theorem dX8_copyFrom_53 : decode cX8_copyFrom 53 = .ok (.putfield 13, 3) := by decide +kernel
theorem dX8_copyFrom_56 : decode cX8_copyFrom 56 = .ok (.aload_n 0, 1) := by decide +kernel
theorem dX8_copyFrom_57 : decode cX8_copyFrom 57 = .ok (.aload_n 1, 1) := by decide +kernel
theorem dX8_copyFrom_58 : decode cX8_copyFrom 58 = .ok (.getfield 7, 3) := by decide +kernel
theorem dX8_copyFrom_61 : decode cX8_copyFrom 61 = .ok (.putfield 7, 3) := by decide +kernel
theorem dX8_copyFrom_64 : decode cX8_copyFrom 64 = .ok (.aload_n 0, 1) := by decide +kernel
theorem dX8_copyFrom_65 : decode cX8_copyFrom 65 = .ok (.aload_n 1, 1) := by decide +kernel
theorem dX8_copyFrom_66 : decode cX8_copyFrom 66 = .ok (.getfield 34, 3) := by decide +kernel
theorem dX8_copyFrom_69 : decode cX8_copyFrom 69 = .ok (.putfield 34, 3) := by decide +kernel
theorem dX8_copyFrom_72 : decode cX8_copyFrom 72 = .ok (.aload_n 0, 1) := by decide +kernel
theorem dX8_copyFrom_73 : decode cX8_copyFrom 73 = .ok (.aload_n 1, 1) := by decide +kernel
theorem dX8_copyFrom_74 : decode cX8_copyFrom 74 = .ok (.getfield 37, 3) := by decide +kernel
theorem dX8_copyFrom_77 : decode cX8_copyFrom 77 = .ok (.putfield 37, 3) := by decide +kernel
theorem dX8_copyFrom_80 : decode cX8_copyFrom 80 = .ok (.return_, 1) := by decide +kernel
set_option maxRecDepth 20000 in
theorem ggX9_init_X7_init : GoodIn wsX9_init wsX7_init := goodIn_r _ [26, 27, 2, 3, 28, 29, 30, 31, 32, 33, 34, 35, 36, 37, 38, 39, 40, 41, 42, 43, 44, 45, 46, 47, 48, 49, 50, 51, 52, 53, 54, 55, 56, 57, 58, 59, 60, 61, 62, 63, 64, 65, 66, 67, 68, 69, 70, 71, 72, 73, 74, 75, 76, 77, 78, 79, 80, 81, 6, 82, 83, 84, 85, 86, 87, 88, 89, 90, 91, 92, 93, 94, 95, 96, 97, 98, 99, 100, 101, 102, 103, 104, 105, 106, 107, 108, 109, 110, 111, 112, 113, 131, 132, 133, 134, 135, 136, 137, 157, 158, 159, 160, 161, 162, 163, 164, 165, 166, 167, 168, 169, 170, 171, 172, 173, 174, 175, 176, 177, 178, 179, 180, 181, 182, 183, 184, 185] (by decide +kernel) (by decide +kernel)
set_option maxRecDepth 20000 in
theorem gX9_init_X7_init : GoodIn wsX9_init (wsX7_init) := ggX9_init_X7_init
set_option maxRecDepth 20000 in
theorem ggX9_init_X3_init : GoodIn wsX9_init wsX3_init := goodIn_r _ [116, 117, 2, 3, 118, 119, 5, 6, 120, 25, 26, 27, 28, 29, 30, 31, 32, 33, 34, 35, 36, 37, 38, 39, 40, 41, 42, 43, 44, 45, 46, 47, 48, 49, 50, 51, 52, 53, 54, 55, 56, 57, 58, 59, 60, 61, 62, 63, 64, 65, 66, 67, 68, 69, 70, 71, 72, 73, 74, 75, 76, 77, 78, 79, 80, 81, 82, 83, 84, 85, 86, 87, 88, 89, 90, 91, 92, 93, 94, 95, 96, 97, 98, 99, 100, 101, 102, 103, 104, 105, 106, 107, 108, 109, 110, 111, 112, 113, 145, 146, 147, 131, 132, 133, 134, 135, 136, 137, 157, 158, 159, 160, 161, 162, 163, 164, 165, 166, 167, 168, 169, 170, 171, 172, 173, 174, 175, 176, 177, 178, 179, 180, 181, 182, 183, 184, 185] (by decide +kernel) (by decide +kernel)
set_option maxRecDepth 20000 in
theorem gX9_init_X3_init : GoodIn wsX9_init (wsX3_init) := ggX9_init_X3_init
set_option maxRecDepth 20000 in
theorem ggX9_init_X4_init : GoodIn wsX9_init wsX4_init := goodIn_r _ [122, 123, 2, 3, 124, 125, 148, 149] (by decide +kernel) (by decide +kernel)
set_option maxRecDepth 20000 in
theorem gX9_init_X4_init_n36 : GoodIn wsX9_init (wsX4_init) := ggX9_init_X4_init
set_option maxRecDepth 20000 in
theorem ggX9_init_X6_init : GoodIn wsX9_init wsX6_init := goodIn_r _ [127, 128, 2, 3, 28, 129, 130, 150, 151, 152, 153, 154, 155, 156] (by decide +kernel) (by decide +kernel)
set_option maxRecDepth 20000 in
theorem gX9_init_X6_init_n43 : GoodIn wsX9_init (wsX6_init) := ggX9_init_X6_init
