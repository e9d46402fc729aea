theorem dX9_init_0 : decode cX9_init 0 = .ok (.aload_n 0, 1) := by decide +kernel
theorem dX9_init_1 : decode cX9_init 1 = .ok (.invokespecial 1, 3) := by decide +kernel
theorem dX9_init_4 : decode cX9_init 4 = .ok (.aload_n 0, 1) := by decide +kernel
theorem dX9_init_5 : decode cX9_init 5 = .ok (.new 7, 3) := by decide +kernel
theorem dX9_init_8 : decode cX9_init 8 = .ok (.dup, 1) := by decide +kernel
theorem dX9_init_9 : decode cX9_init 9 = .ok (.invokespecial 9, 3) := by decide +kernel
theorem dX9_init_12 : decode cX9_init 12 = .ok (.putfield 10, 3) := by decide +kernel
theorem dX9_init_15 : decode cX9_init 15 = .ok (.aload_n 0, 1) := by decide +kernel
theorem dX9_init_16 : decode cX9_init 16 = .ok (.new 7, 3) := by decide +kernel
theorem dX9_init_19 : decode cX9_init 19 = .ok (.dup, 1) := by decide +kernel
theorem dX9_init_20 : decode cX9_init 20 = .ok (.invokespecial 9, 3) := by decide +kernel
theorem dX9_init_23 : decode cX9_init 23 = .ok (.putfield 16, 3) := by decide +kernel
theorem dX9_init_26 : decode cX9_init 26 = .ok (.aload_n 0, 1) := by decide +kernel
theorem dX9_init_27 : decode cX9_init 27 = .ok (.new 19, 3) := by decide +kernel
theorem dX9_init_30 : decode cX9_init 30 = .ok (.dup, 1) := by decide +kernel
theorem dX9_init_31 : decode cX9_init 31 = .ok (.invokespecial 21, 3) := by decide +kernel
theorem dX9_init_34 : decode cX9_init 34 = .ok (.putfield 22, 3) := by decide +kernel
theorem dX9_init_37 : decode cX9_init 37 = .ok (.aload_n 0, 1) := by decide +kernel
theorem dX9_init_38 : decode cX9_init 38 = .ok (.iconst 2, 1) := by decide +kernel
theorem dX9_init_39 : decode cX9_init 39 = .ok (.anewarray 7, 3) := by decide +kernel
theorem dX9_init_42 : decode cX9_init 42 = .ok (.putfield 26, 3) := by decide +kernel
theorem dX9_init_45 : decode cX9_init 45 = .ok (.iconst 0, 1) := by decide +kernel
theorem dX9_init_46 : decode cX9_init 46 = .ok (.istore_n 1, 1) := by decide +kernel
theorem dX9_init_47 : decode cX9_init 47 = .ok (.iload_n 1, 1) := by decide +kernel
theorem dX9_init_48 : decode cX9_init 48 = .ok (.iconst 2, 1) := by decide +kernel
theorem dX9_init_49 : decode cX9_init 49 = .ok (.if_icmp .ge 22, 3) := by decide +kernel
theorem dX9_init_52 : decode cX9_init 52 = .ok (.aload_n 0, 1) := by decide +kernel
theorem dX9_init_53 : decode cX9_init 53 = .ok (.getfield 26, 3) := by decide +kernel
theorem dX9_init_56 : decode cX9_init 56 = .ok (.iload_n 1, 1) := by decide +kernel
theorem dX9_init_57 : decode cX9_init 57 = .ok (.new 7, 3) := by decide +kernel
theorem dX9_init_60 : decode cX9_init 60 = .ok (.dup, 1) := by decide +kernel
theorem dX9_init_61 : decode cX9_init 61 = .ok (.invokespecial 9, 3) := by decide +kernel
theorem dX9_init_64 : decode cX9_init 64 = .ok (.aastore, 1) := by decide +kernel
theorem dX9_init_65 : decode cX9_init 65 = .ok (.iinc 1 1, 3) := by decide +kernel
theorem dX9_init_68 : decode cX9_init 68 = .ok (.goto (-21), 3) := by decide +kernel
theorem dX9_init_71 : decode cX9_init 71 = .ok (.aload_n 0, 1) := by decide +kernel
theorem dX9_init_72 : decode cX9_init 72 = .ok (.iconst 2, 1) := by decide +kernel
theorem dX9_init_73 : decode cX9_init 73 = .ok (.newarray .boolean, 2) := by decide +kernel
theorem dX9_init_75 : decode cX9_init 75 = .ok (.putfield 30, 3) := by decide +kernel
theorem dX9_init_78 : decode cX9_init 78 = .ok (.aload_n 0, 1) := by decide +kernel
theorem dX9_init_79 : decode cX9_init 79 = .ok (.new 34, 3) := by decide +kernel
theorem dX9_init_82 : decode cX9_init 82 = .ok (.dup, 1) := by decide +kernel
theorem dX9_init_83 : decode cX9_init 83 = .ok (.invokespecial 36, 3) := by decide +kernel
theorem dX9_init_86 : decode cX9_init 86 = .ok (.putfield 37, 3) := by decide +kernel
theorem dX9_init_89 : decode cX9_init 89 = .ok (.aload_n 0, 1) := by decide +kernel
theorem dX9_init_90 : decode cX9_init 90 = .ok (.new 41, 3) := by decide +kernel
theorem dX9_init_93 : decode cX9_init 93 = .ok (.dup, 1) := by decide +kernel
theorem dX9_init_94 : decode cX9_init 94 = .ok (.invokespecial 43, 3) := by decide +kernel
theorem dX9_init_97 : decode cX9_init 97 = .ok (.putfield 44, 3) := by decide +kernel
theorem dX9_init_100 : decode cX9_init 100 = .ok (.return_, 1) := by decide +kernel
set_option maxRecDepth 20000 in
theorem ggX9_set_X9_isSetting : GoodIn wsX9_set wsX9_isSetting := goodIn_r _ [12, 13, 14, 11, 15] (by decide +kernel) (by decide +kernel)
set_option maxRecDepth 20000 in
theorem gX9_set_X9_isSetting : GoodIn wsX9_set (va_wsS RX9 48 yX9_isSetting wsX9_isSetting) := goodIn_app (goodIn_of _ (by decide +kernel)) ggX9_set_X9_isSetting
set_option maxRecDepth 20000 in
theorem ggX9_set_X3_record : GoodIn wsX9_set wsX3_record := goodIn_r _ [20, 21, 22, 23, 24, 25, 26, 27, 28, 29, 30, 31, 32, 33, 34, 35, 36, 37, 38, 39, 40, 41, 42, 43, 44, 45, 46, 47, 48, 49, 50, 51, 52, 53, 54, 55, 56, 57, 58, 59, 60, 61, 62, 63, 64, 65, 66, 67, 68, 69, 70, 71, 72, 73, 74, 75, 76, 77, 78, 79, 80, 81, 82, 83, 84, 85, 86, 87, 88, 89, 90, 91, 92, 93, 94, 95, 96, 97, 98, 99, 100, 101, 102, 103, 104, 130, 131, 132, 116, 117, 118, 119, 120, 121, 122, 133, 134, 135, 136, 137, 138, 139, 140, 141, 142, 143, 144, 123, 124, 125, 126, 127, 128, 129, 145, 146, 147, 148, 149, 150, 151, 152, 153, 154] (by decide +kernel) (by decide +kernel)
set_option maxRecDepth 20000 in
theorem gX9_set_X3_record : GoodIn wsX9_set (wsV RX9 69 RX3 yX3_record wsX3_record) := goodIn_app (goodIn_of _ (by decide +kernel)) ggX9_set_X3_record
set_option maxRecDepth 20000 in
theorem ggX9_set_X7_firstPeriod : GoodIn wsX9_set wsX7_firstPeriod := goodIn_r _ [108, 37, 116, 117, 118, 119, 120, 121, 122] (by decide +kernel) (by decide +kernel)
set_option maxRecDepth 20000 in
theorem gX9_set_X7_firstPeriod : GoodIn wsX9_set (wsV RX9 76 RX7 yX7_firstPeriod wsX7_firstPeriod) := goodIn_app (goodIn_of _ (by decide +kernel)) ggX9_set_X7_firstPeriod
theorem dX9_set_0 : decode cX9_set 0 = .ok (.iload_n 1, 1) := by decide +kernel
theorem dX9_set_1 : decode cX9_set 1 = .ok (.invokestatic 48, 3) := by decide +kernel
theorem dX9_set_4 : decode cX9_set 4 = .ok (.ifCond .eq 21, 3) := by decide +kernel
theorem dX9_set_7 : decode cX9_set 7 = .ok (.iload_n 2, 1) := by decide +kernel
theorem dX9_set_8 : decode cX9_set 8 = .ok (.getstatic 52, 3) := by decide +kernel
theorem dX9_set_11 : decode cX9_set 11 = .ok (.iload_n 1, 1) := by decide +kernel
theorem dX9_set_12 : decode cX9_set 12 = .ok (.iaload, 1) := by decide +kernel
theorem dX9_set_13 : decode cX9_set 13 = .ok (.if_icmp .lt 12, 3) := by decide +kernel
theorem dX9_set_16 : decode cX9_set 16 = .ok (.iload_n 2, 1) := by decide +kernel
theorem dX9_set_17 : decode cX9_set 17 = .ok (.getstatic 56, 3) := by decide +kernel
theorem dX9_set_20 : decode cX9_set 20 = .ok (.iload_n 1, 1) := by decide +kernel
theorem dX9_set_21 : decode cX9_set 21 = .ok (.iaload, 1) := by decide +kernel
theorem dX9_set_22 : decode cX9_set 22 = .ok (.if_icmp .le 6, 3) := by decide +kernel
theorem dX9_set_25 : decode cX9_set 25 = .ok (.bipush (-2), 2) := by decide +kernel
theorem dX9_set_27 : decode cX9_set 27 = .ok (.ireturn, 1) := by decide +kernel
theorem dX9_set_28 : decode cX9_set 28 = .ok (.iload_n 1, 1) := by decide +kernel
theorem dX9_set_29 : decode cX9_set 29 = .ok (.ifCond .ne 21, 3) := by decide +kernel
theorem dX9_set_32 : decode cX9_set 32 = .ok (.aload_n 0, 1) := by decide +kernel
theorem dX9_set_33 : decode cX9_set 33 = .ok (.getfield 10, 3) := by decide +kernel
theorem dX9_set_36 : decode cX9_set 36 = .ok (.getfield 59, 3) := by decide +kernel
theorem dX9_set_39 : decode cX9_set 39 = .ok (.getfield 63, 3) := by decide +kernel
theorem dX9_set_42 : decode cX9_set 42 = .ok (.bipush (-6), 2) := by decide +kernel
theorem dX9_set_44 : decode cX9_set 44 = .ok (.if_icmp .eq 6, 3) := by decide +kernel
theorem dX9_set_47 : decode cX9_set 47 = .ok (.bipush (-5), 2) := by decide +kernel
theorem dX9_set_49 : decode cX9_set 49 = .ok (.ireturn, 1) := by decide +kernel
theorem dX9_set_50 : decode cX9_set 50 = .ok (.aload_n 0, 1) := by decide +kernel
theorem dX9_set_51 : decode cX9_set 51 = .ok (.getfield 22, 3) := by decide +kernel
theorem dX9_set_54 : decode cX9_set 54 = .ok (.aload_n 0, 1) := by decide +kernel
theorem dX9_set_55 : decode cX9_set 55 = .ok (.getfield 10, 3) := by decide +kernel
theorem dX9_set_58 : decode cX9_set 58 = .ok (.invokevirtual 69, 3) := by decide +kernel
theorem dX9_set_61 : decode cX9_set 61 = .ok (.aload_n 0, 1) := by decide +kernel
theorem dX9_set_62 : decode cX9_set 62 = .ok (.getfield 10, 3) := by decide +kernel
theorem dX9_set_65 : decode cX9_set 65 = .ok (.getfield 73, 3) := by decide +kernel
theorem dX9_set_68 : decode cX9_set 68 = .ok (.iload_n 1, 1) := by decide +kernel
theorem dX9_set_69 : decode cX9_set 69 = .ok (.iaload, 1) := by decide +kernel
theorem dX9_set_70 : decode cX9_set 70 = .ok (.istore_n 3, 1) := by decide +kernel
theorem dX9_set_71 : decode cX9_set 71 = .ok (.aload_n 0, 1) := by decide +kernel
theorem dX9_set_72 : decode cX9_set 72 = .ok (.getfield 10, 3) := by decide +kernel
theorem dX9_set_75 : decode cX9_set 75 = .ok (.getfield 73, 3) := by decide +kernel
theorem dX9_set_78 : decode cX9_set 78 = .ok (.iload_n 1, 1) := by decide +kernel
theorem dX9_set_79 : decode cX9_set 79 = .ok (.iload_n 2, 1) := by decide +kernel
theorem dX9_set_80 : decode cX9_set 80 = .ok (.iastore, 1) := by decide +kernel
theorem dX9_set_81 : decode cX9_set 81 = .ok (.iload_n 1, 1) := by decide +kernel
theorem dX9_set_82 : decode cX9_set 82 = .ok (.ifCond .ne 20, 3) := by decide +kernel
theorem dX9_set_85 : decode cX9_set 85 = .ok (.aload_n 0, 1) := by decide +kernel
theorem dX9_set_86 : decode cX9_set 86 = .ok (.getfield 10, 3) := by decide +kernel
theorem dX9_set_89 : decode cX9_set 89 = .ok (.getfield 59, 3) := by decide +kernel
theorem dX9_set_92 : decode cX9_set 92 = .ok (.aload_n 0, 1) := by decide +kernel
theorem dX9_set_93 : decode cX9_set 93 = .ok (.getfield 10, 3) := by decide +kernel
theorem dX9_set_96 : decode cX9_set 96 = .ok (.invokevirtual 76, 3) := by decide +kernel
theorem dX9_set_99 : decode cX9_set 99 = .ok (.putfield 80, 3) := by decide +kernel
theorem dX9_set_102 : decode cX9_set 102 = .ok (.iload_n 3, 1) := by decide +kernel
theorem dX9_set_103 : decode cX9_set 103 = .ok (.ireturn, 1) := by decide +kernel
set_option maxRecDepth 20000 in
theorem ggX9_beat_X9_isIn : GoodIn wsX9_beat wsX9_isIn := goodIn_r _ [9] (by decide +kernel) (by decide +kernel)
set_option maxRecDepth 20000 in
theorem gX9_beat_X9_isIn : GoodIn wsX9_beat (va_wsS RX9 83 yX9_isIn wsX9_isIn) := goodIn_app (goodIn_of _ (by decide +kernel)) ggX9_beat_X9_isIn
set_option maxRecDepth 20000 in
theorem ggX9_beat_X5_lastTime : GoodIn wsX9_beat wsX5_lastTime := goodIn_r _ [14, 15, 16, 17, 18, 13, 19, 20, 21, 22, 23, 24, 142, 143, 144] (by decide +kernel) (by decide +kernel)
set_option maxRecDepth 20000 in
theorem gX9_beat_X5_lastTime : GoodIn wsX9_beat (wsV RX9 91 RX5 yX5_lastTime wsX5_lastTime) := goodIn_app (goodIn_of _ (by decide +kernel)) ggX9_beat_X5_lastTime
set_option maxRecDepth 20000 in
theorem ggX9_beat_X5_nextNumber : GoodIn wsX9_beat wsX5_nextNumber := goodIn_r _ [28, 15, 29, 30, 31, 13, 32, 33, 21, 22, 23, 24, 142, 143, 144] (by decide +kernel) (by decide +kernel)
set_option maxRecDepth 20000 in
theorem gX9_beat_X5_nextNumber : GoodIn wsX9_beat (wsV RX9 96 RX5 yX5_nextNumber wsX5_nextNumber) := goodIn_app (goodIn_of _ (by decide +kernel)) ggX9_beat_X5_nextNumber
set_option maxRecDepth 20000 in
theorem ggX9_beat_X5_canHold : GoodIn wsX9_beat wsX5_canHold := goodIn_r _ [37, 15, 38, 142, 143, 144] (by decide +kernel) (by decide +kernel)
set_option maxRecDepth 20000 in
theorem gX9_beat_X5_canHold : GoodIn wsX9_beat (wsV RX9 99 RX5 yX5_canHold wsX5_canHold) := goodIn_app (goodIn_of _ (by decide +kernel)) ggX9_beat_X5_canHold
set_option maxRecDepth 20000 in
theorem ggX9_beat_X3_record : GoodIn wsX9_beat wsX3_record := goodIn_r _ [43, 44, 45, 46, 47, 48, 49, 50, 51, 52, 53, 54, 55, 56, 57, 58, 59, 60, 61, 62, 63, 64, 65, 66, 67, 68, 69, 70, 71, 72, 73, 13, 74, 20, 75, 33, 15, 76, 77, 78, 79, 80, 81, 82, 83, 84, 85, 86, 87, 88, 89, 90, 91, 92, 93, 94, 95, 96, 97, 98, 99, 100, 101, 102, 103, 104, 105, 106, 107, 108, 109, 110, 111, 112, 113, 114, 115, 116, 117, 118, 119, 120, 121, 122, 123, 145, 146, 147, 135, 136, 137, 138, 139, 140, 141, 142, 143, 144, 148, 149, 150, 151, 152, 153, 154, 155, 156, 157, 158, 159, 160, 161, 162, 163, 164, 165, 166, 167, 168, 169, 170, 171, 172, 173] (by decide +kernel) (by decide +kernel)
set_option maxRecDepth 20000 in
theorem gX9_beat_X3_record : GoodIn wsX9_beat (wsV RX9 69 RX3 yX3_record wsX3_record) := goodIn_app (goodIn_of _ (by decide +kernel)) ggX9_beat_X3_record
set_option maxRecDepth 20000 in
theorem ggX9_beat_X5_append : GoodIn wsX9_beat wsX5_append := goodIn_r _ [127, 15, 20, 33, 142, 143, 144] (by decide +kernel) (by decide +kernel)
set_option maxRecDepth 20000 in
theorem gX9_beat_X5_append : GoodIn wsX9_beat (wsV RX9 106 RX5 yX5_append wsX5_append) := goodIn_app (goodIn_of _ (by decide +kernel)) ggX9_beat_X5_append
theorem dX9_beat_0 : decode cX9_beat 0 = .ok (.iload_n 1, 1) := by decide +kernel
theorem dX9_beat_1 : decode cX9_beat 1 = .ok (.iconst 1, 1) := by decide +kernel
theorem dX9_beat_2 : decode cX9_beat 2 = .ok (.sipush 9999, 3) := by decide +kernel
theorem dX9_beat_5 : decode cX9_beat 5 = .ok (.invokestatic 83, 3) := by decide +kernel
theorem dX9_beat_8 : decode cX9_beat 8 = .ok (.ifCond .eq 13, 3) := by decide +kernel
theorem dX9_beat_11 : decode cX9_beat 11 = .ok (.iload_n 2, 1) := by decide +kernel
theorem dX9_beat_12 : decode cX9_beat 12 = .ok (.iconst 0, 1) := by decide +kernel
theorem dX9_beat_13 : decode cX9_beat 13 = .ok (.bipush 99, 2) := by decide +kernel
theorem dX9_beat_15 : decode cX9_beat 15 = .ok (.invokestatic 83, 3) := by decide +kernel
theorem dX9_beat_18 : decode cX9_beat 18 = .ok (.ifCond .ne 6, 3) := by decide +kernel
theorem dX9_beat_21 : decode cX9_beat 21 = .ok (.bipush (-2), 2) := by decide +kernel
theorem dX9_beat_23 : decode cX9_beat 23 = .ok (.ireturn, 1) := by decide +kernel
theorem dX9_beat_24 : decode cX9_beat 24 = .ok (.aload_n 0, 1) := by decide +kernel
theorem dX9_beat_25 : decode cX9_beat 25 = .ok (.getfield 10, 3) := by decide +kernel
theorem dX9_beat_28 : decode cX9_beat 28 = .ok (.getfield 87, 3) := by decide +kernel
theorem dX9_beat_31 : decode cX9_beat 31 = .ok (.invokevirtual 91, 3) := by decide +kernel
theorem dX9_beat_34 : decode cX9_beat 34 = .ok (.iload_n 1, 1) := by decide +kernel
theorem dX9_beat_35 : decode cX9_beat 35 = .ok (.iadd, 1) := by decide +kernel
theorem dX9_beat_36 : decode cX9_beat 36 = .ok (.istore_n 3, 1) := by decide +kernel
theorem dX9_beat_37 : decode cX9_beat 37 = .ok (.aload_n 0, 1) := by decide +kernel
theorem dX9_beat_38 : decode cX9_beat 38 = .ok (.getfield 10, 3) := by decide +kernel
theorem dX9_beat_41 : decode cX9_beat 41 = .ok (.getfield 87, 3) := by decide +kernel
theorem dX9_beat_44 : decode cX9_beat 44 = .ok (.invokevirtual 96, 3) := by decide +kernel
theorem dX9_beat_47 : decode cX9_beat 47 = .ok (.iload_n 2, 1) := by decide +kernel
theorem dX9_beat_48 : decode cX9_beat 48 = .ok (.iadd, 1) := by decide +kernel
theorem dX9_beat_49 : decode cX9_beat 49 = .ok (.istore 4, 2) := by decide +kernel
theorem dX9_beat_51 : decode cX9_beat 51 = .ok (.aload_n 0, 1) := by decide +kernel
theorem dX9_beat_52 : decode cX9_beat 52 = .ok (.getfield 10, 3) := by decide +kernel
theorem dX9_beat_55 : decode cX9_beat 55 = .ok (.getfield 87, 3) := by decide +kernel
theorem dX9_beat_58 : decode cX9_beat 58 = .ok (.iload_n 3, 1) := by decide +kernel
theorem dX9_beat_59 : decode cX9_beat 59 = .ok (.iload 4, 2) := by decide +kernel
theorem dX9_beat_61 : decode cX9_beat 61 = .ok (.invokevirtual 99, 3) := by decide +kernel
theorem dX9_beat_64 : decode cX9_beat 64 = .ok (.ifCond .ne 6, 3) := by decide +kernel
theorem dX9_beat_67 : decode cX9_beat 67 = .ok (.bipush (-4), 2) := by decide +kernel
theorem dX9_beat_69 : decode cX9_beat 69 = .ok (.ireturn, 1) := by decide +kernel
theorem dX9_beat_70 : decode cX9_beat 70 = .ok (.iload_n 3, 1) := by decide +kernel
theorem dX9_beat_71 : decode cX9_beat 71 = .ok (.aload_n 0, 1) := by decide +kernel
theorem dX9_beat_72 : decode cX9_beat 72 = .ok (.getfield 10, 3) := by decide +kernel
theorem dX9_beat_75 : decode cX9_beat 75 = .ok (.getfield 103, 3) := by decide +kernel
theorem dX9_beat_78 : decode cX9_beat 78 = .ok (.if_icmp .gt 6, 3) := by decide +kernel
theorem dX9_beat_81 : decode cX9_beat 81 = .ok (.bipush (-5), 2) := by decide +kernel
theorem dX9_beat_83 : decode cX9_beat 83 = .ok (.ireturn, 1) := by decide +kernel
theorem dX9_beat_84 : decode cX9_beat 84 = .ok (.aload_n 0, 1) := by decide +kernel
theorem dX9_beat_85 : decode cX9_beat 85 = .ok (.getfield 22, 3) := by decide +kernel
theorem dX9_beat_88 : decode cX9_beat 88 = .ok (.aload_n 0, 1) := by decide +kernel
theorem dX9_beat_89 : decode cX9_beat 89 = .ok (.getfield 10, 3) := by decide +kernel
theorem dX9_beat_92 : decode cX9_beat 92 = .ok (.invokevirtual 69, 3) := by decide +kernel
theorem dX9_beat_95 : decode cX9_beat 95 = .ok (.aload_n 0, 1) := by decide +kernel
theorem dX9_beat_96 : decode cX9_beat 96 = .ok (.getfield 10, 3) := by decide +kernel
theorem dX9_beat_99 : decode cX9_beat 99 = .ok (.getfield 87, 3) := by decide +kernel
theorem dX9_beat_102 : decode cX9_beat 102 = .ok (.iload_n 3, 1) := by decide +kernel
theorem dX9_beat_103 : decode cX9_beat 103 = .ok (.iload 4, 2) := by decide +kernel
theorem dX9_beat_105 : decode cX9_beat 105 = .ok (.invokevirtual 106, 3) := by decide +kernel
theorem dX9_beat_108 : decode cX9_beat 108 = .ok (.aload_n 0, 1) := by decide +kernel
theorem dX9_beat_109 : decode cX9_beat 109 = .ok (.getfield 10, 3) := by decide +kernel
theorem dX9_beat_112 : decode cX9_beat 112 = .ok (.getfield 87, 3) := by decide +kernel
theorem dX9_beat_115 : decode cX9_beat 115 = .ok (.getfield 110, 3) := by decide +kernel
theorem dX9_beat_118 : decode cX9_beat 118 = .ok (.ireturn, 1) := by decide +kernel
set_option maxRecDepth 20000 in
theorem ggX9_cut_X9_isIn : GoodIn wsX9_cut wsX9_isIn := goodIn_r _ [10] (by decide +kernel) (by decide +kernel)
set_option maxRecDepth 20000 in
theorem gX9_cut_X9_isIn : GoodIn wsX9_cut (va_wsS RX9 83 yX9_isIn wsX9_isIn) := goodIn_app (goodIn_of _ (by decide +kernel)) ggX9_cut_X9_isIn
set_option maxRecDepth 20000 in
theorem ggX9_cut_X3_record : GoodIn wsX9_cut wsX3_record := goodIn_r _ [15, 16, 17, 18, 19, 20, 21, 22, 23, 24, 25, 26, 27, 28, 29, 30, 31, 32, 33, 34, 35, 36, 37, 38, 39, 40, 41, 42, 43, 44, 45, 46, 47, 48, 49, 50, 51, 52, 53, 54, 55, 56, 57, 58, 59, 60, 61, 62, 63, 64, 65, 66, 67, 68, 69, 70, 71, 72, 73, 74, 75, 76, 77, 78, 79, 80, 81, 82, 83, 84, 85, 86, 87, 88, 89, 90, 91, 92, 93, 94, 95, 96, 97, 98, 99, 127, 128, 129, 107, 108, 109, 110, 111, 112, 113, 114, 115, 116, 130, 131, 132, 133, 134, 135, 136, 137, 138, 139, 140, 141, 142, 143, 144, 145, 117, 118, 119, 120, 121, 122, 123, 124, 125, 126] (by decide +kernel) (by decide +kernel)
set_option maxRecDepth 20000 in
theorem gX9_cut_X3_record : GoodIn wsX9_cut (wsV RX9 69 RX3 yX3_record wsX3_record) := goodIn_app (goodIn_of _ (by decide +kernel)) ggX9_cut_X3_record
theorem dX9_cut_0 : decode cX9_cut 0 = .ok (.iload_n 1, 1) := by decide +kernel
theorem dX9_cut_1 : decode cX9_cut 1 = .ok (.iconst 1, 1) := by decide +kernel
theorem dX9_cut_2 : decode cX9_cut 2 = .ok (.bipush 64, 2) := by decide +kernel
theorem dX9_cut_4 : decode cX9_cut 4 = .ok (.invokestatic 83, 3) := by decide +kernel
theorem dX9_cut_7 : decode cX9_cut 7 = .ok (.ifCond .ne 6, 3) := by decide +kernel
theorem dX9_cut_10 : decode cX9_cut 10 = .ok (.bipush (-2), 2) := by decide +kernel
theorem dX9_cut_12 : decode cX9_cut 12 = .ok (.ireturn, 1) := by decide +kernel
theorem dX9_cut_13 : decode cX9_cut 13 = .ok (.iload_n 1, 1) := by decide +kernel
theorem dX9_cut_14 : decode cX9_cut 14 = .ok (.aload_n 0, 1) := by decide +kernel
theorem dX9_cut_15 : decode cX9_cut 15 = .ok (.getfield 10, 3) := by decide +kernel
theorem dX9_cut_18 : decode cX9_cut 18 = .ok (.getfield 87, 3) := by decide +kernel
theorem dX9_cut_21 : decode cX9_cut 21 = .ok (.getfield 110, 3) := by decide +kernel
theorem dX9_cut_24 : decode cX9_cut 24 = .ok (.aload_n 0, 1) := by decide +kernel
theorem dX9_cut_25 : decode cX9_cut 25 = .ok (.getfield 10, 3) := by decide +kernel
theorem dX9_cut_28 : decode cX9_cut 28 = .ok (.getfield 113, 3) := by decide +kernel
theorem dX9_cut_31 : decode cX9_cut 31 = .ok (.getfield 117, 3) := by decide +kernel
theorem dX9_cut_34 : decode cX9_cut 34 = .ok (.isub, 1) := by decide +kernel
theorem dX9_cut_35 : decode cX9_cut 35 = .ok (.if_icmp .le 6, 3) := by decide +kernel
theorem dX9_cut_38 : decode cX9_cut 38 = .ok (.bipush (-5), 2) := by decide +kernel
theorem dX9_cut_40 : decode cX9_cut 40 = .ok (.ireturn, 1) := by decide +kernel
theorem dX9_cut_41 : decode cX9_cut 41 = .ok (.aload_n 0, 1) := by decide +kernel
theorem dX9_cut_42 : decode cX9_cut 42 = .ok (.getfield 22, 3) := by decide +kernel
theorem dX9_cut_45 : decode cX9_cut 45 = .ok (.aload_n 0, 1) := by decide +kernel
theorem dX9_cut_46 : decode cX9_cut 46 = .ok (.getfield 10, 3) := by decide +kernel
theorem dX9_cut_49 : decode cX9_cut 49 = .ok (.invokevirtual 69, 3) := by decide +kernel
theorem dX9_cut_52 : decode cX9_cut 52 = .ok (.aload_n 0, 1) := by decide +kernel
theorem dX9_cut_53 : decode cX9_cut 53 = .ok (.getfield 10, 3) := by decide +kernel
theorem dX9_cut_56 : decode cX9_cut 56 = .ok (.getfield 87, 3) := by decide +kernel
theorem dX9_cut_59 : decode cX9_cut 59 = .ok (.dup, 1) := by decide +kernel
theorem dX9_cut_60 : decode cX9_cut 60 = .ok (.getfield 110, 3) := by decide +kernel
theorem dX9_cut_63 : decode cX9_cut 63 = .ok (.iload_n 1, 1) := by decide +kernel
theorem dX9_cut_64 : decode cX9_cut 64 = .ok (.isub, 1) := by decide +kernel
theorem dX9_cut_65 : decode cX9_cut 65 = .ok (.putfield 110, 3) := by decide +kernel
theorem dX9_cut_68 : decode cX9_cut 68 = .ok (.aload_n 0, 1) := by decide +kernel
theorem dX9_cut_69 : decode cX9_cut 69 = .ok (.getfield 10, 3) := by decide +kernel
theorem dX9_cut_72 : decode cX9_cut 72 = .ok (.getfield 87, 3) := by decide +kernel
theorem dX9_cut_75 : decode cX9_cut 75 = .ok (.getfield 110, 3) := by decide +kernel
theorem dX9_cut_78 : decode cX9_cut 78 = .ok (.ireturn, 1) := by decide +kernel
set_option maxRecDepth 20000 in
theorem ggX9_pass_X9_isIn : GoodIn wsX9_pass wsX9_isIn := goodIn_r _ [8] (by decide +kernel) (by decide +kernel)
set_option maxRecDepth 20000 in
theorem gX9_pass_X9_isIn : GoodIn wsX9_pass (va_wsS RX9 83 yX9_isIn wsX9_isIn) := goodIn_app (goodIn_of _ (by decide +kernel)) ggX9_pass_X9_isIn
set_option maxRecDepth 20000 in
theorem ggX9_pass_X3_record : GoodIn wsX9_pass wsX3_record := goodIn_r _ [13, 14, 15, 16, 17, 18, 19, 20, 21, 22, 23, 24, 25, 26, 27, 28, 29, 30, 31, 32, 33, 34, 35, 36, 37, 38, 39, 40, 41, 42, 43, 44, 45, 46, 47, 48, 49, 50, 51, 52, 53, 54, 55, 56, 57, 58, 59, 60, 61, 62, 63, 64, 65, 66, 67, 68, 69, 70, 71, 72, 73, 74, 75, 76, 77, 78, 79, 80, 81, 82, 83, 84, 85, 86, 87, 88, 89, 90, 91, 92, 93, 94, 95, 96, 97, 224, 225, 226, 217, 218, 219, 220, 221, 222, 223, 227, 228, 229, 230, 231, 232, 233, 234, 235, 236, 237, 238, 239, 240, 241, 242, 243, 244, 245, 246, 247, 248, 249, 250, 251, 252, 253, 254, 255] (by decide +kernel) (by decide +kernel)
set_option maxRecDepth 20000 in
theorem gX9_pass_X3_record : GoodIn wsX9_pass (wsV RX9 69 RX3 yX3_record wsX3_record) := goodIn_app (goodIn_of _ (by decide +kernel)) ggX9_pass_X3_record
set_option maxRecDepth 20000 in
theorem ggX9_pass_X7_runTo : GoodIn wsX9_pass wsX7_runTo := goodIn_r _ [101, 39, 102, 35, 103, 104, 105, 18, 19, 20, 40, 106, 107, 108, 44, 109, 46, 110, 111, 112, 113, 49, 114, 115, 116, 28, 117, 38, 118, 119, 120, 121, 122, 123, 30, 124, 125, 23, 126, 127, 128, 129, 130, 131, 132, 133, 37, 134, 135, 136, 137, 138, 139, 140, 141, 142, 143, 144, 145, 146, 147, 148, 149, 150, 151, 152, 153, 63, 154, 70, 65, 67, 68, 69, 155, 156, 157, 158, 159, 160, 161, 162, 163, 164, 165, 166, 167, 168, 169, 170, 171, 172, 173, 36, 174, 175, 176, 177, 48, 178, 179, 180, 53, 181, 55, 57, 58, 59, 182, 183, 184, 185, 186, 187, 188, 189, 190, 191, 192, 193, 194, 195, 196, 197, 198, 199, 200, 201, 202, 203, 204, 205, 206, 207, 208, 86, 209, 95, 94, 217, 218, 219, 220, 221, 222, 223, 246, 247, 248, 249, 250, 251, 252, 253, 254, 255, 227, 228, 229, 239, 240, 241, 242, 243, 244, 245, 234, 235, 236, 237, 238, 230, 231, 232, 233] (by decide +kernel) (by decide +kernel)
set_option maxRecDepth 20000 in
theorem gX9_pass_X7_runTo : GoodIn wsX9_pass (wsV RX9 123 RX7 yX7_runTo wsX7_runTo) := goodIn_app (goodIn_of _ (by decide +kernel)) ggX9_pass_X7_runTo
theorem dX9_pass_0 : decode cX9_pass 0 = .ok (.iload_n 1, 1) := by decide +kernel
theorem dX9_pass_1 : decode cX9_pass 1 = .ok (.iconst 1, 1) := by decide +kernel
theorem dX9_pass_2 : decode cX9_pass 2 = .ok (.sipush 10000, 3) := by decide +kernel
theorem dX9_pass_5 : decode cX9_pass 5 = .ok (.invokestatic 83, 3) := by decide +kernel
theorem dX9_pass_8 : decode cX9_pass 8 = .ok (.ifCond .ne 6, 3) := by decide +kernel
theorem dX9_pass_11 : decode cX9_pass 11 = .ok (.bipush (-2), 2) := by decide +kernel
theorem dX9_pass_13 : decode cX9_pass 13 = .ok (.ireturn, 1) := by decide +kernel
theorem dX9_pass_14 : decode cX9_pass 14 = .ok (.aload_n 0, 1) := by decide +kernel
theorem dX9_pass_15 : decode cX9_pass 15 = .ok (.getfield 10, 3) := by decide +kernel
theorem dX9_pass_18 : decode cX9_pass 18 = .ok (.getfield 103, 3) := by decide +kernel
theorem dX9_pass_21 : decode cX9_pass 21 = .ok (.iload_n 1, 1) := by decide +kernel
theorem dX9_pass_22 : decode cX9_pass 22 = .ok (.iadd, 1) := by decide +kernel
theorem dX9_pass_23 : decode cX9_pass 23 = .ok (.ldc 122, 2) := by decide +kernel
theorem dX9_pass_25 : decode cX9_pass 25 = .ok (.if_icmp .le 6, 3) := by decide +kernel
theorem dX9_pass_28 : decode cX9_pass 28 = .ok (.bipush (-4), 2) := by decide +kernel
theorem dX9_pass_30 : decode cX9_pass 30 = .ok (.ireturn, 1) := by decide +kernel
theorem dX9_pass_31 : decode cX9_pass 31 = .ok (.aload_n 0, 1) := by decide +kernel
theorem dX9_pass_32 : decode cX9_pass 32 = .ok (.getfield 22, 3) := by decide +kernel
theorem dX9_pass_35 : decode cX9_pass 35 = .ok (.aload_n 0, 1) := by decide +kernel
theorem dX9_pass_36 : decode cX9_pass 36 = .ok (.getfield 10, 3) := by decide +kernel
theorem dX9_pass_39 : decode cX9_pass 39 = .ok (.invokevirtual 69, 3) := by decide +kernel
theorem dX9_pass_42 : decode cX9_pass 42 = .ok (.aload_n 0, 1) := by decide +kernel
theorem dX9_pass_43 : decode cX9_pass 43 = .ok (.getfield 10, 3) := by decide +kernel
theorem dX9_pass_46 : decode cX9_pass 46 = .ok (.aload_n 0, 1) := by decide +kernel
theorem dX9_pass_47 : decode cX9_pass 47 = .ok (.getfield 10, 3) := by decide +kernel
theorem dX9_pass_50 : decode cX9_pass 50 = .ok (.getfield 103, 3) := by decide +kernel
theorem dX9_pass_53 : decode cX9_pass 53 = .ok (.iload_n 1, 1) := by decide +kernel
theorem dX9_pass_54 : decode cX9_pass 54 = .ok (.iadd, 1) := by decide +kernel
theorem dX9_pass_55 : decode cX9_pass 55 = .ok (.invokevirtual 123, 3) := by decide +kernel
theorem dX9_pass_58 : decode cX9_pass 58 = .ok (.aload_n 0, 1) := by decide +kernel
theorem dX9_pass_59 : decode cX9_pass 59 = .ok (.getfield 10, 3) := by decide +kernel
theorem dX9_pass_62 : decode cX9_pass 62 = .ok (.getfield 103, 3) := by decide +kernel
theorem dX9_pass_65 : decode cX9_pass 65 = .ok (.ireturn, 1) := by decide +kernel
set_option maxRecDepth 20000 in
theorem ggX9_anew_X3_record : GoodIn wsX9_anew wsX3_record := goodIn_r _ [9, 10, 11, 12, 13, 14, 15, 16, 17, 18, 19, 20, 21, 22, 23, 24, 25, 26, 27, 28, 29, 30, 31, 32, 33, 34, 35, 36, 37, 38, 39, 40, 41, 42, 43, 44, 45, 46, 47, 48, 49, 50, 51, 52, 53, 54, 55, 56, 57, 58, 59, 60, 61, 62, 63, 64, 65, 66, 67, 68, 69, 70, 71, 72, 73, 74, 75, 76, 77, 78, 79, 80, 81, 82, 83, 84, 85, 86, 87, 88, 89, 90, 91, 92, 93, 128, 129, 130, 118, 119, 120, 121, 122, 123, 124, 125, 126, 127, 131, 132, 133, 134, 135, 136, 137, 138, 139, 140, 141, 142, 143, 144, 145, 146, 147, 148, 149, 150, 151, 152, 153, 154, 155, 156] (by decide +kernel) (by decide +kernel)
set_option maxRecDepth 20000 in
theorem gX9_anew_X3_record : GoodIn wsX9_anew (wsV RX9 69 RX3 yX3_record wsX3_record) := goodIn_app (goodIn_of _ (by decide +kernel)) ggX9_anew_X3_record
set_option maxRecDepth 20000 in
theorem ggX9_anew_X7_begin : GoodIn wsX9_anew wsX7_begin := goodIn_r _ [97, 36, 33, 98, 35, 34, 99, 100, 101, 82, 102, 84, 85, 86, 87, 88, 89, 90, 91, 92, 93, 103, 104, 105, 24, 106, 26, 107, 108, 109, 70, 110, 72, 73, 74, 75, 76, 77, 78, 118, 119, 120, 121, 122, 123, 124, 135, 136, 137, 138, 139, 147, 148, 149, 150, 151, 152, 153, 154, 155, 156, 140, 141, 142, 143, 144, 145, 146] (by decide +kernel) (by decide +kernel)
set_option maxRecDepth 20000 in
theorem gX9_anew_X7_begin : GoodIn wsX9_anew (wsV RX9 127 RX7 yX7_begin wsX7_begin) := goodIn_app (goodIn_of _ (by decide +kernel)) ggX9_anew_X7_begin
theorem dX9_anew_0 : decode cX9_anew 0 = .ok (.aload_n 0, 1) := by decide +kernel
theorem dX9_anew_1 : decode cX9_anew 1 = .ok (.getfield 22, 3) := by decide +kernel
theorem dX9_anew_4 : decode cX9_anew 4 = .ok (.aload_n 0, 1) := by decide +kernel
theorem dX9_anew_5 : decode cX9_anew 5 = .ok (.getfield 10, 3) := by decide +kernel
theorem dX9_anew_8 : decode cX9_anew 8 = .ok (.invokevirtual 69, 3) := by decide +kernel
theorem dX9_anew_11 : decode cX9_anew 11 = .ok (.aload_n 0, 1) := by decide +kernel
theorem dX9_anew_12 : decode cX9_anew 12 = .ok (.getfield 10, 3) := by decide +kernel
theorem dX9_anew_15 : decode cX9_anew 15 = .ok (.invokevirtual 127, 3) := by decide +kernel
theorem dX9_anew_18 : decode cX9_anew 18 = .ok (.aload_n 0, 1) := by decide +kernel
theorem dX9_anew_19 : decode cX9_anew 19 = .ok (.getfield 10, 3) := by decide +kernel
theorem dX9_anew_22 : decode cX9_anew 22 = .ok (.getfield 87, 3) := by decide +kernel
theorem dX9_anew_25 : decode cX9_anew 25 = .ok (.getfield 110, 3) := by decide +kernel
theorem dX9_anew_28 : decode cX9_anew 28 = .ok (.ireturn, 1) := by decide +kernel
set_option maxRecDepth 20000 in
theorem ggX9_ofBeat_X5_has : GoodIn wsX9_ofBeat wsX5_has := goodIn_r _ [8, 9, 66, 67, 68] (by decide +kernel) (by decide +kernel)
set_option maxRecDepth 20000 in
theorem gX9_ofBeat_X5_has : GoodIn wsX9_ofBeat (wsV RX9 130 RX5 yX5_has wsX5_has) := goodIn_app (goodIn_of _ (by decide +kernel)) ggX9_ofBeat_X5_has
set_option maxRecDepth 20000 in
theorem ggX9_ofBeat_X5_timeOf : GoodIn wsX9_ofBeat wsX5_timeOf := goodIn_r _ [13, 14, 15, 5, 6, 7, 8, 9, 66, 67, 68] (by decide +kernel) (by decide +kernel)
set_option maxRecDepth 20000 in
theorem gX9_ofBeat_X5_timeOf : GoodIn wsX9_ofBeat (wsV RX9 133 RX5 yX5_timeOf wsX5_timeOf) := goodIn_app (goodIn_of _ (by decide +kernel)) ggX9_ofBeat_X5_timeOf
set_option maxRecDepth 20000 in
theorem ggX9_ofBeat_X5_numberOf : GoodIn wsX9_ofBeat wsX5_numberOf := goodIn_r _ [19, 20, 15, 5, 6, 7, 8, 9, 66, 67, 68] (by decide +kernel) (by decide +kernel)
set_option maxRecDepth 20000 in
theorem gX9_ofBeat_X5_numberOf : GoodIn wsX9_ofBeat (wsV RX9 137 RX5 yX5_numberOf wsX5_numberOf) := goodIn_app (goodIn_of _ (by decide +kernel)) ggX9_ofBeat_X5_numberOf
set_option maxRecDepth 20000 in
theorem ggX9_ofBeat_X7_isHeard : GoodIn wsX9_ofBeat wsX7_isHeard := goodIn_r _ [25, 26, 27, 59, 60, 61, 62, 63, 64, 65, 69, 70, 71, 72, 73, 74, 75, 76, 77, 78] (by decide +kernel) (by decide +kernel)
set_option maxRecDepth 20000 in
theorem gX9_ofBeat_X7_isHeard : GoodIn wsX9_ofBeat (wsV RX9 140 RX7 yX7_isHeard wsX7_isHeard) := goodIn_app (goodIn_of _ (by decide +kernel)) ggX9_ofBeat_X7_isHeard
set_option maxRecDepth 20000 in
theorem ggX9_ofBeat_X2_kindOf : GoodIn wsX9_ofBeat wsX2_kindOf := goodIn_r _ [32, 33, 34, 35, 31, 36, 79, 80, 81, 82] (by decide +kernel) (by decide +kernel)
set_option maxRecDepth 20000 in
theorem gX9_ofBeat_X2_kindOf : GoodIn wsX9_ofBeat (wsV RX9 147 RX2 yX2_kindOf wsX2_kindOf) := goodIn_app (goodIn_of _ (by decide +kernel)) ggX9_ofBeat_X2_kindOf
set_option maxRecDepth 20000 in
theorem ggX9_ofBeat_X2_blowOf : GoodIn wsX9_ofBeat wsX2_blowOf := goodIn_r _ [40, 41, 34, 35, 31, 36, 79, 80, 81, 82] (by decide +kernel) (by decide +kernel)
set_option maxRecDepth 20000 in
theorem gX9_ofBeat_X2_blowOf : GoodIn wsX9_ofBeat (wsV RX9 152 RX2 yX2_blowOf wsX2_blowOf) := goodIn_app (goodIn_of _ (by decide +kernel)) ggX9_ofBeat_X2_blowOf
set_option maxRecDepth 20000 in
theorem ggX9_ofBeat_X2_offOf : GoodIn wsX9_ofBeat wsX2_offOf := goodIn_r _ [45, 46, 34, 35, 31, 36, 79, 80, 81, 82] (by decide +kernel) (by decide +kernel)
set_option maxRecDepth 20000 in
theorem gX9_ofBeat_X2_offOf : GoodIn wsX9_ofBeat (wsV RX9 155 RX2 yX2_offOf wsX2_offOf) := goodIn_app (goodIn_of _ (by decide +kernel)) ggX9_ofBeat_X2_offOf
set_option maxRecDepth 20000 in
theorem ggX9_ofBeat_X2_slipOf : GoodIn wsX9_ofBeat wsX2_slipOf := goodIn_r _ [50, 51, 34, 35, 31, 36, 79, 80, 81, 82] (by decide +kernel) (by decide +kernel)
set_option maxRecDepth 20000 in
theorem gX9_ofBeat_X2_slipOf : GoodIn wsX9_ofBeat (wsV RX9 158 RX2 yX2_slipOf wsX2_slipOf) := goodIn_app (goodIn_of _ (by decide +kernel)) ggX9_ofBeat_X2_slipOf
theorem dX9_ofBeat_0 : decode cX9_ofBeat 0 = .ok (.aload_n 0, 1) := by decide +kernel
theorem dX9_ofBeat_1 : decode cX9_ofBeat 1 = .ok (.getfield 10, 3) := by decide +kernel
theorem dX9_ofBeat_4 : decode cX9_ofBeat 4 = .ok (.getfield 87, 3) := by decide +kernel
theorem dX9_ofBeat_7 : decode cX9_ofBeat 7 = .ok (.iload_n 1, 1) := by decide +kernel
theorem dX9_ofBeat_8 : decode cX9_ofBeat 8 = .ok (.invokevirtual 130, 3) := by decide +kernel
theorem dX9_ofBeat_11 : decode cX9_ofBeat 11 = .ok (.ifCond .ne 5, 3) := by decide +kernel
theorem dX9_ofBeat_14 : decode cX9_ofBeat 14 = .ok (.iconst (-1), 1) := by decide +kernel
theorem dX9_ofBeat_15 : decode cX9_ofBeat 15 = .ok (.ireturn, 1) := by decide +kernel
theorem dX9_ofBeat_16 : decode cX9_ofBeat 16 = .ok (.iload_n 2, 1) := by decide +kernel
theorem dX9_ofBeat_17 : decode cX9_ofBeat 17 = .ok (.tableswitch 174 0 5 #[39, 51, 63, 90, 118, 146], 39) := by decide +kernel
theorem dX9_ofBeat_56 : decode cX9_ofBeat 56 = .ok (.aload_n 0, 1) := by decide +kernel
theorem dX9_ofBeat_57 : decode cX9_ofBeat 57 = .ok (.getfield 10, 3) := by decide +kernel
theorem dX9_ofBeat_60 : decode cX9_ofBeat 60 = .ok (.getfield 87, 3) := by decide +kernel
theorem dX9_ofBeat_63 : decode cX9_ofBeat 63 = .ok (.iload_n 1, 1) := by decide +kernel
theorem dX9_ofBeat_64 : decode cX9_ofBeat 64 = .ok (.invokevirtual 133, 3) := by decide +kernel
theorem dX9_ofBeat_67 : decode cX9_ofBeat 67 = .ok (.ireturn, 1) := by decide +kernel
theorem dX9_ofBeat_68 : decode cX9_ofBeat 68 = .ok (.aload_n 0, 1) := by decide +kernel
theorem dX9_ofBeat_69 : decode cX9_ofBeat 69 = .ok (.getfield 10, 3) := by decide +kernel
theorem dX9_ofBeat_72 : decode cX9_ofBeat 72 = .ok (.getfield 87, 3) := by decide +kernel
theorem dX9_ofBeat_75 : decode cX9_ofBeat 75 = .ok (.iload_n 1, 1) := by decide +kernel
theorem dX9_ofBeat_76 : decode cX9_ofBeat 76 = .ok (.invokevirtual 137, 3) := by decide +kernel
theorem dX9_ofBeat_79 : decode cX9_ofBeat 79 = .ok (.ireturn, 1) := by decide +kernel
theorem dX9_ofBeat_80 : decode cX9_ofBeat 80 = .ok (.aload_n 0, 1) := by decide +kernel
theorem dX9_ofBeat_81 : decode cX9_ofBeat 81 = .ok (.getfield 10, 3) := by decide +kernel
theorem dX9_ofBeat_84 : decode cX9_ofBeat 84 = .ok (.iload_n 1, 1) := by decide +kernel
theorem dX9_ofBeat_85 : decode cX9_ofBeat 85 = .ok (.invokevirtual 140, 3) := by decide +kernel
theorem dX9_ofBeat_88 : decode cX9_ofBeat 88 = .ok (.ifCond .eq 17, 3) := by decide +kernel
theorem dX9_ofBeat_91 : decode cX9_ofBeat 91 = .ok (.aload_n 0, 1) := by decide +kernel
theorem dX9_ofBeat_92 : decode cX9_ofBeat 92 = .ok (.getfield 10, 3) := by decide +kernel
theorem dX9_ofBeat_95 : decode cX9_ofBeat 95 = .ok (.getfield 143, 3) := by decide +kernel
theorem dX9_ofBeat_98 : decode cX9_ofBeat 98 = .ok (.iload_n 1, 1) := by decide +kernel
theorem dX9_ofBeat_99 : decode cX9_ofBeat 99 = .ok (.invokevirtual 147, 3) := by decide +kernel
theorem dX9_ofBeat_102 : decode cX9_ofBeat 102 = .ok (.goto 4, 3) := by decide +kernel
theorem dX9_ofBeat_105 : decode cX9_ofBeat 105 = .ok (.iconst 0, 1) := by decide +kernel
theorem dX9_ofBeat_106 : decode cX9_ofBeat 106 = .ok (.ireturn, 1) := by decide +kernel
theorem dX9_ofBeat_107 : decode cX9_ofBeat 107 = .ok (.aload_n 0, 1) := by decide +kernel
theorem dX9_ofBeat_108 : decode cX9_ofBeat 108 = .ok (.getfield 10, 3) := by decide +kernel
theorem dX9_ofBeat_111 : decode cX9_ofBeat 111 = .ok (.iload_n 1, 1) := by decide +kernel
theorem dX9_ofBeat_112 : decode cX9_ofBeat 112 = .ok (.invokevirtual 140, 3) := by decide +kernel
theorem dX9_ofBeat_115 : decode cX9_ofBeat 115 = .ok (.ifCond .eq 17, 3) := by decide +kernel
theorem dX9_ofBeat_118 : decode cX9_ofBeat 118 = .ok (.aload_n 0, 1) := by decide +kernel
theorem dX9_ofBeat_119 : decode cX9_ofBeat 119 = .ok (.getfield 10, 3) := by decide +kernel
theorem dX9_ofBeat_122 : decode cX9_ofBeat 122 = .ok (.getfield 143, 3) := by decide +kernel
theorem dX9_ofBeat_125 : decode cX9_ofBeat 125 = .ok (.iload_n 1, 1) := by decide +kernel
theorem dX9_ofBeat_126 : decode cX9_ofBeat 126 = .ok (.invokevirtual 152, 3) := by decide +kernel
theorem dX9_ofBeat_129 : decode cX9_ofBeat 129 = .ok (.goto 5, 3) := by decide +kernel
theorem dX9_ofBeat_132 : decode cX9_ofBeat 132 = .ok (.bipush (-6), 2) := by decide +kernel
theorem dX9_ofBeat_134 : decode cX9_ofBeat 134 = .ok (.ireturn, 1) := by decide +kernel
theorem dX9_ofBeat_135 : decode cX9_ofBeat 135 = .ok (.aload_n 0, 1) := by decide +kernel
theorem dX9_ofBeat_136 : decode cX9_ofBeat 136 = .ok (.getfield 10, 3) := by decide +kernel
theorem dX9_ofBeat_139 : decode cX9_ofBeat 139 = .ok (.iload_n 1, 1) := by decide +kernel
theorem dX9_ofBeat_140 : decode cX9_ofBeat 140 = .ok (.invokevirtual 140, 3) := by decide +kernel
theorem dX9_ofBeat_143 : decode cX9_ofBeat 143 = .ok (.ifCond .eq 17, 3) := by decide +kernel
theorem dX9_ofBeat_146 : decode cX9_ofBeat 146 = .ok (.aload_n 0, 1) := by decide +kernel
theorem dX9_ofBeat_147 : decode cX9_ofBeat 147 = .ok (.getfield 10, 3) := by decide +kernel
theorem dX9_ofBeat_150 : decode cX9_ofBeat 150 = .ok (.getfield 143, 3) := by decide +kernel
theorem dX9_ofBeat_153 : decode cX9_ofBeat 153 = .ok (.iload_n 1, 1) := by decide +kernel
theorem dX9_ofBeat_154 : decode cX9_ofBeat 154 = .ok (.invokevirtual 155, 3) := by decide +kernel
theorem dX9_ofBeat_157 : decode cX9_ofBeat 157 = .ok (.goto 5, 3) := by decide +kernel
theorem dX9_ofBeat_160 : decode cX9_ofBeat 160 = .ok (.bipush (-6), 2) := by decide +kernel
theorem dX9_ofBeat_162 : decode cX9_ofBeat 162 = .ok (.ireturn, 1) := by decide +kernel
theorem dX9_ofBeat_163 : decode cX9_ofBeat 163 = .ok (.aload_n 0, 1) := by decide +kernel
theorem dX9_ofBeat_164 : decode cX9_ofBeat 164 = .ok (.getfield 10, 3) := by decide +kernel
theorem dX9_ofBeat_167 : decode cX9_ofBeat 167 = .ok (.iload_n 1, 1) := by decide +kernel
theorem dX9_ofBeat_168 : decode cX9_ofBeat 168 = .ok (.invokevirtual 140, 3) := by decide +kernel
theorem dX9_ofBeat_171 : decode cX9_ofBeat 171 = .ok (.ifCond .eq 17, 3) := by decide +kernel
theorem dX9_ofBeat_174 : decode cX9_ofBeat 174 = .ok (.aload_n 0, 1) := by decide +kernel
theorem dX9_ofBeat_175 : decode cX9_ofBeat 175 = .ok (.getfield 10, 3) := by decide +kernel
theorem dX9_ofBeat_178 : decode cX9_ofBeat 178 = .ok (.getfield 143, 3) := by decide +kernel
theorem dX9_ofBeat_181 : decode cX9_ofBeat 181 = .ok (.iload_n 1, 1) := by decide +kernel
theorem dX9_ofBeat_182 : decode cX9_ofBeat 182 = .ok (.invokevirtual 158, 3) := by decide +kernel
theorem dX9_ofBeat_185 : decode cX9_ofBeat 185 = .ok (.goto 5, 3) := by decide +kernel
theorem dX9_ofBeat_188 : decode cX9_ofBeat 188 = .ok (.bipush (-6), 2) := by decide +kernel
theorem dX9_ofBeat_190 : decode cX9_ofBeat 190 = .ok (.ireturn, 1) := by decide +kernel
theorem dX9_ofBeat_191 : decode cX9_ofBeat 191 = .ok (.bipush (-2), 2) := by decide +kernel
theorem dX9_ofBeat_193 : decode cX9_ofBeat 193 = .ok (.ireturn, 1) := by decide +kernel
set_option maxRecDepth 20000 in
theorem ggX9_ofBlow_X0_has : GoodIn wsX9_ofBlow wsX0_has := goodIn_r _ [11, 12, 31, 32, 33, 34, 35] (by decide +kernel) (by decide +kernel)
set_option maxRecDepth 20000 in
theorem gX9_ofBlow_X0_has : GoodIn wsX9_ofBlow (wsV RX9 165 RX0 yX0_has wsX0_has) := goodIn_app (goodIn_of _ (by decide +kernel)) ggX9_ofBlow_X0_has
set_option maxRecDepth 20000 in
theorem ggX9_ofBlow_X0_rowOf : GoodIn wsX9_ofBlow wsX0_rowOf := goodIn_r _ [16] (by decide +kernel) (by decide +kernel)
set_option maxRecDepth 20000 in
theorem gX9_ofBlow_X0_rowOf : GoodIn wsX9_ofBlow (wsV RX9 168 RX0 yX0_rowOf wsX0_rowOf) := goodIn_app (goodIn_of _ (by decide +kernel)) ggX9_ofBlow_X0_rowOf
theorem dX9_ofBlow_0 : decode cX9_ofBlow 0 = .ok (.aload_n 0, 1) := by decide +kernel
theorem dX9_ofBlow_1 : decode cX9_ofBlow 1 = .ok (.getfield 10, 3) := by decide +kernel
theorem dX9_ofBlow_4 : decode cX9_ofBlow 4 = .ok (.getfield 161, 3) := by decide +kernel
theorem dX9_ofBlow_7 : decode cX9_ofBlow 7 = .ok (.iload_n 1, 1) := by decide +kernel
theorem dX9_ofBlow_8 : decode cX9_ofBlow 8 = .ok (.invokevirtual 165, 3) := by decide +kernel
theorem dX9_ofBlow_11 : decode cX9_ofBlow 11 = .ok (.ifCond .ne 5, 3) := by decide +kernel
theorem dX9_ofBlow_14 : decode cX9_ofBlow 14 = .ok (.iconst (-1), 1) := by decide +kernel
theorem dX9_ofBlow_15 : decode cX9_ofBlow 15 = .ok (.ireturn, 1) := by decide +kernel
theorem dX9_ofBlow_16 : decode cX9_ofBlow 16 = .ok (.aload_n 0, 1) := by decide +kernel
theorem dX9_ofBlow_17 : decode cX9_ofBlow 17 = .ok (.getfield 10, 3) := by decide +kernel
theorem dX9_ofBlow_20 : decode cX9_ofBlow 20 = .ok (.getfield 161, 3) := by decide +kernel
theorem dX9_ofBlow_23 : decode cX9_ofBlow 23 = .ok (.iload_n 1, 1) := by decide +kernel
theorem dX9_ofBlow_24 : decode cX9_ofBlow 24 = .ok (.invokevirtual 168, 3) := by decide +kernel
theorem dX9_ofBlow_27 : decode cX9_ofBlow 27 = .ok (.istore_n 3, 1) := by decide +kernel
theorem dX9_ofBlow_28 : decode cX9_ofBlow 28 = .ok (.iload_n 2, 1) := by decide +kernel
theorem dX9_ofBlow_29 : decode cX9_ofBlow 29 = .ok (.tableswitch 83 0 3 #[31, 44, 57, 70], 31) := by decide +kernel
theorem dX9_ofBlow_60 : decode cX9_ofBlow 60 = .ok (.aload_n 0, 1) := by decide +kernel
theorem dX9_ofBlow_61 : decode cX9_ofBlow 61 = .ok (.getfield 10, 3) := by decide +kernel
theorem dX9_ofBlow_64 : decode cX9_ofBlow 64 = .ok (.getfield 161, 3) := by decide +kernel
theorem dX9_ofBlow_67 : decode cX9_ofBlow 67 = .ok (.getfield 171, 3) := by decide +kernel
theorem dX9_ofBlow_70 : decode cX9_ofBlow 70 = .ok (.iload_n 3, 1) := by decide +kernel
theorem dX9_ofBlow_71 : decode cX9_ofBlow 71 = .ok (.iaload, 1) := by decide +kernel
theorem dX9_ofBlow_72 : decode cX9_ofBlow 72 = .ok (.ireturn, 1) := by decide +kernel
theorem dX9_ofBlow_73 : decode cX9_ofBlow 73 = .ok (.aload_n 0, 1) := by decide +kernel
theorem dX9_ofBlow_74 : decode cX9_ofBlow 74 = .ok (.getfield 10, 3) := by decide +kernel
theorem dX9_ofBlow_77 : decode cX9_ofBlow 77 = .ok (.getfield 161, 3) := by decide +kernel
theorem dX9_ofBlow_80 : decode cX9_ofBlow 80 = .ok (.getfield 174, 3) := by decide +kernel
theorem dX9_ofBlow_83 : decode cX9_ofBlow 83 = .ok (.iload_n 3, 1) := by decide +kernel
theorem dX9_ofBlow_84 : decode cX9_ofBlow 84 = .ok (.iaload, 1) := by decide +kernel
theorem dX9_ofBlow_85 : decode cX9_ofBlow 85 = .ok (.ireturn, 1) := by decide +kernel
theorem dX9_ofBlow_86 : decode cX9_ofBlow 86 = .ok (.aload_n 0, 1) := by decide +kernel
theorem dX9_ofBlow_87 : decode cX9_ofBlow 87 = .ok (.getfield 10, 3) := by decide +kernel
theorem dX9_ofBlow_90 : decode cX9_ofBlow 90 = .ok (.getfield 161, 3) := by decide +kernel
theorem dX9_ofBlow_93 : decode cX9_ofBlow 93 = .ok (.getfield 177, 3) := by decide +kernel
theorem dX9_ofBlow_96 : decode cX9_ofBlow 96 = .ok (.iload_n 3, 1) := by decide +kernel
theorem dX9_ofBlow_97 : decode cX9_ofBlow 97 = .ok (.iaload, 1) := by decide +kernel
theorem dX9_ofBlow_98 : decode cX9_ofBlow 98 = .ok (.ireturn, 1) := by decide +kernel
theorem dX9_ofBlow_99 : decode cX9_ofBlow 99 = .ok (.aload_n 0, 1) := by decide +kernel
theorem dX9_ofBlow_100 : decode cX9_ofBlow 100 = .ok (.getfield 10, 3) := by decide +kernel
theorem dX9_ofBlow_103 : decode cX9_ofBlow 103 = .ok (.getfield 161, 3) := by decide +kernel
theorem dX9_ofBlow_106 : decode cX9_ofBlow 106 = .ok (.getfield 180, 3) := by decide +kernel
theorem dX9_ofBlow_109 : decode cX9_ofBlow 109 = .ok (.iload_n 3, 1) := by decide +kernel
theorem dX9_ofBlow_110 : decode cX9_ofBlow 110 = .ok (.iaload, 1) := by decide +kernel
theorem dX9_ofBlow_111 : decode cX9_ofBlow 111 = .ok (.ireturn, 1) := by decide +kernel
theorem dX9_ofBlow_112 : decode cX9_ofBlow 112 = .ok (.bipush (-2), 2) := by decide +kernel
theorem dX9_ofBlow_114 : decode cX9_ofBlow 114 = .ok (.ireturn, 1) := by decide +kernel
set_option maxRecDepth 20000 in
theorem ggX9_count_X9_isIn : GoodIn wsX9_count wsX9_isIn := goodIn_r _ [30] (by decide +kernel) (by decide +kernel)
set_option maxRecDepth 20000 in
theorem gX9_count_X9_isIn : GoodIn wsX9_count (va_wsS RX9 83 yX9_isIn wsX9_isIn) := goodIn_app (goodIn_of _ (by decide +kernel)) ggX9_count_X9_isIn
theorem dX9_count_0 : decode cX9_count 0 = .ok (.iload_n 1, 1) := by decide +kernel
theorem dX9_count_1 : decode cX9_count 1 = .ok (.bipush 16, 2) := by decide +kernel
theorem dX9_count_3 : decode cX9_count 3 = .ok (.bipush 23, 2) := by decide +kernel
theorem dX9_count_5 : decode cX9_count 5 = .ok (.invokestatic 83, 3) := by decide +kernel
theorem dX9_count_8 : decode cX9_count 8 = .ok (.ifCond .eq 16, 3) := by decide +kernel
theorem dX9_count_11 : decode cX9_count 11 = .ok (.aload_n 0, 1) := by decide +kernel
theorem dX9_count_12 : decode cX9_count 12 = .ok (.getfield 10, 3) := by decide +kernel
theorem dX9_count_15 : decode cX9_count 15 = .ok (.getfield 73, 3) := by decide +kernel
theorem dX9_count_18 : decode cX9_count 18 = .ok (.iload_n 1, 1) := by decide +kernel
theorem dX9_count_19 : decode cX9_count 19 = .ok (.bipush 16, 2) := by decide +kernel
theorem dX9_count_21 : decode cX9_count 21 = .ok (.isub, 1) := by decide +kernel
theorem dX9_count_22 : decode cX9_count 22 = .ok (.iaload, 1) := by decide +kernel
theorem dX9_count_23 : decode cX9_count 23 = .ok (.ireturn, 1) := by decide +kernel
theorem dX9_count_24 : decode cX9_count 24 = .ok (.iload_n 1, 1) := by decide +kernel
theorem dX9_count_25 : decode cX9_count 25 = .ok (.tableswitch 308 0 25 #[119, 127, 138, 149, 160, 171, 182, 193, 204, 215, 226, 237, 248, 259, 270, 281, 308, 308, 308, 308, 308, 308, 308, 308, 292, 300], 119) := by decide +kernel
theorem dX9_count_144 : decode cX9_count 144 = .ok (.aload_n 0, 1) := by decide +kernel
theorem dX9_count_145 : decode cX9_count 145 = .ok (.getfield 10, 3) := by decide +kernel
theorem dX9_count_148 : decode cX9_count 148 = .ok (.getfield 103, 3) := by decide +kernel
theorem dX9_count_151 : decode cX9_count 151 = .ok (.ireturn, 1) := by decide +kernel
theorem dX9_count_152 : decode cX9_count 152 = .ok (.aload_n 0, 1) := by decide +kernel
theorem dX9_count_153 : decode cX9_count 153 = .ok (.getfield 10, 3) := by decide +kernel
theorem dX9_count_156 : decode cX9_count 156 = .ok (.getfield 59, 3) := by decide +kernel
theorem dX9_count_159 : decode cX9_count 159 = .ok (.getfield 183, 3) := by decide +kernel
theorem dX9_count_162 : decode cX9_count 162 = .ok (.ireturn, 1) := by decide +kernel
theorem dX9_count_163 : decode cX9_count 163 = .ok (.aload_n 0, 1) := by decide +kernel
theorem dX9_count_164 : decode cX9_count 164 = .ok (.getfield 10, 3) := by decide +kernel
theorem dX9_count_167 : decode cX9_count 167 = .ok (.getfield 59, 3) := by decide +kernel
theorem dX9_count_170 : decode cX9_count 170 = .ok (.getfield 80, 3) := by decide +kernel
theorem dX9_count_173 : decode cX9_count 173 = .ok (.ireturn, 1) := by decide +kernel
theorem dX9_count_174 : decode cX9_count 174 = .ok (.aload_n 0, 1) := by decide +kernel
theorem dX9_count_175 : decode cX9_count 175 = .ok (.getfield 10, 3) := by decide +kernel
theorem dX9_count_178 : decode cX9_count 178 = .ok (.getfield 59, 3) := by decide +kernel
theorem dX9_count_181 : decode cX9_count 181 = .ok (.getfield 63, 3) := by decide +kernel
theorem dX9_count_184 : decode cX9_count 184 = .ok (.ireturn, 1) := by decide +kernel
theorem dX9_count_185 : decode cX9_count 185 = .ok (.aload_n 0, 1) := by decide +kernel
theorem dX9_count_186 : decode cX9_count 186 = .ok (.getfield 10, 3) := by decide +kernel
theorem dX9_count_189 : decode cX9_count 189 = .ok (.getfield 161, 3) := by decide +kernel
theorem dX9_count_192 : decode cX9_count 192 = .ok (.getfield 186, 3) := by decide +kernel
theorem dX9_count_195 : decode cX9_count 195 = .ok (.ireturn, 1) := by decide +kernel
theorem dX9_count_196 : decode cX9_count 196 = .ok (.aload_n 0, 1) := by decide +kernel
theorem dX9_count_197 : decode cX9_count 197 = .ok (.getfield 10, 3) := by decide +kernel
theorem dX9_count_200 : decode cX9_count 200 = .ok (.getfield 113, 3) := by decide +kernel
theorem dX9_count_203 : decode cX9_count 203 = .ok (.getfield 187, 3) := by decide +kernel
theorem dX9_count_206 : decode cX9_count 206 = .ok (.ireturn, 1) := by decide +kernel
theorem dX9_count_207 : decode cX9_count 207 = .ok (.aload_n 0, 1) := by decide +kernel
theorem dX9_count_208 : decode cX9_count 208 = .ok (.getfield 10, 3) := by decide +kernel
theorem dX9_count_211 : decode cX9_count 211 = .ok (.getfield 113, 3) := by decide +kernel
theorem dX9_count_214 : decode cX9_count 214 = .ok (.getfield 117, 3) := by decide +kernel
theorem dX9_count_217 : decode cX9_count 217 = .ok (.ireturn, 1) := by decide +kernel
theorem dX9_count_218 : decode cX9_count 218 = .ok (.aload_n 0, 1) := by decide +kernel
theorem dX9_count_219 : decode cX9_count 219 = .ok (.getfield 10, 3) := by decide +kernel
theorem dX9_count_222 : decode cX9_count 222 = .ok (.getfield 113, 3) := by decide +kernel
theorem dX9_count_225 : decode cX9_count 225 = .ok (.getfield 190, 3) := by decide +kernel
theorem dX9_count_228 : decode cX9_count 228 = .ok (.ireturn, 1) := by decide +kernel
theorem dX9_count_229 : decode cX9_count 229 = .ok (.aload_n 0, 1) := by decide +kernel
theorem dX9_count_230 : decode cX9_count 230 = .ok (.getfield 10, 3) := by decide +kernel
theorem dX9_count_233 : decode cX9_count 233 = .ok (.getfield 113, 3) := by decide +kernel
theorem dX9_count_236 : decode cX9_count 236 = .ok (.getfield 193, 3) := by decide +kernel
theorem dX9_count_239 : decode cX9_count 239 = .ok (.ireturn, 1) := by decide +kernel
theorem dX9_count_240 : decode cX9_count 240 = .ok (.aload_n 0, 1) := by decide +kernel
theorem dX9_count_241 : decode cX9_count 241 = .ok (.getfield 10, 3) := by decide +kernel
theorem dX9_count_244 : decode cX9_count 244 = .ok (.getfield 113, 3) := by decide +kernel
theorem dX9_count_247 : decode cX9_count 247 = .ok (.getfield 196, 3) := by decide +kernel
theorem dX9_count_250 : decode cX9_count 250 = .ok (.ireturn, 1) := by decide +kernel
theorem dX9_count_251 : decode cX9_count 251 = .ok (.aload_n 0, 1) := by decide +kernel
theorem dX9_count_252 : decode cX9_count 252 = .ok (.getfield 10, 3) := by decide +kernel
theorem dX9_count_255 : decode cX9_count 255 = .ok (.getfield 113, 3) := by decide +kernel
theorem dX9_count_258 : decode cX9_count 258 = .ok (.getfield 199, 3) := by decide +kernel
theorem dX9_count_261 : decode cX9_count 261 = .ok (.ireturn, 1) := by decide +kernel
theorem dX9_count_262 : decode cX9_count 262 = .ok (.aload_n 0, 1) := by decide +kernel
theorem dX9_count_263 : decode cX9_count 263 = .ok (.getfield 10, 3) := by decide +kernel
theorem dX9_count_266 : decode cX9_count 266 = .ok (.getfield 59, 3) := by decide +kernel
theorem dX9_count_269 : decode cX9_count 269 = .ok (.getfield 202, 3) := by decide +kernel
theorem dX9_count_272 : decode cX9_count 272 = .ok (.ireturn, 1) := by decide +kernel
theorem dX9_count_273 : decode cX9_count 273 = .ok (.aload_n 0, 1) := by decide +kernel
theorem dX9_count_274 : decode cX9_count 274 = .ok (.getfield 10, 3) := by decide +kernel
theorem dX9_count_277 : decode cX9_count 277 = .ok (.getfield 59, 3) := by decide +kernel
theorem dX9_count_280 : decode cX9_count 280 = .ok (.getfield 205, 3) := by decide +kernel
theorem dX9_count_283 : decode cX9_count 283 = .ok (.ireturn, 1) := by decide +kernel
theorem dX9_count_284 : decode cX9_count 284 = .ok (.aload_n 0, 1) := by decide +kernel
theorem dX9_count_285 : decode cX9_count 285 = .ok (.getfield 10, 3) := by decide +kernel
theorem dX9_count_288 : decode cX9_count 288 = .ok (.getfield 59, 3) := by decide +kernel
theorem dX9_count_291 : decode cX9_count 291 = .ok (.getfield 208, 3) := by decide +kernel
theorem dX9_count_294 : decode cX9_count 294 = .ok (.ireturn, 1) := by decide +kernel
theorem dX9_count_295 : decode cX9_count 295 = .ok (.aload_n 0, 1) := by decide +kernel
theorem dX9_count_296 : decode cX9_count 296 = .ok (.getfield 10, 3) := by decide +kernel
theorem dX9_count_299 : decode cX9_count 299 = .ok (.getfield 87, 3) := by decide +kernel
theorem dX9_count_302 : decode cX9_count 302 = .ok (.getfield 110, 3) := by decide +kernel
theorem dX9_count_305 : decode cX9_count 305 = .ok (.ireturn, 1) := by decide +kernel
theorem dX9_count_306 : decode cX9_count 306 = .ok (.aload_n 0, 1) := by decide +kernel
theorem dX9_count_307 : decode cX9_count 307 = .ok (.getfield 10, 3) := by decide +kernel
theorem dX9_count_310 : decode cX9_count 310 = .ok (.getfield 113, 3) := by decide +kernel
theorem dX9_count_313 : decode cX9_count 313 = .ok (.getfield 211, 3) := by decide +kernel
theorem dX9_count_316 : decode cX9_count 316 = .ok (.ireturn, 1) := by decide +kernel
theorem dX9_count_317 : decode cX9_count 317 = .ok (.aload_n 0, 1) := by decide +kernel
theorem dX9_count_318 : decode cX9_count 318 = .ok (.getfield 37, 3) := by decide +kernel
theorem dX9_count_321 : decode cX9_count 321 = .ok (.getfield 214, 3) := by decide +kernel
theorem dX9_count_324 : decode cX9_count 324 = .ok (.ireturn, 1) := by decide +kernel
theorem dX9_count_325 : decode cX9_count 325 = .ok (.aload_n 0, 1) := by decide +kernel
theorem dX9_count_326 : decode cX9_count 326 = .ok (.getfield 22, 3) := by decide +kernel
theorem dX9_count_329 : decode cX9_count 329 = .ok (.getfield 217, 3) := by decide +kernel
theorem dX9_count_332 : decode cX9_count 332 = .ok (.ireturn, 1) := by decide +kernel
theorem dX9_count_333 : decode cX9_count 333 = .ok (.bipush (-2), 2) := by decide +kernel
theorem dX9_count_335 : decode cX9_count 335 = .ok (.ireturn, 1) := by decide +kernel
theorem dX9_slips_0 : decode cX9_slips 0 = .ok (.ldc 218, 2) := by decide +kernel
theorem dX9_slips_2 : decode cX9_slips 2 = .ok (.aload_n 0, 1) := by decide +kernel
theorem dX9_slips_3 : decode cX9_slips 3 = .ok (.getfield 10, 3) := by decide +kernel
theorem dX9_slips_6 : decode cX9_slips 6 = .ok (.getfield 113, 3) := by decide +kernel
theorem dX9_slips_9 : decode cX9_slips 9 = .ok (.getfield 219, 3) := by decide +kernel
theorem dX9_slips_12 : decode cX9_slips 12 = .ok (.iadd, 1) := by decide +kernel
theorem dX9_slips_13 : decode cX9_slips 13 = .ok (.ireturn, 1) := by decide +kernel
set_option maxRecDepth 20000 in
theorem ggX9_nextBlow_X9_isIn : GoodIn wsX9_nextBlow wsX9_isIn := goodIn_r _ [10] (by decide +kernel) (by decide +kernel)
set_option maxRecDepth 20000 in
theorem gX9_nextBlow_X9_isIn : GoodIn wsX9_nextBlow (va_wsS RX9 83 yX9_isIn wsX9_isIn) := goodIn_app (goodIn_of _ (by decide +kernel)) ggX9_nextBlow_X9_isIn
theorem dX9_nextBlow_0 : decode cX9_nextBlow 0 = .ok (.iload_n 1, 1) := by decide +kernel
theorem dX9_nextBlow_1 : decode cX9_nextBlow 1 = .ok (.iconst 1, 1) := by decide +kernel
theorem dX9_nextBlow_2 : decode cX9_nextBlow 2 = .ok (.bipush 20, 2) := by decide +kernel
theorem dX9_nextBlow_4 : decode cX9_nextBlow 4 = .ok (.invokestatic 83, 3) := by decide +kernel
theorem dX9_nextBlow_7 : decode cX9_nextBlow 7 = .ok (.ifCond .ne 6, 3) := by decide +kernel
theorem dX9_nextBlow_10 : decode cX9_nextBlow 10 = .ok (.bipush (-2), 2) := by decide +kernel
theorem dX9_nextBlow_12 : decode cX9_nextBlow 12 = .ok (.ireturn, 1) := by decide +kernel
theorem dX9_nextBlow_13 : decode cX9_nextBlow 13 = .ok (.aload_n 0, 1) := by decide +kernel
theorem dX9_nextBlow_14 : decode cX9_nextBlow 14 = .ok (.getfield 10, 3) := by decide +kernel
theorem dX9_nextBlow_17 : decode cX9_nextBlow 17 = .ok (.getfield 59, 3) := by decide +kernel
theorem dX9_nextBlow_20 : decode cX9_nextBlow 20 = .ok (.astore_n 2, 1) := by decide +kernel
theorem dX9_nextBlow_21 : decode cX9_nextBlow 21 = .ok (.aload_n 2, 1) := by decide +kernel
theorem dX9_nextBlow_22 : decode cX9_nextBlow 22 = .ok (.getfield 63, 3) := by decide +kernel
theorem dX9_nextBlow_25 : decode cX9_nextBlow 25 = .ok (.bipush (-6), 2) := by decide +kernel
theorem dX9_nextBlow_27 : decode cX9_nextBlow 27 = .ok (.if_icmp .ne 6, 3) := by decide +kernel
theorem dX9_nextBlow_30 : decode cX9_nextBlow 30 = .ok (.bipush (-6), 2) := by decide +kernel
theorem dX9_nextBlow_32 : decode cX9_nextBlow 32 = .ok (.ireturn, 1) := by decide +kernel
theorem dX9_nextBlow_33 : decode cX9_nextBlow 33 = .ok (.iload_n 1, 1) := by decide +kernel
theorem dX9_nextBlow_34 : decode cX9_nextBlow 34 = .ok (.iconst 1, 1) := by decide +kernel
theorem dX9_nextBlow_35 : decode cX9_nextBlow 35 = .ok (.isub, 1) := by decide +kernel
theorem dX9_nextBlow_36 : decode cX9_nextBlow 36 = .ok (.istore_n 3, 1) := by decide +kernel
theorem dX9_nextBlow_37 : decode cX9_nextBlow 37 = .ok (.iload_n 3, 1) := by decide +kernel
theorem dX9_nextBlow_38 : decode cX9_nextBlow 38 = .ok (.ifCond .le 25, 3) := by decide +kernel
theorem dX9_nextBlow_41 : decode cX9_nextBlow 41 = .ok (.aload_n 2, 1) := by decide +kernel
theorem dX9_nextBlow_42 : decode cX9_nextBlow 42 = .ok (.getfield 208, 3) := by decide +kernel
theorem dX9_nextBlow_45 : decode cX9_nextBlow 45 = .ok (.iload_n 3, 1) := by decide +kernel
theorem dX9_nextBlow_46 : decode cX9_nextBlow 46 = .ok (.iadd, 1) := by decide +kernel
theorem dX9_nextBlow_47 : decode cX9_nextBlow 47 = .ok (.aload_n 0, 1) := by decide +kernel
theorem dX9_nextBlow_48 : decode cX9_nextBlow 48 = .ok (.getfield 10, 3) := by decide +kernel
theorem dX9_nextBlow_51 : decode cX9_nextBlow 51 = .ok (.getfield 73, 3) := by decide +kernel
theorem dX9_nextBlow_54 : decode cX9_nextBlow 54 = .ok (.bipush 7, 2) := by decide +kernel
theorem dX9_nextBlow_56 : decode cX9_nextBlow 56 = .ok (.iaload, 1) := by decide +kernel
theorem dX9_nextBlow_57 : decode cX9_nextBlow 57 = .ok (.if_icmp .lt 6, 3) := by decide +kernel
theorem dX9_nextBlow_60 : decode cX9_nextBlow 60 = .ok (.bipush (-6), 2) := by decide +kernel
theorem dX9_nextBlow_62 : decode cX9_nextBlow 62 = .ok (.ireturn, 1) := by decide +kernel
theorem dX9_nextBlow_63 : decode cX9_nextBlow 63 = .ok (.aload_n 2, 1) := by decide +kernel
theorem dX9_nextBlow_64 : decode cX9_nextBlow 64 = .ok (.getfield 63, 3) := by decide +kernel
theorem dX9_nextBlow_67 : decode cX9_nextBlow 67 = .ok (.iload_n 3, 1) := by decide +kernel
theorem dX9_nextBlow_68 : decode cX9_nextBlow 68 = .ok (.aload_n 2, 1) := by decide +kernel
theorem dX9_nextBlow_69 : decode cX9_nextBlow 69 = .ok (.getfield 80, 3) := by decide +kernel
theorem dX9_nextBlow_72 : decode cX9_nextBlow 72 = .ok (.imul, 1) := by decide +kernel
theorem dX9_nextBlow_73 : decode cX9_nextBlow 73 = .ok (.iadd, 1) := by decide +kernel
theorem dX9_nextBlow_74 : decode cX9_nextBlow 74 = .ok (.ireturn, 1) := by decide +kernel
set_option maxRecDepth 20000 in
theorem ggX9_ifHeard_X9_isIn : GoodIn wsX9_ifHeard wsX9_isIn := goodIn_r _ [11] (by decide +kernel) (by decide +kernel)
set_option maxRecDepth 20000 in
theorem gX9_ifHeard_X9_isIn : GoodIn wsX9_ifHeard (va_wsS RX9 83 yX9_isIn wsX9_isIn) := goodIn_app (goodIn_of _ (by decide +kernel)) ggX9_ifHeard_X9_isIn
set_option maxRecDepth 20000 in
theorem ggX9_ifHeard_X7_copyFrom : GoodIn wsX9_ifHeard wsX7_copyFrom := goodIn_r _ [16, 17, 18, 19, 20, 21, 22, 23, 24, 25, 26, 27, 28, 29, 30, 31, 32, 33, 34, 35, 36, 37, 38, 39, 40, 41, 42, 43, 44, 45, 46, 47, 48, 49, 50, 51, 52, 53, 54, 55, 56, 57, 58, 59, 60, 61, 62, 63, 64, 65, 66, 67, 68, 69, 70, 71, 72, 73, 74, 75, 76, 77, 78, 79, 80, 81, 82, 83, 84, 209, 210, 211, 212, 213, 214, 215, 226, 227, 228, 229, 230, 231, 232, 233, 234, 235, 236, 237, 238, 239, 240, 241, 242, 243, 244, 216, 217, 218, 219, 220, 221, 222, 223, 224, 225] (by decide +kernel) (by decide +kernel)
set_option maxRecDepth 20000 in
theorem gX9_ifHeard_X7_copyFrom : GoodIn wsX9_ifHeard (wsV RX9 222 RX7 yX7_copyFrom wsX7_copyFrom) := goodIn_app (goodIn_of _ (by decide +kernel)) ggX9_ifHeard_X7_copyFrom
set_option maxRecDepth 20000 in
theorem ggX9_ifHeard_X7_runTo : GoodIn wsX9_ifHeard wsX7_runTo := goodIn_r _ [88, 26, 89, 22, 90, 91, 92, 93, 94, 95, 27, 96, 97, 98, 31, 99, 33, 100, 101, 102, 103, 36, 104, 105, 106, 15, 107, 25, 108, 109, 110, 111, 112, 113, 17, 114, 115, 116, 117, 118, 119, 120, 121, 122, 123, 124, 24, 125, 126, 127, 128, 129, 130, 131, 132, 133, 134, 135, 136, 137, 138, 139, 140, 141, 142, 143, 144, 50, 145, 57, 52, 54, 55, 56, 146, 147, 148, 149, 150, 151, 152, 153, 154, 155, 156, 157, 158, 159, 160, 161, 162, 163, 164, 23, 165, 166, 167, 168, 35, 169, 170, 171, 40, 172, 42, 44, 45, 46, 173, 174, 175, 176, 177, 178, 179, 180, 181, 182, 183, 184, 185, 186, 187, 188, 189, 190, 191, 192, 193, 194, 195, 196, 197, 198, 199, 73, 200, 82, 81, 209, 210, 211, 212, 213, 214, 215, 216, 217, 218, 219, 220, 221, 222, 223, 224, 225, 226, 227, 228, 238, 239, 240, 241, 242, 243, 244, 233, 234, 235, 236, 237, 229, 230, 231, 232] (by decide +kernel) (by decide +kernel)
set_option maxRecDepth 20000 in
theorem gX9_ifHeard_X7_runTo : GoodIn wsX9_ifHeard (wsV RX9 123 RX7 yX7_runTo wsX7_runTo) := goodIn_app (goodIn_of _ (by decide +kernel)) ggX9_ifHeard_X7_runTo
set_option maxRecDepth 20000 in
theorem ggX9_ifHeard_X7_fateAt : GoodIn wsX9_ifHeard wsX7_fateAt := goodIn_r _ [158, 25, 108, 109, 110, 111, 15, 112, 113, 17, 114, 115, 116, 117, 209, 210, 211, 212, 213, 214, 215, 238, 239, 240, 241, 242, 243, 244] (by decide +kernel) (by decide +kernel)
set_option maxRecDepth 20000 in
theorem gX9_ifHeard_X7_fateAt : GoodIn wsX9_ifHeard (wsV RX9 225 RX7 yX7_fateAt wsX7_fateAt) := goodIn_app (goodIn_of _ (by decide +kernel)) ggX9_ifHeard_X7_fateAt
theorem dX9_ifHeard_0 : decode cX9_ifHeard 0 = .ok (.iload_n 1, 1) := by decide +kernel
theorem dX9_ifHeard_1 : decode cX9_ifHeard 1 = .ok (.iconst 1, 1) := by decide +kernel
theorem dX9_ifHeard_2 : decode cX9_ifHeard 2 = .ok (.sipush 9999, 3) := by decide +kernel
theorem dX9_ifHeard_5 : decode cX9_ifHeard 5 = .ok (.invokestatic 83, 3) := by decide +kernel
theorem dX9_ifHeard_8 : decode cX9_ifHeard 8 = .ok (.ifCond .ne 6, 3) := by decide +kernel
theorem dX9_ifHeard_11 : decode cX9_ifHeard 11 = .ok (.bipush (-2), 2) := by decide +kernel
theorem dX9_ifHeard_13 : decode cX9_ifHeard 13 = .ok (.ireturn, 1) := by decide +kernel
theorem dX9_ifHeard_14 : decode cX9_ifHeard 14 = .ok (.aload_n 0, 1) := by decide +kernel
theorem dX9_ifHeard_15 : decode cX9_ifHeard 15 = .ok (.getfield 16, 3) := by decide +kernel
theorem dX9_ifHeard_18 : decode cX9_ifHeard 18 = .ok (.aload_n 0, 1) := by decide +kernel
theorem dX9_ifHeard_19 : decode cX9_ifHeard 19 = .ok (.getfield 10, 3) := by decide +kernel
theorem dX9_ifHeard_22 : decode cX9_ifHeard 22 = .ok (.invokevirtual 222, 3) := by decide +kernel
theorem dX9_ifHeard_25 : decode cX9_ifHeard 25 = .ok (.aload_n 0, 1) := by decide +kernel
theorem dX9_ifHeard_26 : decode cX9_ifHeard 26 = .ok (.getfield 16, 3) := by decide +kernel
theorem dX9_ifHeard_29 : decode cX9_ifHeard 29 = .ok (.getfield 87, 3) := by decide +kernel
theorem dX9_ifHeard_32 : decode cX9_ifHeard 32 = .ok (.aload_n 0, 1) := by decide +kernel
theorem dX9_ifHeard_33 : decode cX9_ifHeard 33 = .ok (.getfield 16, 3) := by decide +kernel
theorem dX9_ifHeard_36 : decode cX9_ifHeard 36 = .ok (.getfield 113, 3) := by decide +kernel
theorem dX9_ifHeard_39 : decode cX9_ifHeard 39 = .ok (.getfield 117, 3) := by decide +kernel
theorem dX9_ifHeard_42 : decode cX9_ifHeard 42 = .ok (.putfield 110, 3) := by decide +kernel
theorem dX9_ifHeard_45 : decode cX9_ifHeard 45 = .ok (.aload_n 0, 1) := by decide +kernel
theorem dX9_ifHeard_46 : decode cX9_ifHeard 46 = .ok (.getfield 16, 3) := by decide +kernel
theorem dX9_ifHeard_49 : decode cX9_ifHeard 49 = .ok (.aload_n 0, 1) := by decide +kernel
theorem dX9_ifHeard_50 : decode cX9_ifHeard 50 = .ok (.getfield 10, 3) := by decide +kernel
theorem dX9_ifHeard_53 : decode cX9_ifHeard 53 = .ok (.getfield 103, 3) := by decide +kernel
theorem dX9_ifHeard_56 : decode cX9_ifHeard 56 = .ok (.iload_n 1, 1) := by decide +kernel
theorem dX9_ifHeard_57 : decode cX9_ifHeard 57 = .ok (.iadd, 1) := by decide +kernel
theorem dX9_ifHeard_58 : decode cX9_ifHeard 58 = .ok (.invokevirtual 123, 3) := by decide +kernel
theorem dX9_ifHeard_61 : decode cX9_ifHeard 61 = .ok (.aload_n 0, 1) := by decide +kernel
theorem dX9_ifHeard_62 : decode cX9_ifHeard 62 = .ok (.getfield 16, 3) := by decide +kernel
theorem dX9_ifHeard_65 : decode cX9_ifHeard 65 = .ok (.iconst 4, 1) := by decide +kernel
theorem dX9_ifHeard_66 : decode cX9_ifHeard 66 = .ok (.aload_n 0, 1) := by decide +kernel
theorem dX9_ifHeard_67 : decode cX9_ifHeard 67 = .ok (.getfield 16, 3) := by decide +kernel
theorem dX9_ifHeard_70 : decode cX9_ifHeard 70 = .ok (.getfield 103, 3) := by decide +kernel
theorem dX9_ifHeard_73 : decode cX9_ifHeard 73 = .ok (.imul, 1) := by decide +kernel
theorem dX9_ifHeard_74 : decode cX9_ifHeard 74 = .ok (.invokevirtual 225, 3) := by decide +kernel
theorem dX9_ifHeard_77 : decode cX9_ifHeard 77 = .ok (.ireturn, 1) := by decide +kernel
set_option maxRecDepth 20000 in
theorem ggX9_endWith_X9_isIn : GoodIn wsX9_endWith wsX9_isIn := goodIn_r _ [13] (by decide +kernel) (by decide +kernel)
set_option maxRecDepth 20000 in
theorem gX9_endWith_X9_isIn : GoodIn wsX9_endWith (va_wsS RX9 83 yX9_isIn wsX9_isIn) := goodIn_app (goodIn_of _ (by decide +kernel)) ggX9_endWith_X9_isIn
set_option maxRecDepth 20000 in
theorem ggX9_endWith_X5_copyFrom : GoodIn wsX9_endWith wsX5_copyFrom := goodIn_r _ [18, 19, 20, 21, 22, 23, 24, 25, 231, 232, 233] (by decide +kernel) (by decide +kernel)
set_option maxRecDepth 20000 in
theorem gX9_endWith_X5_copyFrom : GoodIn wsX9_endWith (wsV RX9 228 RX5 yX5_copyFrom wsX5_copyFrom) := goodIn_app (goodIn_of _ (by decide +kernel)) ggX9_endWith_X5_copyFrom
set_option maxRecDepth 20000 in
theorem ggX9_endWith_X9_playTrial : GoodIn wsX9_endWith wsX9_playTrial := goodIn_r _ [29, 3, 30, 1, 31, 21, 22, 23, 2, 32, 33, 34, 35, 36, 37, 38, 39, 40, 41, 42, 43, 44, 45, 46, 47, 48, 49, 50, 51, 52, 53, 54, 55, 56, 57, 58, 59, 60, 61, 62, 63, 64, 65, 66, 67, 68, 69, 70, 71, 72, 73, 74, 75, 76, 17, 77, 25, 78, 79, 80, 81, 19, 82, 83, 84, 85, 86, 87, 88, 89, 90, 91, 92, 93, 94, 95, 96, 97, 98, 99, 100, 101, 102, 103, 104, 105, 106, 107, 108, 109, 110, 111, 112, 113, 114, 115, 116, 117, 118, 119, 120, 121, 122, 123, 124, 125, 126, 127, 128, 129, 130, 131, 132, 133, 134, 135, 136, 137, 138, 139, 140, 141, 142, 143, 144, 145, 146, 147, 148, 149, 150, 151, 152, 153, 154, 155, 156, 157, 158, 159, 160, 161, 162, 163, 164, 165, 166, 167, 168, 169, 24, 170, 171, 172, 173, 174, 175, 176, 177, 178, 179, 180, 181, 182, 183, 184, 185, 186, 187, 188, 189, 190, 191, 192, 193, 194, 195, 196, 197, 198, 199, 200, 201, 202, 203, 204, 205, 206, 207, 208, 209, 210, 211, 212, 213, 214, 215, 216, 217, 218, 219, 220, 234, 235, 236, 237, 238, 221, 222, 223, 224, 225, 226, 227, 228, 229, 230, 239, 240, 241, 242, 243, 244, 245, 231, 232, 233, 246, 247, 248, 249] (by decide +kernel) (by decide +kernel)
set_option maxRecDepth 20000 in
theorem gX9_endWith_X9_playTrial : GoodIn wsX9_endWith (wsV RX9 231 RX9 yX9_playTrial wsX9_playTrial) := goodIn_app (goodIn_of _ (by decide +kernel)) ggX9_endWith_X9_playTrial
theorem dX9_endWith_0 : decode cX9_endWith 0 = .ok (.iload_n 1, 1) := by decide +kernel
theorem dX9_endWith_1 : decode cX9_endWith 1 = .ok (.iconst 0, 1) := by decide +kernel
theorem dX9_endWith_2 : decode cX9_endWith 2 = .ok (.bipush 16, 2) := by decide +kernel
theorem dX9_endWith_4 : decode cX9_endWith 4 = .ok (.invokestatic 83, 3) := by decide +kernel
theorem dX9_endWith_7 : decode cX9_endWith 7 = .ok (.ifCond .eq 22, 3) := by decide +kernel
theorem dX9_endWith_10 : decode cX9_endWith 10 = .ok (.iload_n 2, 1) := by decide +kernel
theorem dX9_endWith_11 : decode cX9_endWith 11 = .ok (.iconst 0, 1) := by decide +kernel
theorem dX9_endWith_12 : decode cX9_endWith 12 = .ok (.bipush 16, 2) := by decide +kernel
theorem dX9_endWith_14 : decode cX9_endWith 14 = .ok (.invokestatic 83, 3) := by decide +kernel
theorem dX9_endWith_17 : decode cX9_endWith 17 = .ok (.ifCond .eq 12, 3) := by decide +kernel
theorem dX9_endWith_20 : decode cX9_endWith 20 = .ok (.iload_n 3, 1) := by decide +kernel
theorem dX9_endWith_21 : decode cX9_endWith 21 = .ok (.iconst 0, 1) := by decide +kernel
theorem dX9_endWith_22 : decode cX9_endWith 22 = .ok (.iconst 4, 1) := by decide +kernel
theorem dX9_endWith_23 : decode cX9_endWith 23 = .ok (.invokestatic 83, 3) := by decide +kernel
theorem dX9_endWith_26 : decode cX9_endWith 26 = .ok (.ifCond .ne 6, 3) := by decide +kernel
theorem dX9_endWith_29 : decode cX9_endWith 29 = .ok (.bipush (-2), 2) := by decide +kernel
theorem dX9_endWith_31 : decode cX9_endWith 31 = .ok (.ireturn, 1) := by decide +kernel
theorem dX9_endWith_32 : decode cX9_endWith 32 = .ok (.aload_n 0, 1) := by decide +kernel
theorem dX9_endWith_33 : decode cX9_endWith 33 = .ok (.getfield 16, 3) := by decide +kernel
theorem dX9_endWith_36 : decode cX9_endWith 36 = .ok (.getfield 87, 3) := by decide +kernel
theorem dX9_endWith_39 : decode cX9_endWith 39 = .ok (.aload_n 0, 1) := by decide +kernel
theorem dX9_endWith_40 : decode cX9_endWith 40 = .ok (.getfield 10, 3) := by decide +kernel
theorem dX9_endWith_43 : decode cX9_endWith 43 = .ok (.getfield 87, 3) := by decide +kernel
theorem dX9_endWith_46 : decode cX9_endWith 46 = .ok (.invokevirtual 228, 3) := by decide +kernel
theorem dX9_endWith_49 : decode cX9_endWith 49 = .ok (.aload_n 0, 1) := by decide +kernel
theorem dX9_endWith_50 : decode cX9_endWith 50 = .ok (.iload_n 1, 1) := by decide +kernel
theorem dX9_endWith_51 : decode cX9_endWith 51 = .ok (.iload_n 2, 1) := by decide +kernel
theorem dX9_endWith_52 : decode cX9_endWith 52 = .ok (.invokevirtual 231, 3) := by decide +kernel
theorem dX9_endWith_55 : decode cX9_endWith 55 = .ok (.iload_n 3, 1) := by decide +kernel
theorem dX9_endWith_56 : decode cX9_endWith 56 = .ok (.tableswitch 76 0 3 #[32, 43, 54, 65], 32) := by decide +kernel
theorem dX9_endWith_88 : decode cX9_endWith 88 = .ok (.aload_n 0, 1) := by decide +kernel
theorem dX9_endWith_89 : decode cX9_endWith 89 = .ok (.getfield 16, 3) := by decide +kernel
theorem dX9_endWith_92 : decode cX9_endWith 92 = .ok (.getfield 113, 3) := by decide +kernel
theorem dX9_endWith_95 : decode cX9_endWith 95 = .ok (.getfield 234, 3) := by decide +kernel
theorem dX9_endWith_98 : decode cX9_endWith 98 = .ok (.ireturn, 1) := by decide +kernel
theorem dX9_endWith_99 : decode cX9_endWith 99 = .ok (.aload_n 0, 1) := by decide +kernel
theorem dX9_endWith_100 : decode cX9_endWith 100 = .ok (.getfield 16, 3) := by decide +kernel
theorem dX9_endWith_103 : decode cX9_endWith 103 = .ok (.getfield 113, 3) := by decide +kernel
theorem dX9_endWith_106 : decode cX9_endWith 106 = .ok (.getfield 190, 3) := by decide +kernel
theorem dX9_endWith_109 : decode cX9_endWith 109 = .ok (.ireturn, 1) := by decide +kernel
theorem dX9_endWith_110 : decode cX9_endWith 110 = .ok (.aload_n 0, 1) := by decide +kernel
theorem dX9_endWith_111 : decode cX9_endWith 111 = .ok (.getfield 16, 3) := by decide +kernel
theorem dX9_endWith_114 : decode cX9_endWith 114 = .ok (.getfield 113, 3) := by decide +kernel
theorem dX9_endWith_117 : decode cX9_endWith 117 = .ok (.getfield 187, 3) := by decide +kernel
theorem dX9_endWith_120 : decode cX9_endWith 120 = .ok (.ireturn, 1) := by decide +kernel
theorem dX9_endWith_121 : decode cX9_endWith 121 = .ok (.aload_n 0, 1) := by decide +kernel
theorem dX9_endWith_122 : decode cX9_endWith 122 = .ok (.getfield 16, 3) := by decide +kernel
theorem dX9_endWith_125 : decode cX9_endWith 125 = .ok (.getfield 113, 3) := by decide +kernel
theorem dX9_endWith_128 : decode cX9_endWith 128 = .ok (.getfield 199, 3) := by decide +kernel
theorem dX9_endWith_131 : decode cX9_endWith 131 = .ok (.ireturn, 1) := by decide +kernel
theorem dX9_endWith_132 : decode cX9_endWith 132 = .ok (.aload_n 0, 1) := by decide +kernel
theorem dX9_endWith_133 : decode cX9_endWith 133 = .ok (.getfield 16, 3) := by decide +kernel
theorem dX9_endWith_136 : decode cX9_endWith 136 = .ok (.getfield 113, 3) := by decide +kernel
theorem dX9_endWith_139 : decode cX9_endWith 139 = .ok (.getfield 237, 3) := by decide +kernel
theorem dX9_endWith_142 : decode cX9_endWith 142 = .ok (.ireturn, 1) := by decide +kernel
set_option maxRecDepth 20000 in
theorem ggX9_bestNudge_X5_copyFrom : GoodIn wsX9_bestNudge wsX5_copyFrom := goodIn_r _ [14, 15, 16, 17, 18, 19, 20, 21, 217, 218, 219] (by decide +kernel) (by decide +kernel)
set_option maxRecDepth 20000 in
theorem gX9_bestNudge_X5_copyFrom : GoodIn wsX9_bestNudge (wsV RX9 228 RX5 yX5_copyFrom wsX5_copyFrom) := goodIn_app (goodIn_of _ (by decide +kernel)) ggX9_bestNudge_X5_copyFrom
set_option maxRecDepth 20000 in
theorem ggX9_bestNudge_X9_playTrial : GoodIn wsX9_bestNudge wsX9_playTrial := goodIn_r _ [26, 1, 6, 4, 27, 17, 18, 19, 2, 28, 29, 30, 31, 32, 33, 34, 35, 36, 37, 38, 39, 40, 41, 42, 43, 44, 45, 46, 47, 48, 49, 50, 51, 52, 53, 54, 55, 56, 57, 58, 59, 60, 61, 62, 63, 64, 65, 66, 67, 68, 69, 70, 71, 72, 13, 73, 21, 74, 75, 76, 77, 15, 78, 79, 80, 81, 82, 83, 84, 85, 86, 87, 88, 89, 90, 91, 92, 93, 94, 95, 96, 97, 98, 99, 100, 101, 102, 103, 104, 105, 106, 107, 108, 109, 110, 111, 112, 113, 114, 115, 116, 117, 118, 119, 120, 121, 122, 123, 124, 125, 126, 127, 128, 129, 130, 131, 132, 133, 134, 135, 136, 137, 138, 139, 140, 141, 142, 143, 144, 145, 146, 147, 148, 149, 150, 151, 152, 153, 154, 155, 156, 157, 158, 159, 160, 161, 162, 163, 164, 165, 20, 166, 167, 168, 169, 170, 171, 172, 173, 174, 175, 176, 177, 178, 179, 180, 181, 182, 183, 184, 185, 186, 187, 188, 189, 190, 191, 192, 193, 194, 195, 196, 197, 198, 199, 200, 201, 202, 203, 204, 205, 206, 207, 208, 209, 210, 211, 212, 213, 214, 215, 216, 230, 231, 232, 233, 234, 220, 221, 222, 223, 224, 225, 226, 227, 228, 229, 235, 236, 237, 238, 239, 240, 241, 217, 218, 219, 242, 243, 244, 245] (by decide +kernel) (by decide +kernel)
set_option maxRecDepth 20000 in
theorem gX9_bestNudge_X9_playTrial : GoodIn wsX9_bestNudge (wsV RX9 231 RX9 yX9_playTrial wsX9_playTrial) := goodIn_app (goodIn_of _ (by decide +kernel)) ggX9_bestNudge_X9_playTrial
theorem dX9_bestNudge_0 : decode cX9_bestNudge 0 = .ok (.iload_n 1, 1) := by decide +kernel
theorem dX9_bestNudge_1 : decode cX9_bestNudge 1 = .ok (.iconst 2, 1) := by decide +kernel
theorem dX9_bestNudge_2 : decode cX9_bestNudge 2 = .ok (.if_icmp .eq 11, 3) := by decide +kernel
theorem dX9_bestNudge_5 : decode cX9_bestNudge 5 = .ok (.iload_n 1, 1) := by decide +kernel
theorem dX9_bestNudge_6 : decode cX9_bestNudge 6 = .ok (.iconst 3, 1) := by decide +kernel
theorem dX9_bestNudge_7 : decode cX9_bestNudge 7 = .ok (.if_icmp .eq 6, 3) := by decide +kernel
theorem dX9_bestNudge_10 : decode cX9_bestNudge 10 = .ok (.bipush (-2), 2) := by decide +kernel
theorem dX9_bestNudge_12 : decode cX9_bestNudge 12 = .ok (.ireturn, 1) := by decide +kernel
theorem dX9_bestNudge_13 : decode cX9_bestNudge 13 = .ok (.aload_n 0, 1) := by decide +kernel
theorem dX9_bestNudge_14 : decode cX9_bestNudge 14 = .ok (.getfield 10, 3) := by decide +kernel
theorem dX9_bestNudge_17 : decode cX9_bestNudge 17 = .ok (.getfield 87, 3) := by decide +kernel
theorem dX9_bestNudge_20 : decode cX9_bestNudge 20 = .ok (.getfield 110, 3) := by decide +kernel
theorem dX9_bestNudge_23 : decode cX9_bestNudge 23 = .ok (.ifCond .ne 6, 3) := by decide +kernel
theorem dX9_bestNudge_26 : decode cX9_bestNudge 26 = .ok (.bipush (-6), 2) := by decide +kernel
theorem dX9_bestNudge_28 : decode cX9_bestNudge 28 = .ok (.ireturn, 1) := by decide +kernel
theorem dX9_bestNudge_29 : decode cX9_bestNudge 29 = .ok (.aload_n 0, 1) := by decide +kernel
theorem dX9_bestNudge_30 : decode cX9_bestNudge 30 = .ok (.getfield 16, 3) := by decide +kernel
theorem dX9_bestNudge_33 : decode cX9_bestNudge 33 = .ok (.getfield 87, 3) := by decide +kernel
theorem dX9_bestNudge_36 : decode cX9_bestNudge 36 = .ok (.aload_n 0, 1) := by decide +kernel
theorem dX9_bestNudge_37 : decode cX9_bestNudge 37 = .ok (.getfield 10, 3) := by decide +kernel
theorem dX9_bestNudge_40 : decode cX9_bestNudge 40 = .ok (.getfield 87, 3) := by decide +kernel
theorem dX9_bestNudge_43 : decode cX9_bestNudge 43 = .ok (.invokevirtual 228, 3) := by decide +kernel
theorem dX9_bestNudge_46 : decode cX9_bestNudge 46 = .ok (.iconst 0, 1) := by decide +kernel
theorem dX9_bestNudge_47 : decode cX9_bestNudge 47 = .ok (.istore_n 2, 1) := by decide +kernel
theorem dX9_bestNudge_48 : decode cX9_bestNudge 48 = .ok (.ldc 240, 2) := by decide +kernel
theorem dX9_bestNudge_50 : decode cX9_bestNudge 50 = .ok (.istore_n 3, 1) := by decide +kernel
theorem dX9_bestNudge_51 : decode cX9_bestNudge 51 = .ok (.ldc 240, 2) := by decide +kernel
theorem dX9_bestNudge_53 : decode cX9_bestNudge 53 = .ok (.istore 4, 2) := by decide +kernel
theorem dX9_bestNudge_55 : decode cX9_bestNudge 55 = .ok (.iconst 0, 1) := by decide +kernel
theorem dX9_bestNudge_56 : decode cX9_bestNudge 56 = .ok (.istore 5, 2) := by decide +kernel
theorem dX9_bestNudge_58 : decode cX9_bestNudge 58 = .ok (.iload 5, 2) := by decide +kernel
theorem dX9_bestNudge_60 : decode cX9_bestNudge 60 = .ok (.bipush 16, 2) := by decide +kernel
theorem dX9_bestNudge_62 : decode cX9_bestNudge 62 = .ok (.if_icmp .gt 104, 3) := by decide +kernel
theorem dX9_bestNudge_65 : decode cX9_bestNudge 65 = .ok (.aload_n 0, 1) := by decide +kernel
theorem dX9_bestNudge_66 : decode cX9_bestNudge 66 = .ok (.iload_n 1, 1) := by decide +kernel
theorem dX9_bestNudge_67 : decode cX9_bestNudge 67 = .ok (.iconst 2, 1) := by decide +kernel
theorem dX9_bestNudge_68 : decode cX9_bestNudge 68 = .ok (.if_icmp .ne 8, 3) := by decide +kernel
theorem dX9_bestNudge_71 : decode cX9_bestNudge 71 = .ok (.iload 5, 2) := by decide +kernel
theorem dX9_bestNudge_73 : decode cX9_bestNudge 73 = .ok (.goto 12, 3) := by decide +kernel
theorem dX9_bestNudge_76 : decode cX9_bestNudge 76 = .ok (.aload_n 0, 1) := by decide +kernel
theorem dX9_bestNudge_77 : decode cX9_bestNudge 77 = .ok (.getfield 10, 3) := by decide +kernel
theorem dX9_bestNudge_80 : decode cX9_bestNudge 80 = .ok (.getfield 73, 3) := by decide +kernel
theorem dX9_bestNudge_83 : decode cX9_bestNudge 83 = .ok (.iconst 2, 1) := by decide +kernel
theorem dX9_bestNudge_84 : decode cX9_bestNudge 84 = .ok (.iaload, 1) := by decide +kernel
theorem dX9_bestNudge_85 : decode cX9_bestNudge 85 = .ok (.iload_n 1, 1) := by decide +kernel
theorem dX9_bestNudge_86 : decode cX9_bestNudge 86 = .ok (.iconst 3, 1) := by decide +kernel
theorem dX9_bestNudge_87 : decode cX9_bestNudge 87 = .ok (.if_icmp .ne 8, 3) := by decide +kernel
theorem dX9_bestNudge_90 : decode cX9_bestNudge 90 = .ok (.iload 5, 2) := by decide +kernel
theorem dX9_bestNudge_92 : decode cX9_bestNudge 92 = .ok (.goto 12, 3) := by decide +kernel
theorem dX9_bestNudge_95 : decode cX9_bestNudge 95 = .ok (.aload_n 0, 1) := by decide +kernel
theorem dX9_bestNudge_96 : decode cX9_bestNudge 96 = .ok (.getfield 10, 3) := by decide +kernel
theorem dX9_bestNudge_99 : decode cX9_bestNudge 99 = .ok (.getfield 73, 3) := by decide +kernel
theorem dX9_bestNudge_102 : decode cX9_bestNudge 102 = .ok (.iconst 3, 1) := by decide +kernel
theorem dX9_bestNudge_103 : decode cX9_bestNudge 103 = .ok (.iaload, 1) := by decide +kernel
theorem dX9_bestNudge_104 : decode cX9_bestNudge 104 = .ok (.invokevirtual 231, 3) := by decide +kernel
theorem dX9_bestNudge_107 : decode cX9_bestNudge 107 = .ok (.aload_n 0, 1) := by decide +kernel
theorem dX9_bestNudge_108 : decode cX9_bestNudge 108 = .ok (.getfield 16, 3) := by decide +kernel
theorem dX9_bestNudge_111 : decode cX9_bestNudge 111 = .ok (.getfield 113, 3) := by decide +kernel
theorem dX9_bestNudge_114 : decode cX9_bestNudge 114 = .ok (.getfield 199, 3) := by decide +kernel
theorem dX9_bestNudge_117 : decode cX9_bestNudge 117 = .ok (.istore 6, 2) := by decide +kernel
theorem dX9_bestNudge_119 : decode cX9_bestNudge 119 = .ok (.aload_n 0, 1) := by decide +kernel
theorem dX9_bestNudge_120 : decode cX9_bestNudge 120 = .ok (.getfield 16, 3) := by decide +kernel
theorem dX9_bestNudge_123 : decode cX9_bestNudge 123 = .ok (.getfield 113, 3) := by decide +kernel
theorem dX9_bestNudge_126 : decode cX9_bestNudge 126 = .ok (.getfield 234, 3) := by decide +kernel
theorem dX9_bestNudge_129 : decode cX9_bestNudge 129 = .ok (.istore 7, 2) := by decide +kernel
theorem dX9_bestNudge_131 : decode cX9_bestNudge 131 = .ok (.iload 6, 2) := by decide +kernel
theorem dX9_bestNudge_133 : decode cX9_bestNudge 133 = .ok (.iload_n 3, 1) := by decide +kernel
theorem dX9_bestNudge_134 : decode cX9_bestNudge 134 = .ok (.if_icmp .lt 16, 3) := by decide +kernel
theorem dX9_bestNudge_137 : decode cX9_bestNudge 137 = .ok (.iload 6, 2) := by decide +kernel
theorem dX9_bestNudge_139 : decode cX9_bestNudge 139 = .ok (.iload_n 3, 1) := by decide +kernel
theorem dX9_bestNudge_140 : decode cX9_bestNudge 140 = .ok (.if_icmp .ne 20, 3) := by decide +kernel
theorem dX9_bestNudge_143 : decode cX9_bestNudge 143 = .ok (.iload 7, 2) := by decide +kernel
theorem dX9_bestNudge_145 : decode cX9_bestNudge 145 = .ok (.iload 4, 2) := by decide +kernel
theorem dX9_bestNudge_147 : decode cX9_bestNudge 147 = .ok (.if_icmp .ge 13, 3) := by decide +kernel
theorem dX9_bestNudge_150 : decode cX9_bestNudge 150 = .ok (.iload 5, 2) := by decide +kernel
theorem dX9_bestNudge_152 : decode cX9_bestNudge 152 = .ok (.istore_n 2, 1) := by decide +kernel
theorem dX9_bestNudge_153 : decode cX9_bestNudge 153 = .ok (.iload 6, 2) := by decide +kernel
theorem dX9_bestNudge_155 : decode cX9_bestNudge 155 = .ok (.istore_n 3, 1) := by decide +kernel
theorem dX9_bestNudge_156 : decode cX9_bestNudge 156 = .ok (.iload 7, 2) := by decide +kernel
theorem dX9_bestNudge_158 : decode cX9_bestNudge 158 = .ok (.istore 4, 2) := by decide +kernel
theorem dX9_bestNudge_160 : decode cX9_bestNudge 160 = .ok (.iinc 5 1, 3) := by decide +kernel
theorem dX9_bestNudge_163 : decode cX9_bestNudge 163 = .ok (.goto (-105), 3) := by decide +kernel
theorem dX9_bestNudge_166 : decode cX9_bestNudge 166 = .ok (.iload_n 2, 1) := by decide +kernel
theorem dX9_bestNudge_167 : decode cX9_bestNudge 167 = .ok (.ireturn, 1) := by decide +kernel
set_option maxRecDepth 20000 in
theorem ggX9_worstBeat_X9_isIn : GoodIn wsX9_worstBeat wsX9_isIn := goodIn_r _ [12] (by decide +kernel) (by decide +kernel)
set_option maxRecDepth 20000 in
theorem gX9_worstBeat_X9_isIn : GoodIn wsX9_worstBeat (va_wsS RX9 83 yX9_isIn wsX9_isIn) := goodIn_app (goodIn_of _ (by decide +kernel)) ggX9_worstBeat_X9_isIn
set_option maxRecDepth 20000 in
theorem ggX9_worstBeat_X5_copyWithout : GoodIn wsX9_worstBeat wsX5_copyWithout := goodIn_r _ [17, 18, 19, 20, 21, 16, 22, 23, 24, 25, 26, 27, 28, 29, 30, 31, 32, 33, 34, 35, 36, 223, 224, 225] (by decide +kernel) (by decide +kernel)
set_option maxRecDepth 20000 in
theorem gX9_worstBeat_X5_copyWithout : GoodIn wsX9_worstBeat (wsV RX9 241 RX5 yX5_copyWithout wsX5_copyWithout) := goodIn_app (goodIn_of _ (by decide +kernel)) ggX9_worstBeat_X5_copyWithout
set_option maxRecDepth 20000 in
theorem ggX9_worstBeat_X9_playTrial : GoodIn wsX9_worstBeat wsX9_playTrial := goodIn_r _ [40, 1, 6, 5, 41, 42, 43, 44, 2, 45, 46, 47, 48, 49, 50, 51, 52, 53, 54, 55, 56, 57, 58, 59, 60, 61, 62, 63, 64, 65, 66, 67, 68, 69, 70, 71, 72, 73, 74, 75, 76, 77, 78, 79, 80, 81, 82, 83, 84, 85, 86, 87, 88, 89, 16, 90, 18, 19, 20, 21, 22, 23, 24, 25, 26, 27, 91, 92, 93, 94, 95, 96, 97, 98, 99, 100, 101, 102, 103, 104, 105, 106, 107, 108, 109, 110, 111, 112, 113, 114, 115, 116, 117, 118, 119, 120, 121, 122, 123, 124, 125, 126, 127, 128, 129, 130, 131, 132, 133, 134, 135, 136, 137, 138, 139, 140, 141, 142, 143, 144, 145, 146, 147, 148, 149, 150, 151, 152, 153, 154, 155, 156, 157, 158, 159, 160, 161, 162, 163, 164, 165, 166, 167, 168, 169, 170, 171, 29, 30, 31, 32, 172, 173, 174, 175, 176, 177, 178, 179, 180, 181, 182, 183, 184, 185, 186, 187, 188, 189, 190, 191, 192, 193, 194, 195, 196, 197, 198, 199, 200, 201, 202, 203, 204, 205, 206, 207, 208, 209, 210, 211, 212, 213, 214, 215, 216, 217, 218, 219, 220, 221, 222, 236, 237, 238, 239, 240, 226, 227, 228, 229, 230, 231, 232, 233, 234, 235, 241, 242, 243, 244, 245, 246, 247, 223, 224, 225, 248, 249, 250, 251] (by decide +kernel) (by decide +kernel)
set_option maxRecDepth 20000 in
theorem gX9_worstBeat_X9_playTrial : GoodIn wsX9_worstBeat (wsV RX9 231 RX9 yX9_playTrial wsX9_playTrial) := goodIn_app (goodIn_of _ (by decide +kernel)) ggX9_worstBeat_X9_playTrial
theorem dX9_worstBeat_0 : decode cX9_worstBeat 0 = .ok (.iload_n 1, 1) := by decide +kernel
theorem dX9_worstBeat_1 : decode cX9_worstBeat 1 = .ok (.iconst 0, 1) := by decide +kernel
theorem dX9_worstBeat_2 : decode cX9_worstBeat 2 = .ok (.iconst 1, 1) := by decide +kernel
theorem dX9_worstBeat_3 : decode cX9_worstBeat 3 = .ok (.invokestatic 83, 3) := by decide +kernel
theorem dX9_worstBeat_6 : decode cX9_worstBeat 6 = .ok (.ifCond .ne 6, 3) := by decide +kernel
theorem dX9_worstBeat_9 : decode cX9_worstBeat 9 = .ok (.bipush (-2), 2) := by decide +kernel
theorem dX9_worstBeat_11 : decode cX9_worstBeat 11 = .ok (.ireturn, 1) := by decide +kernel
theorem dX9_worstBeat_12 : decode cX9_worstBeat 12 = .ok (.aload_n 0, 1) := by decide +kernel
theorem dX9_worstBeat_13 : decode cX9_worstBeat 13 = .ok (.getfield 10, 3) := by decide +kernel
theorem dX9_worstBeat_16 : decode cX9_worstBeat 16 = .ok (.getfield 87, 3) := by decide +kernel
theorem dX9_worstBeat_19 : decode cX9_worstBeat 19 = .ok (.getfield 110, 3) := by decide +kernel
theorem dX9_worstBeat_22 : decode cX9_worstBeat 22 = .ok (.ifCond .ne 6, 3) := by decide +kernel
theorem dX9_worstBeat_25 : decode cX9_worstBeat 25 = .ok (.bipush (-6), 2) := by decide +kernel
theorem dX9_worstBeat_27 : decode cX9_worstBeat 27 = .ok (.ireturn, 1) := by decide +kernel
theorem dX9_worstBeat_28 : decode cX9_worstBeat 28 = .ok (.iconst 0, 1) := by decide +kernel
theorem dX9_worstBeat_29 : decode cX9_worstBeat 29 = .ok (.istore_n 2, 1) := by decide +kernel
theorem dX9_worstBeat_30 : decode cX9_worstBeat 30 = .ok (.ldc 240, 2) := by decide +kernel
theorem dX9_worstBeat_32 : decode cX9_worstBeat 32 = .ok (.istore_n 3, 1) := by decide +kernel
theorem dX9_worstBeat_33 : decode cX9_worstBeat 33 = .ok (.iconst 0, 1) := by decide +kernel
theorem dX9_worstBeat_34 : decode cX9_worstBeat 34 = .ok (.istore 4, 2) := by decide +kernel
theorem dX9_worstBeat_36 : decode cX9_worstBeat 36 = .ok (.iload 4, 2) := by decide +kernel
theorem dX9_worstBeat_38 : decode cX9_worstBeat 38 = .ok (.aload_n 0, 1) := by decide +kernel
theorem dX9_worstBeat_39 : decode cX9_worstBeat 39 = .ok (.getfield 10, 3) := by decide +kernel
theorem dX9_worstBeat_42 : decode cX9_worstBeat 42 = .ok (.getfield 87, 3) := by decide +kernel
theorem dX9_worstBeat_45 : decode cX9_worstBeat 45 = .ok (.getfield 110, 3) := by decide +kernel
theorem dX9_worstBeat_48 : decode cX9_worstBeat 48 = .ok (.if_icmp .ge 78, 3) := by decide +kernel
theorem dX9_worstBeat_51 : decode cX9_worstBeat 51 = .ok (.aload_n 0, 1) := by decide +kernel
theorem dX9_worstBeat_52 : decode cX9_worstBeat 52 = .ok (.getfield 16, 3) := by decide +kernel
theorem dX9_worstBeat_55 : decode cX9_worstBeat 55 = .ok (.getfield 87, 3) := by decide +kernel
theorem dX9_worstBeat_58 : decode cX9_worstBeat 58 = .ok (.aload_n 0, 1) := by decide +kernel
theorem dX9_worstBeat_59 : decode cX9_worstBeat 59 = .ok (.getfield 10, 3) := by decide +kernel
theorem dX9_worstBeat_62 : decode cX9_worstBeat 62 = .ok (.getfield 87, 3) := by decide +kernel
theorem dX9_worstBeat_65 : decode cX9_worstBeat 65 = .ok (.iload 4, 2) := by decide +kernel
theorem dX9_worstBeat_67 : decode cX9_worstBeat 67 = .ok (.invokevirtual 241, 3) := by decide +kernel
theorem dX9_worstBeat_70 : decode cX9_worstBeat 70 = .ok (.aload_n 0, 1) := by decide +kernel
theorem dX9_worstBeat_71 : decode cX9_worstBeat 71 = .ok (.aload_n 0, 1) := by decide +kernel
theorem dX9_worstBeat_72 : decode cX9_worstBeat 72 = .ok (.getfield 10, 3) := by decide +kernel
theorem dX9_worstBeat_75 : decode cX9_worstBeat 75 = .ok (.getfield 73, 3) := by decide +kernel
theorem dX9_worstBeat_78 : decode cX9_worstBeat 78 = .ok (.iconst 2, 1) := by decide +kernel
theorem dX9_worstBeat_79 : decode cX9_worstBeat 79 = .ok (.iaload, 1) := by decide +kernel
theorem dX9_worstBeat_80 : decode cX9_worstBeat 80 = .ok (.aload_n 0, 1) := by decide +kernel
theorem dX9_worstBeat_81 : decode cX9_worstBeat 81 = .ok (.getfield 10, 3) := by decide +kernel
theorem dX9_worstBeat_84 : decode cX9_worstBeat 84 = .ok (.getfield 73, 3) := by decide +kernel
theorem dX9_worstBeat_87 : decode cX9_worstBeat 87 = .ok (.iconst 3, 1) := by decide +kernel
theorem dX9_worstBeat_88 : decode cX9_worstBeat 88 = .ok (.iaload, 1) := by decide +kernel
theorem dX9_worstBeat_89 : decode cX9_worstBeat 89 = .ok (.invokevirtual 231, 3) := by decide +kernel
theorem dX9_worstBeat_92 : decode cX9_worstBeat 92 = .ok (.aload_n 0, 1) := by decide +kernel
theorem dX9_worstBeat_93 : decode cX9_worstBeat 93 = .ok (.getfield 16, 3) := by decide +kernel
theorem dX9_worstBeat_96 : decode cX9_worstBeat 96 = .ok (.getfield 113, 3) := by decide +kernel
theorem dX9_worstBeat_99 : decode cX9_worstBeat 99 = .ok (.getfield 199, 3) := by decide +kernel
theorem dX9_worstBeat_102 : decode cX9_worstBeat 102 = .ok (.iload_n 3, 1) := by decide +kernel
theorem dX9_worstBeat_103 : decode cX9_worstBeat 103 = .ok (.if_icmp .ge 17, 3) := by decide +kernel
theorem dX9_worstBeat_106 : decode cX9_worstBeat 106 = .ok (.iload 4, 2) := by decide +kernel
theorem dX9_worstBeat_108 : decode cX9_worstBeat 108 = .ok (.istore_n 2, 1) := by decide +kernel
theorem dX9_worstBeat_109 : decode cX9_worstBeat 109 = .ok (.aload_n 0, 1) := by decide +kernel
theorem dX9_worstBeat_110 : decode cX9_worstBeat 110 = .ok (.getfield 16, 3) := by decide +kernel
theorem dX9_worstBeat_113 : decode cX9_worstBeat 113 = .ok (.getfield 113, 3) := by decide +kernel
theorem dX9_worstBeat_116 : decode cX9_worstBeat 116 = .ok (.getfield 199, 3) := by decide +kernel
theorem dX9_worstBeat_119 : decode cX9_worstBeat 119 = .ok (.istore_n 3, 1) := by decide +kernel
theorem dX9_worstBeat_120 : decode cX9_worstBeat 120 = .ok (.iinc 4 1, 3) := by decide +kernel
theorem dX9_worstBeat_123 : decode cX9_worstBeat 123 = .ok (.goto (-87), 3) := by decide +kernel
theorem dX9_worstBeat_126 : decode cX9_worstBeat 126 = .ok (.iload_n 1, 1) := by decide +kernel
theorem dX9_worstBeat_127 : decode cX9_worstBeat 127 = .ok (.ifCond .ne 7, 3) := by decide +kernel
theorem dX9_worstBeat_130 : decode cX9_worstBeat 130 = .ok (.iload_n 2, 1) := by decide +kernel
theorem dX9_worstBeat_131 : decode cX9_worstBeat 131 = .ok (.goto 4, 3) := by decide +kernel
theorem dX9_worstBeat_134 : decode cX9_worstBeat 134 = .ok (.iload_n 3, 1) := by decide +kernel
theorem dX9_worstBeat_135 : decode cX9_worstBeat 135 = .ok (.ireturn, 1) := by decide +kernel
set_option maxRecDepth 20000 in
theorem ggX9_put_X9_charactersIn : GoodIn wsX9_put wsX9_charactersIn := goodIn_r _ [7, 3, 8, 9, 6, 10] (by decide +kernel) (by decide +kernel)
set_option maxRecDepth 20000 in
theorem gX9_put_X9_charactersIn : GoodIn wsX9_put (va_wsS RX9 245 yX9_charactersIn wsX9_charactersIn) := goodIn_app (goodIn_of _ (by decide +kernel)) ggX9_put_X9_charactersIn
set_option maxRecDepth 20000 in
theorem ggX9_put_X4_append : GoodIn wsX9_put wsX4_append := goodIn_r _ [15, 16, 17, 25, 26] (by decide +kernel) (by decide +kernel)
set_option maxRecDepth 20000 in
theorem gX9_put_X4_append : GoodIn wsX9_put (wsV RX9 251 RX4 yX4_append wsX4_append) := goodIn_app (goodIn_of _ (by decide +kernel)) ggX9_put_X4_append
theorem dX9_put_0 : decode cX9_put 0 = .ok (.lload_n 1, 1) := by decide +kernel
theorem dX9_put_1 : decode cX9_put 1 = .ok (.invokestatic 245, 3) := by decide +kernel
theorem dX9_put_4 : decode cX9_put 4 = .ok (.istore_n 3, 1) := by decide +kernel
theorem dX9_put_5 : decode cX9_put 5 = .ok (.iload_n 3, 1) := by decide +kernel
theorem dX9_put_6 : decode cX9_put 6 = .ok (.ifCond .ne 6, 3) := by decide +kernel
theorem dX9_put_9 : decode cX9_put 9 = .ok (.bipush (-2), 2) := by decide +kernel
theorem dX9_put_11 : decode cX9_put 11 = .ok (.ireturn, 1) := by decide +kernel
theorem dX9_put_12 : decode cX9_put 12 = .ok (.aload_n 0, 1) := by decide +kernel
theorem dX9_put_13 : decode cX9_put 13 = .ok (.getfield 37, 3) := by decide +kernel
theorem dX9_put_16 : decode cX9_put 16 = .ok (.getfield 214, 3) := by decide +kernel
theorem dX9_put_19 : decode cX9_put 19 = .ok (.iload_n 3, 1) := by decide +kernel
theorem dX9_put_20 : decode cX9_put 20 = .ok (.iadd, 1) := by decide +kernel
theorem dX9_put_21 : decode cX9_put 21 = .ok (.bipush 80, 2) := by decide +kernel
theorem dX9_put_23 : decode cX9_put 23 = .ok (.if_icmp .le 6, 3) := by decide +kernel
theorem dX9_put_26 : decode cX9_put 26 = .ok (.bipush (-4), 2) := by decide +kernel
theorem dX9_put_28 : decode cX9_put 28 = .ok (.ireturn, 1) := by decide +kernel
theorem dX9_put_29 : decode cX9_put 29 = .ok (.iload_n 3, 1) := by decide +kernel
theorem dX9_put_30 : decode cX9_put 30 = .ok (.iconst 1, 1) := by decide +kernel
theorem dX9_put_31 : decode cX9_put 31 = .ok (.isub, 1) := by decide +kernel
theorem dX9_put_32 : decode cX9_put 32 = .ok (.istore 4, 2) := by decide +kernel
theorem dX9_put_34 : decode cX9_put 34 = .ok (.iload 4, 2) := by decide +kernel
theorem dX9_put_36 : decode cX9_put 36 = .ok (.ifCond .lt 29, 3) := by decide +kernel
theorem dX9_put_39 : decode cX9_put 39 = .ok (.aload_n 0, 1) := by decide +kernel
theorem dX9_put_40 : decode cX9_put 40 = .ok (.getfield 37, 3) := by decide +kernel
theorem dX9_put_43 : decode cX9_put 43 = .ok (.lload_n 1, 1) := by decide +kernel
theorem dX9_put_44 : decode cX9_put 44 = .ok (.bipush 8, 2) := by decide +kernel
theorem dX9_put_46 : decode cX9_put 46 = .ok (.iload 4, 2) := by decide +kernel
theorem dX9_put_48 : decode cX9_put 48 = .ok (.imul, 1) := by decide +kernel
theorem dX9_put_49 : decode cX9_put 49 = .ok (.lushr, 1) := by decide +kernel
theorem dX9_put_50 : decode cX9_put 50 = .ok (.ldc2_w 249, 3) := by decide +kernel
theorem dX9_put_53 : decode cX9_put 53 = .ok (.land, 1) := by decide +kernel
theorem dX9_put_54 : decode cX9_put 54 = .ok (.l2i, 1) := by decide +kernel
theorem dX9_put_55 : decode cX9_put 55 = .ok (.i2c, 1) := by decide +kernel
theorem dX9_put_56 : decode cX9_put 56 = .ok (.invokevirtual 251, 3) := by decide +kernel
theorem dX9_put_59 : decode cX9_put 59 = .ok (.iinc 4 (-1), 3) := by decide +kernel
theorem dX9_put_62 : decode cX9_put 62 = .ok (.goto (-28), 3) := by decide +kernel
theorem dX9_put_65 : decode cX9_put 65 = .ok (.aload_n 0, 1) := by decide +kernel
theorem dX9_put_66 : decode cX9_put 66 = .ok (.getfield 37, 3) := by decide +kernel
theorem dX9_put_69 : decode cX9_put 69 = .ok (.getfield 214, 3) := by decide +kernel
theorem dX9_put_72 : decode cX9_put 72 = .ok (.ireturn, 1) := by decide +kernel
theorem dX9_wipe_0 : decode cX9_wipe 0 = .ok (.aload_n 0, 1) := by decide +kernel
theorem dX9_wipe_1 : decode cX9_wipe 1 = .ok (.getfield 37, 3) := by decide +kernel
theorem dX9_wipe_4 : decode cX9_wipe 4 = .ok (.getfield 214, 3) := by decide +kernel
theorem dX9_wipe_7 : decode cX9_wipe 7 = .ok (.istore_n 1, 1) := by decide +kernel
theorem dX9_wipe_8 : decode cX9_wipe 8 = .ok (.aload_n 0, 1) := by decide +kernel
theorem dX9_wipe_9 : decode cX9_wipe 9 = .ok (.getfield 37, 3) := by decide +kernel
theorem dX9_wipe_12 : decode cX9_wipe 12 = .ok (.iconst 0, 1) := by decide +kernel
theorem dX9_wipe_13 : decode cX9_wipe 13 = .ok (.putfield 214, 3) := by decide +kernel
theorem dX9_wipe_16 : decode cX9_wipe 16 = .ok (.iload_n 1, 1) := by decide +kernel
theorem dX9_wipe_17 : decode cX9_wipe 17 = .ok (.ireturn, 1) := by decide +kernel
set_option maxRecDepth 20000 in
theorem ggX9_fault_X6_read : GoodIn wsX9_fault wsX6_read := goodIn_r _ [8, 9, 10, 11, 12, 13, 14, 15, 16, 17, 7, 18, 19, 20, 21, 22, 23, 24, 25, 26, 27, 28, 29, 30, 31, 32, 33, 34, 35, 36, 37, 38, 39, 40, 41, 42, 43, 44, 45, 46, 47, 48, 49, 50, 51, 52, 60, 61, 62, 63, 64, 65, 66, 67, 68] (by decide +kernel) (by decide +kernel)
set_option maxRecDepth 20000 in
theorem gX9_fault_X6_read : GoodIn wsX9_fault (wsV RX9 254 RX6 yX6_read wsX6_read) := goodIn_app (goodIn_of _ (by decide +kernel)) ggX9_fault_X6_read
theorem dX9_fault_0 : decode cX9_fault 0 = .ok (.aload_n 0, 1) := by decide +kernel
theorem dX9_fault_1 : decode cX9_fault 1 = .ok (.getfield 44, 3) := by decide +kernel
theorem dX9_fault_4 : decode cX9_fault 4 = .ok (.aload_n 0, 1) := by decide +kernel
theorem dX9_fault_5 : decode cX9_fault 5 = .ok (.getfield 37, 3) := by decide +kernel
theorem dX9_fault_8 : decode cX9_fault 8 = .ok (.invokevirtual 254, 3) := by decide +kernel
theorem dX9_fault_11 : decode cX9_fault 11 = .ok (.aload_n 0, 1) := by decide +kernel
theorem dX9_fault_12 : decode cX9_fault 12 = .ok (.getfield 44, 3) := by decide +kernel
theorem dX9_fault_15 : decode cX9_fault 15 = .ok (.getfield 258, 3) := by decide +kernel
theorem dX9_fault_18 : decode cX9_fault 18 = .ok (.ireturn, 1) := by decide +kernel
set_option maxRecDepth 20000 in
theorem ggX9_plan_X6_read : GoodIn wsX9_plan wsX6_read := goodIn_r _ [15, 16, 17, 18, 19, 20, 21, 22, 23, 24, 14, 25, 26, 27, 28, 29, 30, 31, 32, 33, 34, 35, 36, 37, 38, 39, 40, 41, 42, 43, 44, 45, 46, 47, 48, 49, 50, 51, 52, 53, 54, 55, 56, 57, 58, 59, 195, 196, 197, 198, 199, 200, 201, 212, 213] (by decide +kernel) (by decide +kernel)
set_option maxRecDepth 20000 in
theorem gX9_plan_X6_read : GoodIn wsX9_plan (wsV RX9 254 RX6 yX6_read wsX6_read) := goodIn_app (goodIn_of _ (by decide +kernel)) ggX9_plan_X6_read
set_option maxRecDepth 20000 in
theorem ggX9_plan_X5_copyFrom : GoodIn wsX9_plan wsX5_copyFrom := goodIn_r _ [64, 65, 66, 67, 68, 69, 70, 71, 209, 210, 211] (by decide +kernel) (by decide +kernel)
set_option maxRecDepth 20000 in
theorem gX9_plan_X5_copyFrom : GoodIn wsX9_plan (wsV RX9 228 RX5 yX5_copyFrom wsX5_copyFrom) := goodIn_app (goodIn_of _ (by decide +kernel)) ggX9_plan_X5_copyFrom
set_option maxRecDepth 20000 in
theorem ggX9_plan_X5_appendAll : GoodIn wsX9_plan wsX5_appendAll := goodIn_r _ [75, 76, 77, 78, 79, 80, 81, 63, 82, 71, 83, 84, 85, 86, 65, 87, 88, 89, 90, 91, 92, 93, 94, 95, 96, 97, 98, 70, 99, 100, 101, 102, 103, 104, 105, 106, 107, 195, 196, 197, 198, 199, 200, 201, 209, 210, 211] (by decide +kernel) (by decide +kernel)
set_option maxRecDepth 20000 in
theorem gX9_plan_X5_appendAll : GoodIn wsX9_plan (wsV RX9 261 RX5 yX5_appendAll wsX5_appendAll) := goodIn_app (goodIn_of _ (by decide +kernel)) ggX9_plan_X5_appendAll
set_option maxRecDepth 20000 in
theorem ggX9_plan_X5_has : GoodIn wsX9_plan wsX5_has := goodIn_r _ [90, 71, 209, 210, 211] (by decide +kernel) (by decide +kernel)
set_option maxRecDepth 20000 in
theorem gX9_plan_X5_has : GoodIn wsX9_plan (wsV RX9 130 RX5 yX5_has wsX5_has) := goodIn_app (goodIn_of _ (by decide +kernel)) ggX9_plan_X5_has
set_option maxRecDepth 20000 in
theorem ggX9_plan_X5_timeOf : GoodIn wsX9_plan wsX5_timeOf := goodIn_r _ [86, 65, 87, 88, 89, 63, 90, 71, 209, 210, 211] (by decide +kernel) (by decide +kernel)
set_option maxRecDepth 20000 in
theorem gX9_plan_X5_timeOf : GoodIn wsX9_plan (wsV RX9 133 RX5 yX5_timeOf wsX5_timeOf) := goodIn_app (goodIn_of _ (by decide +kernel)) ggX9_plan_X5_timeOf
set_option maxRecDepth 20000 in
theorem ggX9_plan_X3_record : GoodIn wsX9_plan wsX3_record := goodIn_r _ [114, 115, 116, 117, 118, 119, 120, 121, 122, 123, 124, 125, 126, 127, 128, 129, 130, 131, 132, 67, 68, 69, 133, 134, 135, 136, 137, 138, 139, 61, 62, 63, 64, 65, 66, 70, 71, 140, 141, 142, 143, 144, 145, 146, 147, 148, 149, 150, 151, 152, 153, 154, 155, 156, 157, 158, 159, 160, 161, 162, 163, 164, 165, 166, 167, 168, 169, 170, 171, 172, 173, 174, 175, 176, 177, 178, 179, 180, 181, 182, 183, 184, 185, 186, 187, 214, 215, 216, 202, 203, 204, 205, 206, 207, 208, 209, 210, 211, 217, 218, 219, 220, 221, 222, 223, 224, 225, 226, 227, 228, 229, 230, 231, 232, 233, 234, 235, 236, 237, 238, 239, 240, 241, 242] (by decide +kernel) (by decide +kernel)
set_option maxRecDepth 20000 in
theorem gX9_plan_X3_record : GoodIn wsX9_plan (wsV RX9 69 RX3 yX3_record wsX3_record) := goodIn_app (goodIn_of _ (by decide +kernel)) ggX9_plan_X3_record
theorem dX9_plan_0 : decode cX9_plan 0 = .ok (.aload_n 0, 1) := by decide +kernel
theorem dX9_plan_1 : decode cX9_plan 1 = .ok (.getfield 44, 3) := by decide +kernel
theorem dX9_plan_4 : decode cX9_plan 4 = .ok (.aload_n 0, 1) := by decide +kernel
theorem dX9_plan_5 : decode cX9_plan 5 = .ok (.getfield 37, 3) := by decide +kernel
theorem dX9_plan_8 : decode cX9_plan 8 = .ok (.invokevirtual 254, 3) := by decide +kernel
theorem dX9_plan_11 : decode cX9_plan 11 = .ok (.aload_n 0, 1) := by decide +kernel
theorem dX9_plan_12 : decode cX9_plan 12 = .ok (.getfield 44, 3) := by decide +kernel
theorem dX9_plan_15 : decode cX9_plan 15 = .ok (.getfield 258, 3) := by decide +kernel
theorem dX9_plan_18 : decode cX9_plan 18 = .ok (.bipush (-6), 2) := by decide +kernel
theorem dX9_plan_20 : decode cX9_plan 20 = .ok (.if_icmp .eq 6, 3) := by decide +kernel
theorem dX9_plan_23 : decode cX9_plan 23 = .ok (.bipush (-3), 2) := by decide +kernel
theorem dX9_plan_25 : decode cX9_plan 25 = .ok (.ireturn, 1) := by decide +kernel
theorem dX9_plan_26 : decode cX9_plan 26 = .ok (.aload_n 0, 1) := by decide +kernel
theorem dX9_plan_27 : decode cX9_plan 27 = .ok (.getfield 16, 3) := by decide +kernel
theorem dX9_plan_30 : decode cX9_plan 30 = .ok (.getfield 87, 3) := by decide +kernel
theorem dX9_plan_33 : decode cX9_plan 33 = .ok (.aload_n 0, 1) := by decide +kernel
theorem dX9_plan_34 : decode cX9_plan 34 = .ok (.getfield 10, 3) := by decide +kernel
theorem dX9_plan_37 : decode cX9_plan 37 = .ok (.getfield 87, 3) := by decide +kernel
theorem dX9_plan_40 : decode cX9_plan 40 = .ok (.invokevirtual 228, 3) := by decide +kernel
theorem dX9_plan_43 : decode cX9_plan 43 = .ok (.aload_n 0, 1) := by decide +kernel
theorem dX9_plan_44 : decode cX9_plan 44 = .ok (.getfield 16, 3) := by decide +kernel
theorem dX9_plan_47 : decode cX9_plan 47 = .ok (.getfield 87, 3) := by decide +kernel
theorem dX9_plan_50 : decode cX9_plan 50 = .ok (.aload_n 0, 1) := by decide +kernel
theorem dX9_plan_51 : decode cX9_plan 51 = .ok (.getfield 44, 3) := by decide +kernel
theorem dX9_plan_54 : decode cX9_plan 54 = .ok (.invokevirtual 261, 3) := by decide +kernel
theorem dX9_plan_57 : decode cX9_plan 57 = .ok (.ifCond .ne 6, 3) := by decide +kernel
theorem dX9_plan_60 : decode cX9_plan 60 = .ok (.bipush (-4), 2) := by decide +kernel
theorem dX9_plan_62 : decode cX9_plan 62 = .ok (.ireturn, 1) := by decide +kernel
theorem dX9_plan_63 : decode cX9_plan 63 = .ok (.aload_n 0, 1) := by decide +kernel
theorem dX9_plan_64 : decode cX9_plan 64 = .ok (.getfield 10, 3) := by decide +kernel
theorem dX9_plan_67 : decode cX9_plan 67 = .ok (.getfield 87, 3) := by decide +kernel
theorem dX9_plan_70 : decode cX9_plan 70 = .ok (.getfield 110, 3) := by decide +kernel
theorem dX9_plan_73 : decode cX9_plan 73 = .ok (.istore_n 1, 1) := by decide +kernel
theorem dX9_plan_74 : decode cX9_plan 74 = .ok (.aload_n 0, 1) := by decide +kernel
theorem dX9_plan_75 : decode cX9_plan 75 = .ok (.getfield 16, 3) := by decide +kernel
theorem dX9_plan_78 : decode cX9_plan 78 = .ok (.getfield 87, 3) := by decide +kernel
theorem dX9_plan_81 : decode cX9_plan 81 = .ok (.iload_n 1, 1) := by decide +kernel
theorem dX9_plan_82 : decode cX9_plan 82 = .ok (.invokevirtual 130, 3) := by decide +kernel
theorem dX9_plan_85 : decode cX9_plan 85 = .ok (.ifCond .eq 27, 3) := by decide +kernel
theorem dX9_plan_88 : decode cX9_plan 88 = .ok (.aload_n 0, 1) := by decide +kernel
theorem dX9_plan_89 : decode cX9_plan 89 = .ok (.getfield 16, 3) := by decide +kernel
theorem dX9_plan_92 : decode cX9_plan 92 = .ok (.getfield 87, 3) := by decide +kernel
theorem dX9_plan_95 : decode cX9_plan 95 = .ok (.iload_n 1, 1) := by decide +kernel
theorem dX9_plan_96 : decode cX9_plan 96 = .ok (.invokevirtual 133, 3) := by decide +kernel
theorem dX9_plan_99 : decode cX9_plan 99 = .ok (.aload_n 0, 1) := by decide +kernel
theorem dX9_plan_100 : decode cX9_plan 100 = .ok (.getfield 10, 3) := by decide +kernel
theorem dX9_plan_103 : decode cX9_plan 103 = .ok (.getfield 103, 3) := by decide +kernel
theorem dX9_plan_106 : decode cX9_plan 106 = .ok (.if_icmp .gt 6, 3) := by decide +kernel
theorem dX9_plan_109 : decode cX9_plan 109 = .ok (.bipush (-5), 2) := by decide +kernel
theorem dX9_plan_111 : decode cX9_plan 111 = .ok (.ireturn, 1) := by decide +kernel
theorem dX9_plan_112 : decode cX9_plan 112 = .ok (.aload_n 0, 1) := by decide +kernel
theorem dX9_plan_113 : decode cX9_plan 113 = .ok (.getfield 22, 3) := by decide +kernel
theorem dX9_plan_116 : decode cX9_plan 116 = .ok (.aload_n 0, 1) := by decide +kernel
theorem dX9_plan_117 : decode cX9_plan 117 = .ok (.getfield 10, 3) := by decide +kernel
theorem dX9_plan_120 : decode cX9_plan 120 = .ok (.invokevirtual 69, 3) := by decide +kernel
theorem dX9_plan_123 : decode cX9_plan 123 = .ok (.aload_n 0, 1) := by decide +kernel
theorem dX9_plan_124 : decode cX9_plan 124 = .ok (.getfield 10, 3) := by decide +kernel
theorem dX9_plan_127 : decode cX9_plan 127 = .ok (.getfield 87, 3) := by decide +kernel
theorem dX9_plan_130 : decode cX9_plan 130 = .ok (.aload_n 0, 1) := by decide +kernel
theorem dX9_plan_131 : decode cX9_plan 131 = .ok (.getfield 16, 3) := by decide +kernel
theorem dX9_plan_134 : decode cX9_plan 134 = .ok (.getfield 87, 3) := by decide +kernel
theorem dX9_plan_137 : decode cX9_plan 137 = .ok (.invokevirtual 228, 3) := by decide +kernel
theorem dX9_plan_140 : decode cX9_plan 140 = .ok (.aload_n 0, 1) := by decide +kernel
theorem dX9_plan_141 : decode cX9_plan 141 = .ok (.getfield 37, 3) := by decide +kernel
theorem dX9_plan_144 : decode cX9_plan 144 = .ok (.iconst 0, 1) := by decide +kernel
theorem dX9_plan_145 : decode cX9_plan 145 = .ok (.putfield 214, 3) := by decide +kernel
theorem dX9_plan_148 : decode cX9_plan 148 = .ok (.aload_n 0, 1) := by decide +kernel
theorem dX9_plan_149 : decode cX9_plan 149 = .ok (.getfield 10, 3) := by decide +kernel
theorem dX9_plan_152 : decode cX9_plan 152 = .ok (.getfield 87, 3) := by decide +kernel
theorem dX9_plan_155 : decode cX9_plan 155 = .ok (.getfield 110, 3) := by decide +kernel
theorem dX9_plan_158 : decode cX9_plan 158 = .ok (.ireturn, 1) := by decide +kernel
set_option maxRecDepth 20000 in
theorem ggX9_undo_X3_takeBack : GoodIn wsX9_undo wsX3_takeBack := goodIn_r _ [8, 9, 10, 11, 12, 13, 14, 15, 16, 17, 18, 19, 20, 21, 22, 23, 24, 25, 26, 27, 28, 29, 30, 31, 32, 33, 34, 35, 36, 37, 38, 39, 40, 41, 42, 43, 44, 45, 46, 47, 48, 49, 50, 51, 52, 53, 54, 55, 56, 57, 58, 59, 60, 61, 62, 63, 64, 65, 66, 67, 68, 69, 70, 71, 72, 73, 74, 75, 76, 77, 78, 79, 80, 81, 82, 83, 84, 85, 86, 87, 88, 96, 97, 98, 99, 100, 101, 102, 103, 104, 105, 106, 107, 108, 109, 110, 111, 112, 113, 114, 115, 116, 117, 118, 119, 120, 121, 122, 123, 124, 125, 126, 127, 128, 129, 130, 131, 132, 133, 134] (by decide +kernel) (by decide +kernel)
set_option maxRecDepth 20000 in
theorem gX9_undo_X3_takeBack : GoodIn wsX9_undo (wsV RX9 265 RX3 yX3_takeBack wsX3_takeBack) := goodIn_app (goodIn_of _ (by decide +kernel)) ggX9_undo_X3_takeBack
theorem dX9_undo_0 : decode cX9_undo 0 = .ok (.aload_n 0, 1) := by decide +kernel
theorem dX9_undo_1 : decode cX9_undo 1 = .ok (.getfield 22, 3) := by decide +kernel
theorem dX9_undo_4 : decode cX9_undo 4 = .ok (.getfield 217, 3) := by decide +kernel
theorem dX9_undo_7 : decode cX9_undo 7 = .ok (.ifCond .ne 6, 3) := by decide +kernel
theorem dX9_undo_10 : decode cX9_undo 10 = .ok (.bipush (-5), 2) := by decide +kernel
theorem dX9_undo_12 : decode cX9_undo 12 = .ok (.ireturn, 1) := by decide +kernel
theorem dX9_undo_13 : decode cX9_undo 13 = .ok (.aload_n 0, 1) := by decide +kernel
theorem dX9_undo_14 : decode cX9_undo 14 = .ok (.getfield 22, 3) := by decide +kernel
theorem dX9_undo_17 : decode cX9_undo 17 = .ok (.aload_n 0, 1) := by decide +kernel
theorem dX9_undo_18 : decode cX9_undo 18 = .ok (.getfield 10, 3) := by decide +kernel
theorem dX9_undo_21 : decode cX9_undo 21 = .ok (.invokevirtual 265, 3) := by decide +kernel
theorem dX9_undo_24 : decode cX9_undo 24 = .ok (.aload_n 0, 1) := by decide +kernel
theorem dX9_undo_25 : decode cX9_undo 25 = .ok (.getfield 22, 3) := by decide +kernel
theorem dX9_undo_28 : decode cX9_undo 28 = .ok (.getfield 217, 3) := by decide +kernel
theorem dX9_undo_31 : decode cX9_undo 31 = .ok (.ireturn, 1) := by decide +kernel
set_option maxRecDepth 20000 in
theorem ggX9_save_X9_isIn : GoodIn wsX9_save wsX9_isIn := goodIn_r _ [8] (by decide +kernel) (by decide +kernel)
set_option maxRecDepth 20000 in
theorem gX9_save_X9_isIn : GoodIn wsX9_save (va_wsS RX9 83 yX9_isIn wsX9_isIn) := goodIn_app (goodIn_of _ (by decide +kernel)) ggX9_save_X9_isIn
set_option maxRecDepth 20000 in
theorem ggX9_save_X7_copyFrom : GoodIn wsX9_save wsX7_copyFrom := goodIn_r _ [13, 14, 15, 16, 17, 18, 19, 20, 21, 22, 23, 24, 25, 26, 27, 28, 29, 30, 31, 32, 33, 34, 35, 36, 37, 38, 39, 40, 41, 42, 43, 44, 45, 46, 47, 48, 49, 50, 51, 52, 53, 54, 55, 56, 57, 58, 59, 60, 61, 62, 63, 64, 65, 66, 67, 68, 69, 70, 71, 72, 73, 74, 75, 76, 77, 78, 79, 80, 81, 89, 90, 91, 92, 93, 94, 95, 96, 97, 98, 99, 100, 101, 102, 103, 104, 105, 106, 107, 108, 109, 110, 111, 112, 113, 114, 115, 116, 117, 118, 119, 120, 121, 122, 123, 124] (by decide +kernel) (by decide +kernel)
set_option maxRecDepth 20000 in
theorem gX9_save_X7_copyFrom : GoodIn wsX9_save (wsV RX9 222 RX7 yX7_copyFrom wsX7_copyFrom) := goodIn_app (goodIn_of _ (by decide +kernel)) ggX9_save_X7_copyFrom
theorem dX9_save_0 : decode cX9_save 0 = .ok (.iload_n 1, 1) := by decide +kernel
theorem dX9_save_1 : decode cX9_save 1 = .ok (.iconst 0, 1) := by decide +kernel
theorem dX9_save_2 : decode cX9_save 2 = .ok (.iconst 1, 1) := by decide +kernel
theorem dX9_save_3 : decode cX9_save 3 = .ok (.invokestatic 83, 3) := by decide +kernel
theorem dX9_save_6 : decode cX9_save 6 = .ok (.ifCond .ne 6, 3) := by decide +kernel
theorem dX9_save_9 : decode cX9_save 9 = .ok (.bipush (-2), 2) := by decide +kernel
theorem dX9_save_11 : decode cX9_save 11 = .ok (.ireturn, 1) := by decide +kernel
theorem dX9_save_12 : decode cX9_save 12 = .ok (.aload_n 0, 1) := by decide +kernel
theorem dX9_save_13 : decode cX9_save 13 = .ok (.getfield 26, 3) := by decide +kernel
theorem dX9_save_16 : decode cX9_save 16 = .ok (.iload_n 1, 1) := by decide +kernel
theorem dX9_save_17 : decode cX9_save 17 = .ok (.aaload, 1) := by decide +kernel
theorem dX9_save_18 : decode cX9_save 18 = .ok (.aload_n 0, 1) := by decide +kernel
theorem dX9_save_19 : decode cX9_save 19 = .ok (.getfield 10, 3) := by decide +kernel
theorem dX9_save_22 : decode cX9_save 22 = .ok (.invokevirtual 222, 3) := by decide +kernel
theorem dX9_save_25 : decode cX9_save 25 = .ok (.aload_n 0, 1) := by decide +kernel
theorem dX9_save_26 : decode cX9_save 26 = .ok (.getfield 30, 3) := by decide +kernel
theorem dX9_save_29 : decode cX9_save 29 = .ok (.iload_n 1, 1) := by decide +kernel
theorem dX9_save_30 : decode cX9_save 30 = .ok (.iconst 1, 1) := by decide +kernel
theorem dX9_save_31 : decode cX9_save 31 = .ok (.bastore, 1) := by decide +kernel
theorem dX9_save_32 : decode cX9_save 32 = .ok (.aload_n 0, 1) := by decide +kernel
theorem dX9_save_33 : decode cX9_save 33 = .ok (.getfield 10, 3) := by decide +kernel
theorem dX9_save_36 : decode cX9_save 36 = .ok (.getfield 103, 3) := by decide +kernel
theorem dX9_save_39 : decode cX9_save 39 = .ok (.ireturn, 1) := by decide +kernel
set_option maxRecDepth 20000 in
theorem ggX9_restore_X9_isIn : GoodIn wsX9_restore wsX9_isIn := goodIn_r _ [9] (by decide +kernel) (by decide +kernel)
set_option maxRecDepth 20000 in
theorem gX9_restore_X9_isIn : GoodIn wsX9_restore (va_wsS RX9 83 yX9_isIn wsX9_isIn) := goodIn_app (goodIn_of _ (by decide +kernel)) ggX9_restore_X9_isIn
set_option maxRecDepth 20000 in
theorem ggX9_restore_X3_record : GoodIn wsX9_restore wsX3_record := goodIn_r _ [14, 15, 16, 17, 18, 19, 20, 21, 22, 23, 24, 25, 26, 27, 28, 29, 30, 31, 32, 33, 34, 35, 36, 37, 38, 39, 40, 41, 42, 43, 44, 45, 46, 47, 48, 49, 50, 51, 52, 53, 54, 55, 56, 57, 58, 59, 60, 61, 62, 63, 64, 65, 66, 67, 68, 69, 70, 71, 72, 73, 74, 75, 76, 77, 78, 79, 80, 81, 82, 83, 84, 85, 86, 87, 88, 89, 90, 91, 92, 93, 94, 95, 96, 97, 98, 114, 115, 116, 107, 108, 109, 110, 111, 112, 113, 117, 118, 119, 120, 121, 122, 123, 124, 125, 126, 127, 128, 129, 130, 131, 132, 133, 134, 135, 136, 137, 138, 139, 140, 141, 142, 143, 144, 145] (by decide +kernel) (by decide +kernel)
set_option maxRecDepth 20000 in
theorem gX9_restore_X3_record : GoodIn wsX9_restore (wsV RX9 69 RX3 yX3_record wsX3_record) := goodIn_app (goodIn_of _ (by decide +kernel)) ggX9_restore_X3_record
set_option maxRecDepth 20000 in
theorem ggX9_restore_X7_copyFrom : GoodIn wsX9_restore wsX7_copyFrom := goodIn_r _ [30, 31, 32, 33, 34, 35, 36, 37, 38, 39, 40, 41, 42, 43, 44, 45, 46, 47, 48, 49, 50, 51, 52, 53, 54, 55, 56, 57, 58, 59, 60, 61, 62, 63, 64, 65, 66, 67, 68, 69, 70, 71, 72, 73, 74, 75, 76, 77, 78, 79, 80, 81, 82, 83, 84, 85, 86, 87, 88, 89, 90, 91, 92, 93, 94, 95, 96, 97, 98, 107, 108, 109, 110, 111, 112, 113, 117, 118, 119, 120, 121, 122, 123, 124, 125, 126, 127, 128, 129, 130, 131, 132, 133, 134, 135, 136, 137, 138, 139, 140, 141, 142, 143, 144, 145] (by decide +kernel) (by decide +kernel)
set_option maxRecDepth 20000 in
theorem gX9_restore_X7_copyFrom : GoodIn wsX9_restore (wsV RX9 222 RX7 yX7_copyFrom wsX7_copyFrom) := goodIn_app (goodIn_of _ (by decide +kernel)) ggX9_restore_X7_copyFrom
theorem dX9_restore_0 : decode cX9_restore 0 = .ok (.iload_n 1, 1) := by decide +kernel
theorem dX9_restore_1 : decode cX9_restore 1 = .ok (.iconst 0, 1) := by decide +kernel
theorem dX9_restore_2 : decode cX9_restore 2 = .ok (.iconst 1, 1) := by decide +kernel
theorem dX9_restore_3 : decode cX9_restore 3 = .ok (.invokestatic 83, 3) := by decide +kernel
theorem dX9_restore_6 : decode cX9_restore 6 = .ok (.ifCond .ne 6, 3) := by decide +kernel
theorem dX9_restore_9 : decode cX9_restore 9 = .ok (.bipush (-2), 2) := by decide +kernel
theorem dX9_restore_11 : decode cX9_restore 11 = .ok (.ireturn, 1) := by decide +kernel
theorem dX9_restore_12 : decode cX9_restore 12 = .ok (.aload_n 0, 1) := by decide +kernel
theorem dX9_restore_13 : decode cX9_restore 13 = .ok (.getfield 30, 3) := by decide +kernel
theorem dX9_restore_16 : decode cX9_restore 16 = .ok (.iload_n 1, 1) := by decide +kernel
theorem dX9_restore_17 : decode cX9_restore 17 = .ok (.baload, 1) := by decide +kernel
theorem dX9_restore_18 : decode cX9_restore 18 = .ok (.ifCond .ne 6, 3) := by decide +kernel
theorem dX9_restore_21 : decode cX9_restore 21 = .ok (.bipush (-5), 2) := by decide +kernel
theorem dX9_restore_23 : decode cX9_restore 23 = .ok (.ireturn, 1) := by decide +kernel
theorem dX9_restore_24 : decode cX9_restore 24 = .ok (.aload_n 0, 1) := by decide +kernel
theorem dX9_restore_25 : decode cX9_restore 25 = .ok (.getfield 22, 3) := by decide +kernel
theorem dX9_restore_28 : decode cX9_restore 28 = .ok (.aload_n 0, 1) := by decide +kernel
theorem dX9_restore_29 : decode cX9_restore 29 = .ok (.getfield 10, 3) := by decide +kernel
theorem dX9_restore_32 : decode cX9_restore 32 = .ok (.invokevirtual 69, 3) := by decide +kernel
theorem dX9_restore_35 : decode cX9_restore 35 = .ok (.aload_n 0, 1) := by decide +kernel
theorem dX9_restore_36 : decode cX9_restore 36 = .ok (.getfield 10, 3) := by decide +kernel
theorem dX9_restore_39 : decode cX9_restore 39 = .ok (.aload_n 0, 1) := by decide +kernel
theorem dX9_restore_40 : decode cX9_restore 40 = .ok (.getfield 26, 3) := by decide +kernel
theorem dX9_restore_43 : decode cX9_restore 43 = .ok (.iload_n 1, 1) := by decide +kernel
theorem dX9_restore_44 : decode cX9_restore 44 = .ok (.aaload, 1) := by decide +kernel
theorem dX9_restore_45 : decode cX9_restore 45 = .ok (.invokevirtual 222, 3) := by decide +kernel
theorem dX9_restore_48 : decode cX9_restore 48 = .ok (.aload_n 0, 1) := by decide +kernel
theorem dX9_restore_49 : decode cX9_restore 49 = .ok (.getfield 10, 3) := by decide +kernel
theorem dX9_restore_52 : decode cX9_restore 52 = .ok (.getfield 103, 3) := by decide +kernel
theorem dX9_restore_55 : decode cX9_restore 55 = .ok (.ireturn, 1) := by decide +kernel
theorem dX9_isIn_0 : decode cX9_isIn 0 = .ok (.iload_n 0, 1) := by decide +kernel
theorem dX9_isIn_1 : decode cX9_isIn 1 = .ok (.iload_n 1, 1) := by decide +kernel
theorem dX9_isIn_2 : decode cX9_isIn 2 = .ok (.if_icmp .lt 12, 3) := by decide +kernel
theorem dX9_isIn_5 : decode cX9_isIn 5 = .ok (.iload_n 0, 1) := by decide +kernel
theorem dX9_isIn_6 : decode cX9_isIn 6 = .ok (.iload_n 2, 1) := by decide +kernel
theorem dX9_isIn_7 : decode cX9_isIn 7 = .ok (.if_icmp .gt 7, 3) := by decide +kernel
theorem dX9_isIn_10 : decode cX9_isIn 10 = .ok (.iconst 1, 1) := by decide +kernel
theorem dX9_isIn_11 : decode cX9_isIn 11 = .ok (.goto 4, 3) := by decide +kernel
theorem dX9_isIn_14 : decode cX9_isIn 14 = .ok (.iconst 0, 1) := by decide +kernel
theorem dX9_isIn_15 : decode cX9_isIn 15 = .ok (.ireturn, 1) := by decide +kernel
set_option maxRecDepth 20000 in
theorem ggX9_isSetting_X9_isIn : GoodIn wsX9_isSetting wsX9_isIn := goodIn_r _ [4] (by decide +kernel) (by decide +kernel)
set_option maxRecDepth 20000 in
theorem gX9_isSetting_X9_isIn : GoodIn wsX9_isSetting (va_wsS RX9 83 yX9_isIn wsX9_isIn) := goodIn_app (goodIn_of _ (by decide +kernel)) ggX9_isSetting_X9_isIn
theorem dX9_isSetting_0 : decode cX9_isSetting 0 = .ok (.iload_n 0, 1) := by decide +kernel
theorem dX9_isSetting_1 : decode cX9_isSetting 1 = .ok (.iconst 0, 1) := by decide +kernel
theorem dX9_isSetting_2 : decode cX9_isSetting 2 = .ok (.bipush 7, 2) := by decide +kernel
theorem dX9_isSetting_4 : decode cX9_isSetting 4 = .ok (.invokestatic 83, 3) := by decide +kernel
theorem dX9_isSetting_7 : decode cX9_isSetting 7 = .ok (.ireturn, 1) := by decide +kernel
set_option maxRecDepth 20000 in
theorem ggX9_charactersIn_X9_isIn : GoodIn wsX9_charactersIn wsX9_isIn := goodIn_r _ [5] (by decide +kernel) (by decide +kernel)
set_option maxRecDepth 20000 in
theorem gX9_charactersIn_X9_isIn : GoodIn wsX9_charactersIn (va_wsS RX9 83 yX9_isIn wsX9_isIn) := goodIn_app (goodIn_of _ (by decide +kernel)) ggX9_charactersIn_X9_isIn
theorem dX9_charactersIn_0 : decode cX9_charactersIn 0 = .ok (.lload_n 0, 1) := by decide +kernel
theorem dX9_charactersIn_1 : decode cX9_charactersIn 1 = .ok (.lstore_n 2, 1) := by decide +kernel
theorem dX9_charactersIn_2 : decode cX9_charactersIn 2 = .ok (.iconst 0, 1) := by decide +kernel
theorem dX9_charactersIn_3 : decode cX9_charactersIn 3 = .ok (.istore 4, 2) := by decide +kernel
theorem dX9_charactersIn_5 : decode cX9_charactersIn 5 = .ok (.iconst 0, 1) := by decide +kernel
theorem dX9_charactersIn_6 : decode cX9_charactersIn 6 = .ok (.istore 5, 2) := by decide +kernel
theorem dX9_charactersIn_8 : decode cX9_charactersIn 8 = .ok (.iload 5, 2) := by decide +kernel
theorem dX9_charactersIn_10 : decode cX9_charactersIn 10 = .ok (.bipush 8, 2) := by decide +kernel
theorem dX9_charactersIn_12 : decode cX9_charactersIn 12 = .ok (.if_icmp .ge 41, 3) := by decide +kernel
theorem dX9_charactersIn_15 : decode cX9_charactersIn 15 = .ok (.lload_n 2, 1) := by decide +kernel
theorem dX9_charactersIn_16 : decode cX9_charactersIn 16 = .ok (.lconst 0, 1) := by decide +kernel
theorem dX9_charactersIn_17 : decode cX9_charactersIn 17 = .ok (.lcmp, 1) := by decide +kernel
theorem dX9_charactersIn_18 : decode cX9_charactersIn 18 = .ok (.ifCond .eq 35, 3) := by decide +kernel
theorem dX9_charactersIn_21 : decode cX9_charactersIn 21 = .ok (.lload_n 2, 1) := by decide +kernel
theorem dX9_charactersIn_22 : decode cX9_charactersIn 22 = .ok (.ldc2_w 249, 3) := by decide +kernel
theorem dX9_charactersIn_25 : decode cX9_charactersIn 25 = .ok (.land, 1) := by decide +kernel
theorem dX9_charactersIn_26 : decode cX9_charactersIn 26 = .ok (.l2i, 1) := by decide +kernel
theorem dX9_charactersIn_27 : decode cX9_charactersIn 27 = .ok (.bipush 33, 2) := by decide +kernel
theorem dX9_charactersIn_29 : decode cX9_charactersIn 29 = .ok (.bipush 126, 2) := by decide +kernel
theorem dX9_charactersIn_31 : decode cX9_charactersIn 31 = .ok (.invokestatic 83, 3) := by decide +kernel
theorem dX9_charactersIn_34 : decode cX9_charactersIn 34 = .ok (.ifCond .ne 5, 3) := by decide +kernel
theorem dX9_charactersIn_37 : decode cX9_charactersIn 37 = .ok (.iconst 0, 1) := by decide +kernel
theorem dX9_charactersIn_38 : decode cX9_charactersIn 38 = .ok (.ireturn, 1) := by decide +kernel
theorem dX9_charactersIn_39 : decode cX9_charactersIn 39 = .ok (.iinc 4 1, 3) := by decide +kernel
theorem dX9_charactersIn_42 : decode cX9_charactersIn 42 = .ok (.lload_n 2, 1) := by decide +kernel
theorem dX9_charactersIn_43 : decode cX9_charactersIn 43 = .ok (.bipush 8, 2) := by decide +kernel
theorem dX9_charactersIn_45 : decode cX9_charactersIn 45 = .ok (.lushr, 1) := by decide +kernel
theorem dX9_charactersIn_46 : decode cX9_charactersIn 46 = .ok (.lstore_n 2, 1) := by decide +kernel
theorem dX9_charactersIn_47 : decode cX9_charactersIn 47 = .ok (.iinc 5 1, 3) := by decide +kernel
theorem dX9_charactersIn_50 : decode cX9_charactersIn 50 = .ok (.goto (-42), 3) := by decide +kernel
theorem dX9_charactersIn_53 : decode cX9_charactersIn 53 = .ok (.iload 4, 2) := by decide +kernel
theorem dX9_charactersIn_55 : decode cX9_charactersIn 55 = .ok (.ireturn, 1) := by decide +kernel
set_option maxRecDepth 20000 in
theorem ggX9_playTrial_X7_begin : GoodIn wsX9_playTrial wsX7_begin := goodIn_r _ [13, 14, 15, 16, 17, 18, 19, 20, 21, 22, 23, 24, 25, 26, 27, 28, 29, 30, 31, 32, 33, 34, 35, 36, 12, 37, 38, 39, 40, 41, 42, 43, 44, 45, 46, 47, 48, 49, 50, 195, 196, 197, 198, 199, 200, 201, 202, 203, 204, 205, 206, 207, 208, 209, 210, 211, 212, 213, 214, 215, 216, 217, 218, 219, 220, 221, 222, 223] (by decide +kernel) (by decide +kernel)
set_option maxRecDepth 20000 in
theorem gX9_playTrial_X7_begin : GoodIn wsX9_playTrial (wsV RX9 127 RX7 yX7_begin wsX7_begin) := goodIn_app (goodIn_of _ (by decide +kernel)) ggX9_playTrial_X7_begin
set_option maxRecDepth 20000 in
theorem ggX9_playTrial_X5_lastTime : GoodIn wsX9_playTrial wsX5_lastTime := goodIn_r _ [55, 56, 57, 58, 59, 54, 60, 61, 62, 63, 64, 65, 224, 225, 226] (by decide +kernel) (by decide +kernel)
set_option maxRecDepth 20000 in
theorem gX9_playTrial_X5_lastTime : GoodIn wsX9_playTrial (wsV RX9 91 RX5 yX5_lastTime wsX5_lastTime) := goodIn_app (goodIn_of _ (by decide +kernel)) ggX9_playTrial_X5_lastTime
set_option maxRecDepth 20000 in
theorem ggX9_playTrial_X7_runTo : GoodIn wsX9_playTrial wsX7_runTo := goodIn_r _ [69, 17, 70, 71, 72, 73, 74, 75, 76, 77, 14, 78, 58, 59, 54, 60, 61, 62, 63, 64, 65, 56, 79, 80, 81, 12, 82, 18, 83, 84, 85, 86, 87, 88, 38, 89, 90, 91, 92, 93, 94, 95, 96, 97, 98, 99, 15, 100, 101, 102, 103, 104, 105, 106, 107, 108, 109, 110, 111, 112, 113, 114, 115, 116, 117, 118, 119, 120, 121, 122, 123, 124, 125, 126, 127, 128, 129, 130, 131, 132, 133, 134, 135, 136, 137, 138, 139, 140, 141, 142, 143, 16, 144, 145, 146, 147, 148, 149, 150, 151, 152, 153, 154, 155, 156, 157, 158, 159, 160, 161, 162, 163, 164, 165, 166, 167, 168, 169, 170, 171, 172, 173, 174, 175, 176, 177, 178, 179, 180, 181, 182, 183, 184, 185, 186, 22, 187, 31, 30, 195, 196, 197, 198, 199, 200, 201, 207, 208, 209, 210, 211, 212, 213, 214, 215, 216, 224, 225, 226, 217, 218, 219, 220, 221, 222, 223, 202, 203, 204, 205, 206, 227, 228, 229, 230] (by decide +kernel) (by decide +kernel)
set_option maxRecDepth 20000 in
theorem gX9_playTrial_X7_runTo : GoodIn wsX9_playTrial (wsV RX9 123 RX7 yX7_runTo wsX7_runTo) := goodIn_app (goodIn_of _ (by decide +kernel)) ggX9_playTrial_X7_runTo
theorem dX9_playTrial_0 : decode cX9_playTrial 0 = .ok (.aload_n 0, 1) := by decide +kernel
theorem dX9_playTrial_1 : decode cX9_playTrial 1 = .ok (.getfield 10, 3) := by decide +kernel
theorem dX9_playTrial_4 : decode cX9_playTrial 4 = .ok (.getfield 73, 3) := by decide +kernel
theorem dX9_playTrial_7 : decode cX9_playTrial 7 = .ok (.iconst 0, 1) := by decide +kernel
theorem dX9_playTrial_8 : decode cX9_playTrial 8 = .ok (.aload_n 0, 1) := by decide +kernel
theorem dX9_playTrial_9 : decode cX9_playTrial 9 = .ok (.getfield 16, 3) := by decide +kernel
theorem dX9_playTrial_12 : decode cX9_playTrial 12 = .ok (.getfield 73, 3) := by decide +kernel
theorem dX9_playTrial_15 : decode cX9_playTrial 15 = .ok (.iconst 0, 1) := by decide +kernel
theorem dX9_playTrial_16 : decode cX9_playTrial 16 = .ok (.bipush 8, 2) := by decide +kernel
theorem dX9_playTrial_18 : decode cX9_playTrial 18 = .ok (.invokestatic 268, 3) := by decide +kernel
theorem dX9_playTrial_21 : decode cX9_playTrial 21 = .ok (.aload_n 0, 1) := by decide +kernel
theorem dX9_playTrial_22 : decode cX9_playTrial 22 = .ok (.getfield 16, 3) := by decide +kernel
theorem dX9_playTrial_25 : decode cX9_playTrial 25 = .ok (.getfield 73, 3) := by decide +kernel
theorem dX9_playTrial_28 : decode cX9_playTrial 28 = .ok (.iconst 2, 1) := by decide +kernel
theorem dX9_playTrial_29 : decode cX9_playTrial 29 = .ok (.iload_n 1, 1) := by decide +kernel
theorem dX9_playTrial_30 : decode cX9_playTrial 30 = .ok (.iastore, 1) := by decide +kernel
theorem dX9_playTrial_31 : decode cX9_playTrial 31 = .ok (.aload_n 0, 1) := by decide +kernel
theorem dX9_playTrial_32 : decode cX9_playTrial 32 = .ok (.getfield 16, 3) := by decide +kernel
theorem dX9_playTrial_35 : decode cX9_playTrial 35 = .ok (.getfield 73, 3) := by decide +kernel
theorem dX9_playTrial_38 : decode cX9_playTrial 38 = .ok (.iconst 3, 1) := by decide +kernel
theorem dX9_playTrial_39 : decode cX9_playTrial 39 = .ok (.iload_n 2, 1) := by decide +kernel
theorem dX9_playTrial_40 : decode cX9_playTrial 40 = .ok (.iastore, 1) := by decide +kernel
theorem dX9_playTrial_41 : decode cX9_playTrial 41 = .ok (.aload_n 0, 1) := by decide +kernel
theorem dX9_playTrial_42 : decode cX9_playTrial 42 = .ok (.getfield 16, 3) := by decide +kernel
theorem dX9_playTrial_45 : decode cX9_playTrial 45 = .ok (.invokevirtual 127, 3) := by decide +kernel
theorem dX9_playTrial_48 : decode cX9_playTrial 48 = .ok (.aload_n 0, 1) := by decide +kernel
theorem dX9_playTrial_49 : decode cX9_playTrial 49 = .ok (.getfield 16, 3) := by decide +kernel
theorem dX9_playTrial_52 : decode cX9_playTrial 52 = .ok (.aload_n 0, 1) := by decide +kernel
theorem dX9_playTrial_53 : decode cX9_playTrial 53 = .ok (.getfield 16, 3) := by decide +kernel
theorem dX9_playTrial_56 : decode cX9_playTrial 56 = .ok (.getfield 87, 3) := by decide +kernel
theorem dX9_playTrial_59 : decode cX9_playTrial 59 = .ok (.invokevirtual 91, 3) := by decide +kernel
theorem dX9_playTrial_62 : decode cX9_playTrial 62 = .ok (.invokevirtual 123, 3) := by decide +kernel
theorem dX9_playTrial_65 : decode cX9_playTrial 65 = .ok (.return_, 1) := by decide +kernel
