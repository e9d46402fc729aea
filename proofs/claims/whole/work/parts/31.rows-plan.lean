theorem dX5_init_0 : decode cX5_init 0 = .ok (.aload_n 0, 1) := by decide +kernel
theorem dX5_init_1 : decode cX5_init 1 = .ok (.invokespecial 3, 3) := by decide +kernel
theorem dX5_init_4 : decode cX5_init 4 = .ok (.aload_n 0, 1) := by decide +kernel
theorem dX5_init_5 : decode cX5_init 5 = .ok (.bipush 64, 2) := by decide +kernel
theorem dX5_init_7 : decode cX5_init 7 = .ok (.newarray .int, 2) := by decide +kernel
theorem dX5_init_9 : decode cX5_init 9 = .ok (.putfield 9, 3) := by decide +kernel
theorem dX5_init_12 : decode cX5_init 12 = .ok (.aload_n 0, 1) := by decide +kernel
theorem dX5_init_13 : decode cX5_init 13 = .ok (.bipush 64, 2) := by decide +kernel
theorem dX5_init_15 : decode cX5_init 15 = .ok (.newarray .int, 2) := by decide +kernel
theorem dX5_init_17 : decode cX5_init 17 = .ok (.putfield 15, 3) := by decide +kernel
theorem dX5_init_20 : decode cX5_init 20 = .ok (.return_, 1) := by decide +kernel
theorem dX5_has_0 : decode cX5_has 0 = .ok (.iload_n 1, 1) := by decide +kernel
theorem dX5_has_1 : decode cX5_has 1 = .ok (.ifCond .lt 21, 3) := by decide +kernel
theorem dX5_has_4 : decode cX5_has 4 = .ok (.iload_n 1, 1) := by decide +kernel
theorem dX5_has_5 : decode cX5_has 5 = .ok (.aload_n 0, 1) := by decide +kernel
theorem dX5_has_6 : decode cX5_has 6 = .ok (.getfield 18, 3) := by decide +kernel
theorem dX5_has_9 : decode cX5_has 9 = .ok (.if_icmp .ge 13, 3) := by decide +kernel
theorem dX5_has_12 : decode cX5_has 12 = .ok (.iload_n 1, 1) := by decide +kernel
theorem dX5_has_13 : decode cX5_has 13 = .ok (.bipush 64, 2) := by decide +kernel
theorem dX5_has_15 : decode cX5_has 15 = .ok (.if_icmp .ge 7, 3) := by decide +kernel
theorem dX5_has_18 : decode cX5_has 18 = .ok (.iconst 1, 1) := by decide +kernel
theorem dX5_has_19 : decode cX5_has 19 = .ok (.goto 4, 3) := by decide +kernel
theorem dX5_has_22 : decode cX5_has 22 = .ok (.iconst 0, 1) := by decide +kernel
theorem dX5_has_23 : decode cX5_has 23 = .ok (.ireturn, 1) := by decide +kernel
set_option maxRecDepth 20000 in
theorem ggX5_timeOf_X5_has : GoodIn wsX5_timeOf wsX5_has := goodIn_r _ [6, 7, 8, 9, 10] (by decide +kernel) (by decide +kernel)
set_option maxRecDepth 20000 in
theorem gX5_timeOf_X5_has : GoodIn wsX5_timeOf (wsV RX5 22 RX5 yX5_has wsX5_has) := goodIn_app (goodIn_of _ (by decide +kernel)) ggX5_timeOf_X5_has
theorem dX5_timeOf_0 : decode cX5_timeOf 0 = .ok (.aload_n 0, 1) := by decide +kernel
theorem dX5_timeOf_1 : decode cX5_timeOf 1 = .ok (.iload_n 1, 1) := by decide +kernel
theorem dX5_timeOf_2 : decode cX5_timeOf 2 = .ok (.invokevirtual 22, 3) := by decide +kernel
theorem dX5_timeOf_5 : decode cX5_timeOf 5 = .ok (.ifCond .eq 12, 3) := by decide +kernel
theorem dX5_timeOf_8 : decode cX5_timeOf 8 = .ok (.aload_n 0, 1) := by decide +kernel
theorem dX5_timeOf_9 : decode cX5_timeOf 9 = .ok (.getfield 9, 3) := by decide +kernel
theorem dX5_timeOf_12 : decode cX5_timeOf 12 = .ok (.iload_n 1, 1) := by decide +kernel
theorem dX5_timeOf_13 : decode cX5_timeOf 13 = .ok (.iaload, 1) := by decide +kernel
theorem dX5_timeOf_14 : decode cX5_timeOf 14 = .ok (.goto 4, 3) := by decide +kernel
theorem dX5_timeOf_17 : decode cX5_timeOf 17 = .ok (.iconst 0, 1) := by decide +kernel
theorem dX5_timeOf_18 : decode cX5_timeOf 18 = .ok (.ireturn, 1) := by decide +kernel
set_option maxRecDepth 20000 in
theorem ggX5_numberOf_X5_has : GoodIn wsX5_numberOf wsX5_has := goodIn_r _ [6, 7, 8, 9, 10] (by decide +kernel) (by decide +kernel)
set_option maxRecDepth 20000 in
theorem gX5_numberOf_X5_has : GoodIn wsX5_numberOf (wsV RX5 22 RX5 yX5_has wsX5_has) := goodIn_app (goodIn_of _ (by decide +kernel)) ggX5_numberOf_X5_has
theorem dX5_numberOf_0 : decode cX5_numberOf 0 = .ok (.aload_n 0, 1) := by decide +kernel
theorem dX5_numberOf_1 : decode cX5_numberOf 1 = .ok (.iload_n 1, 1) := by decide +kernel
theorem dX5_numberOf_2 : decode cX5_numberOf 2 = .ok (.invokevirtual 22, 3) := by decide +kernel
theorem dX5_numberOf_5 : decode cX5_numberOf 5 = .ok (.ifCond .eq 12, 3) := by decide +kernel
theorem dX5_numberOf_8 : decode cX5_numberOf 8 = .ok (.aload_n 0, 1) := by decide +kernel
theorem dX5_numberOf_9 : decode cX5_numberOf 9 = .ok (.getfield 15, 3) := by decide +kernel
theorem dX5_numberOf_12 : decode cX5_numberOf 12 = .ok (.iload_n 1, 1) := by decide +kernel
theorem dX5_numberOf_13 : decode cX5_numberOf 13 = .ok (.iaload, 1) := by decide +kernel
theorem dX5_numberOf_14 : decode cX5_numberOf 14 = .ok (.goto 4, 3) := by decide +kernel
theorem dX5_numberOf_17 : decode cX5_numberOf 17 = .ok (.iconst (-1), 1) := by decide +kernel
theorem dX5_numberOf_18 : decode cX5_numberOf 18 = .ok (.ireturn, 1) := by decide +kernel
set_option maxRecDepth 20000 in
theorem ggX5_lastTime_X5_timeOf : GoodIn wsX5_lastTime wsX5_timeOf := goodIn_r _ [6, 7, 8, 9, 10, 5, 11, 1, 12, 13, 14] (by decide +kernel) (by decide +kernel)
set_option maxRecDepth 20000 in
theorem gX5_lastTime_X5_timeOf : GoodIn wsX5_lastTime (wsV RX5 26 RX5 yX5_timeOf wsX5_timeOf) := goodIn_app (goodIn_of _ (by decide +kernel)) ggX5_lastTime_X5_timeOf
theorem dX5_lastTime_0 : decode cX5_lastTime 0 = .ok (.aload_n 0, 1) := by decide +kernel
theorem dX5_lastTime_1 : decode cX5_lastTime 1 = .ok (.aload_n 0, 1) := by decide +kernel
theorem dX5_lastTime_2 : decode cX5_lastTime 2 = .ok (.getfield 18, 3) := by decide +kernel
theorem dX5_lastTime_5 : decode cX5_lastTime 5 = .ok (.iconst 1, 1) := by decide +kernel
theorem dX5_lastTime_6 : decode cX5_lastTime 6 = .ok (.isub, 1) := by decide +kernel
theorem dX5_lastTime_7 : decode cX5_lastTime 7 = .ok (.invokevirtual 26, 3) := by decide +kernel
theorem dX5_lastTime_10 : decode cX5_lastTime 10 = .ok (.ireturn, 1) := by decide +kernel
set_option maxRecDepth 20000 in
theorem ggX5_nextNumber_X5_numberOf : GoodIn wsX5_nextNumber wsX5_numberOf := goodIn_r _ [6, 7, 8, 9, 10, 5, 11, 1, 12, 13, 14] (by decide +kernel) (by decide +kernel)
set_option maxRecDepth 20000 in
theorem gX5_nextNumber_X5_numberOf : GoodIn wsX5_nextNumber (wsV RX5 30 RX5 yX5_numberOf wsX5_numberOf) := goodIn_app (goodIn_of _ (by decide +kernel)) ggX5_nextNumber_X5_numberOf
theorem dX5_nextNumber_0 : decode cX5_nextNumber 0 = .ok (.aload_n 0, 1) := by decide +kernel
theorem dX5_nextNumber_1 : decode cX5_nextNumber 1 = .ok (.aload_n 0, 1) := by decide +kernel
theorem dX5_nextNumber_2 : decode cX5_nextNumber 2 = .ok (.getfield 18, 3) := by decide +kernel
theorem dX5_nextNumber_5 : decode cX5_nextNumber 5 = .ok (.iconst 1, 1) := by decide +kernel
theorem dX5_nextNumber_6 : decode cX5_nextNumber 6 = .ok (.isub, 1) := by decide +kernel
theorem dX5_nextNumber_7 : decode cX5_nextNumber 7 = .ok (.invokevirtual 30, 3) := by decide +kernel
theorem dX5_nextNumber_10 : decode cX5_nextNumber 10 = .ok (.iconst 1, 1) := by decide +kernel
theorem dX5_nextNumber_11 : decode cX5_nextNumber 11 = .ok (.iadd, 1) := by decide +kernel
theorem dX5_nextNumber_12 : decode cX5_nextNumber 12 = .ok (.ireturn, 1) := by decide +kernel
theorem dX5_canHold_0 : decode cX5_canHold 0 = .ok (.aload_n 0, 1) := by decide +kernel
theorem dX5_canHold_1 : decode cX5_canHold 1 = .ok (.getfield 18, 3) := by decide +kernel
theorem dX5_canHold_4 : decode cX5_canHold 4 = .ok (.bipush 64, 2) := by decide +kernel
theorem dX5_canHold_6 : decode cX5_canHold 6 = .ok (.if_icmp .ge 20, 3) := by decide +kernel
theorem dX5_canHold_9 : decode cX5_canHold 9 = .ok (.iload_n 1, 1) := by decide +kernel
theorem dX5_canHold_10 : decode cX5_canHold 10 = .ok (.ldc 33, 2) := by decide +kernel
theorem dX5_canHold_12 : decode cX5_canHold 12 = .ok (.if_icmp .gt 14, 3) := by decide +kernel
theorem dX5_canHold_15 : decode cX5_canHold 15 = .ok (.iload_n 2, 1) := by decide +kernel
theorem dX5_canHold_16 : decode cX5_canHold 16 = .ok (.sipush 1000, 3) := by decide +kernel
theorem dX5_canHold_19 : decode cX5_canHold 19 = .ok (.if_icmp .gt 7, 3) := by decide +kernel
theorem dX5_canHold_22 : decode cX5_canHold 22 = .ok (.iconst 1, 1) := by decide +kernel
theorem dX5_canHold_23 : decode cX5_canHold 23 = .ok (.goto 4, 3) := by decide +kernel
theorem dX5_canHold_26 : decode cX5_canHold 26 = .ok (.iconst 0, 1) := by decide +kernel
theorem dX5_canHold_27 : decode cX5_canHold 27 = .ok (.ireturn, 1) := by decide +kernel
theorem dX5_append_0 : decode cX5_append 0 = .ok (.aload_n 0, 1) := by decide +kernel
theorem dX5_append_1 : decode cX5_append 1 = .ok (.getfield 18, 3) := by decide +kernel
theorem dX5_append_4 : decode cX5_append 4 = .ok (.ifCond .lt 42, 3) := by decide +kernel
theorem dX5_append_7 : decode cX5_append 7 = .ok (.aload_n 0, 1) := by decide +kernel
theorem dX5_append_8 : decode cX5_append 8 = .ok (.getfield 18, 3) := by decide +kernel
theorem dX5_append_11 : decode cX5_append 11 = .ok (.bipush 64, 2) := by decide +kernel
theorem dX5_append_13 : decode cX5_append 13 = .ok (.if_icmp .ge 33, 3) := by decide +kernel
theorem dX5_append_16 : decode cX5_append 16 = .ok (.aload_n 0, 1) := by decide +kernel
theorem dX5_append_17 : decode cX5_append 17 = .ok (.getfield 9, 3) := by decide +kernel
theorem dX5_append_20 : decode cX5_append 20 = .ok (.aload_n 0, 1) := by decide +kernel
theorem dX5_append_21 : decode cX5_append 21 = .ok (.getfield 18, 3) := by decide +kernel
theorem dX5_append_24 : decode cX5_append 24 = .ok (.iload_n 1, 1) := by decide +kernel
theorem dX5_append_25 : decode cX5_append 25 = .ok (.iastore, 1) := by decide +kernel
theorem dX5_append_26 : decode cX5_append 26 = .ok (.aload_n 0, 1) := by decide +kernel
theorem dX5_append_27 : decode cX5_append 27 = .ok (.getfield 15, 3) := by decide +kernel
theorem dX5_append_30 : decode cX5_append 30 = .ok (.aload_n 0, 1) := by decide +kernel
theorem dX5_append_31 : decode cX5_append 31 = .ok (.getfield 18, 3) := by decide +kernel
theorem dX5_append_34 : decode cX5_append 34 = .ok (.iload_n 2, 1) := by decide +kernel
theorem dX5_append_35 : decode cX5_append 35 = .ok (.iastore, 1) := by decide +kernel
theorem dX5_append_36 : decode cX5_append 36 = .ok (.aload_n 0, 1) := by decide +kernel
theorem dX5_append_37 : decode cX5_append 37 = .ok (.dup, 1) := by decide +kernel
theorem dX5_append_38 : decode cX5_append 38 = .ok (.getfield 18, 3) := by decide +kernel
theorem dX5_append_41 : decode cX5_append 41 = .ok (.iconst 1, 1) := by decide +kernel
theorem dX5_append_42 : decode cX5_append 42 = .ok (.iadd, 1) := by decide +kernel
theorem dX5_append_43 : decode cX5_append 43 = .ok (.putfield 18, 3) := by decide +kernel
theorem dX5_append_46 : decode cX5_append 46 = .ok (.return_, 1) := by decide +kernel
set_option maxRecDepth 20000 in
theorem ggX5_appendAll_X5_lastTime : GoodIn wsX5_appendAll wsX5_lastTime := goodIn_r _ [8, 9, 10, 11, 12, 7, 13, 14, 15, 16, 17, 18, 44, 45, 46] (by decide +kernel) (by decide +kernel)
set_option maxRecDepth 20000 in
theorem gX5_appendAll_X5_lastTime : GoodIn wsX5_appendAll (wsV RX5 37 RX5 yX5_lastTime wsX5_lastTime) := goodIn_app (goodIn_of _ (by decide +kernel)) ggX5_appendAll_X5_lastTime
set_option maxRecDepth 20000 in
theorem ggX5_appendAll_X5_nextNumber : GoodIn wsX5_appendAll wsX5_nextNumber := goodIn_r _ [22, 9, 23, 24, 25, 7, 26, 27, 15, 16, 17, 18, 44, 45, 46] (by decide +kernel) (by decide +kernel)
set_option maxRecDepth 20000 in
theorem gX5_appendAll_X5_nextNumber : GoodIn wsX5_appendAll (wsV RX5 44 RX5 yX5_nextNumber wsX5_nextNumber) := goodIn_app (goodIn_of _ (by decide +kernel)) ggX5_appendAll_X5_nextNumber
set_option maxRecDepth 20000 in
theorem ggX5_appendAll_X5_canHold : GoodIn wsX5_appendAll wsX5_canHold := goodIn_r _ [31, 9, 32, 44, 45, 46] (by decide +kernel) (by decide +kernel)
set_option maxRecDepth 20000 in
theorem gX5_appendAll_X5_canHold : GoodIn wsX5_appendAll (wsV RX5 50 RX5 yX5_canHold wsX5_canHold) := goodIn_app (goodIn_of _ (by decide +kernel)) ggX5_appendAll_X5_canHold
set_option maxRecDepth 20000 in
theorem ggX5_appendAll_X5_append : GoodIn wsX5_appendAll wsX5_append := goodIn_r _ [36, 9, 14, 27, 44, 45, 46] (by decide +kernel) (by decide +kernel)
set_option maxRecDepth 20000 in
theorem gX5_appendAll_X5_append : GoodIn wsX5_appendAll (wsV RX5 54 RX5 yX5_append wsX5_append) := goodIn_app (goodIn_of _ (by decide +kernel)) ggX5_appendAll_X5_append
theorem dX5_appendAll_0 : decode cX5_appendAll 0 = .ok (.aload_n 1, 1) := by decide +kernel
theorem dX5_appendAll_1 : decode cX5_appendAll 1 = .ok (.getfield 34, 3) := by decide +kernel
theorem dX5_appendAll_4 : decode cX5_appendAll 4 = .ok (.bipush 64, 2) := by decide +kernel
theorem dX5_appendAll_6 : decode cX5_appendAll 6 = .ok (.if_icmp .le 5, 3) := by decide +kernel
theorem dX5_appendAll_9 : decode cX5_appendAll 9 = .ok (.iconst 0, 1) := by decide +kernel
theorem dX5_appendAll_10 : decode cX5_appendAll 10 = .ok (.ireturn, 1) := by decide +kernel
theorem dX5_appendAll_11 : decode cX5_appendAll 11 = .ok (.iconst 0, 1) := by decide +kernel
theorem dX5_appendAll_12 : decode cX5_appendAll 12 = .ok (.istore_n 2, 1) := by decide +kernel
theorem dX5_appendAll_13 : decode cX5_appendAll 13 = .ok (.iload_n 2, 1) := by decide +kernel
theorem dX5_appendAll_14 : decode cX5_appendAll 14 = .ok (.aload_n 1, 1) := by decide +kernel
theorem dX5_appendAll_15 : decode cX5_appendAll 15 = .ok (.getfield 34, 3) := by decide +kernel
theorem dX5_appendAll_18 : decode cX5_appendAll 18 = .ok (.if_icmp .ge 53, 3) := by decide +kernel
theorem dX5_appendAll_21 : decode cX5_appendAll 21 = .ok (.aload_n 0, 1) := by decide +kernel
theorem dX5_appendAll_22 : decode cX5_appendAll 22 = .ok (.invokevirtual 37, 3) := by decide +kernel
theorem dX5_appendAll_25 : decode cX5_appendAll 25 = .ok (.aload_n 1, 1) := by decide +kernel
theorem dX5_appendAll_26 : decode cX5_appendAll 26 = .ok (.getfield 41, 3) := by decide +kernel
theorem dX5_appendAll_29 : decode cX5_appendAll 29 = .ok (.iload_n 2, 1) := by decide +kernel
theorem dX5_appendAll_30 : decode cX5_appendAll 30 = .ok (.iaload, 1) := by decide +kernel
theorem dX5_appendAll_31 : decode cX5_appendAll 31 = .ok (.iadd, 1) := by decide +kernel
theorem dX5_appendAll_32 : decode cX5_appendAll 32 = .ok (.istore_n 3, 1) := by decide +kernel
theorem dX5_appendAll_33 : decode cX5_appendAll 33 = .ok (.aload_n 0, 1) := by decide +kernel
theorem dX5_appendAll_34 : decode cX5_appendAll 34 = .ok (.invokevirtual 44, 3) := by decide +kernel
theorem dX5_appendAll_37 : decode cX5_appendAll 37 = .ok (.aload_n 1, 1) := by decide +kernel
theorem dX5_appendAll_38 : decode cX5_appendAll 38 = .ok (.getfield 47, 3) := by decide +kernel
theorem dX5_appendAll_41 : decode cX5_appendAll 41 = .ok (.iload_n 2, 1) := by decide +kernel
theorem dX5_appendAll_42 : decode cX5_appendAll 42 = .ok (.iaload, 1) := by decide +kernel
theorem dX5_appendAll_43 : decode cX5_appendAll 43 = .ok (.iadd, 1) := by decide +kernel
theorem dX5_appendAll_44 : decode cX5_appendAll 44 = .ok (.istore 4, 2) := by decide +kernel
theorem dX5_appendAll_46 : decode cX5_appendAll 46 = .ok (.aload_n 0, 1) := by decide +kernel
theorem dX5_appendAll_47 : decode cX5_appendAll 47 = .ok (.iload_n 3, 1) := by decide +kernel
theorem dX5_appendAll_48 : decode cX5_appendAll 48 = .ok (.iload 4, 2) := by decide +kernel
theorem dX5_appendAll_50 : decode cX5_appendAll 50 = .ok (.invokevirtual 50, 3) := by decide +kernel
theorem dX5_appendAll_53 : decode cX5_appendAll 53 = .ok (.ifCond .ne 5, 3) := by decide +kernel
theorem dX5_appendAll_56 : decode cX5_appendAll 56 = .ok (.iconst 0, 1) := by decide +kernel
theorem dX5_appendAll_57 : decode cX5_appendAll 57 = .ok (.ireturn, 1) := by decide +kernel
theorem dX5_appendAll_58 : decode cX5_appendAll 58 = .ok (.aload_n 0, 1) := by decide +kernel
theorem dX5_appendAll_59 : decode cX5_appendAll 59 = .ok (.iload_n 3, 1) := by decide +kernel
theorem dX5_appendAll_60 : decode cX5_appendAll 60 = .ok (.iload 4, 2) := by decide +kernel
theorem dX5_appendAll_62 : decode cX5_appendAll 62 = .ok (.invokevirtual 54, 3) := by decide +kernel
theorem dX5_appendAll_65 : decode cX5_appendAll 65 = .ok (.iinc 2 1, 3) := by decide +kernel
theorem dX5_appendAll_68 : decode cX5_appendAll 68 = .ok (.goto (-55), 3) := by decide +kernel
theorem dX5_appendAll_71 : decode cX5_appendAll 71 = .ok (.iconst 1, 1) := by decide +kernel
theorem dX5_appendAll_72 : decode cX5_appendAll 72 = .ok (.ireturn, 1) := by decide +kernel
theorem dX5_copyFrom_0 : decode cX5_copyFrom 0 = .ok (.aload_n 1, 1) := by decide +kernel
theorem dX5_copyFrom_1 : decode cX5_copyFrom 1 = .ok (.getfield 9, 3) := by decide +kernel
theorem dX5_copyFrom_4 : decode cX5_copyFrom 4 = .ok (.iconst 0, 1) := by decide +kernel
theorem dX5_copyFrom_5 : decode cX5_copyFrom 5 = .ok (.aload_n 0, 1) := by decide +kernel
theorem dX5_copyFrom_6 : decode cX5_copyFrom 6 = .ok (.getfield 9, 3) := by decide +kernel
theorem dX5_copyFrom_9 : decode cX5_copyFrom 9 = .ok (.iconst 0, 1) := by decide +kernel
theorem dX5_copyFrom_10 : decode cX5_copyFrom 10 = .ok (.bipush 64, 2) := by decide +kernel
theorem dX5_copyFrom_12 : decode cX5_copyFrom 12 = .ok (.invokestatic 58, 3) := by decide +kernel
theorem dX5_copyFrom_15 : decode cX5_copyFrom 15 = .ok (.aload_n 1, 1) := by decide +kernel
theorem dX5_copyFrom_16 : decode cX5_copyFrom 16 = .ok (.getfield 15, 3) := by decide +kernel
theorem dX5_copyFrom_19 : decode cX5_copyFrom 19 = .ok (.iconst 0, 1) := by decide +kernel
theorem dX5_copyFrom_20 : decode cX5_copyFrom 20 = .ok (.aload_n 0, 1) := by decide +kernel
theorem dX5_copyFrom_21 : decode cX5_copyFrom 21 = .ok (.getfield 15, 3) := by decide +kernel
theorem dX5_copyFrom_24 : decode cX5_copyFrom 24 = .ok (.iconst 0, 1) := by decide +kernel
theorem dX5_copyFrom_25 : decode cX5_copyFrom 25 = .ok (.bipush 64, 2) := by decide +kernel
theorem dX5_copyFrom_27 : decode cX5_copyFrom 27 = .ok (.invokestatic 58, 3) := by decide +kernel
theorem dX5_copyFrom_30 : decode cX5_copyFrom 30 = .ok (.aload_n 0, 1) := by decide +kernel
theorem dX5_copyFrom_31 : decode cX5_copyFrom 31 = .ok (.aload_n 1, 1) := by decide +kernel
theorem dX5_copyFrom_32 : decode cX5_copyFrom 32 = .ok (.getfield 18, 3) := by decide +kernel
theorem dX5_copyFrom_35 : decode cX5_copyFrom 35 = .ok (.putfield 18, 3) := by decide +kernel
theorem dX5_copyFrom_38 : decode cX5_copyFrom 38 = .ok (.return_, 1) := by decide +kernel
set_option maxRecDepth 20000 in
theorem ggX5_copyWithout_X5_timeOf : GoodIn wsX5_copyWithout wsX5_timeOf := goodIn_r _ [6, 7, 8, 9, 10, 5, 11, 1, 21, 22, 23] (by decide +kernel) (by decide +kernel)
set_option maxRecDepth 20000 in
theorem gX5_copyWithout_X5_timeOf : GoodIn wsX5_copyWithout (wsV RX5 26 RX5 yX5_timeOf wsX5_timeOf) := goodIn_app (goodIn_of _ (by decide +kernel)) ggX5_copyWithout_X5_timeOf
set_option maxRecDepth 20000 in
theorem ggX5_copyWithout_X5_numberOf : GoodIn wsX5_copyWithout wsX5_numberOf := goodIn_r _ [15, 16, 8, 9, 10, 5, 11, 1, 21, 22, 23] (by decide +kernel) (by decide +kernel)
set_option maxRecDepth 20000 in
theorem gX5_copyWithout_X5_numberOf : GoodIn wsX5_copyWithout (wsV RX5 30 RX5 yX5_numberOf wsX5_numberOf) := goodIn_app (goodIn_of _ (by decide +kernel)) ggX5_copyWithout_X5_numberOf
set_option maxRecDepth 20000 in
theorem ggX5_copyWithout_X5_append : GoodIn wsX5_copyWithout wsX5_append := goodIn_r _ [20, 1, 7, 16, 21, 22, 23] (by decide +kernel) (by decide +kernel)
set_option maxRecDepth 20000 in
theorem gX5_copyWithout_X5_append : GoodIn wsX5_copyWithout (wsV RX5 54 RX5 yX5_append wsX5_append) := goodIn_app (goodIn_of _ (by decide +kernel)) ggX5_copyWithout_X5_append
theorem dX5_copyWithout_0 : decode cX5_copyWithout 0 = .ok (.aload_n 0, 1) := by decide +kernel
theorem dX5_copyWithout_1 : decode cX5_copyWithout 1 = .ok (.iconst 0, 1) := by decide +kernel
theorem dX5_copyWithout_2 : decode cX5_copyWithout 2 = .ok (.putfield 18, 3) := by decide +kernel
theorem dX5_copyWithout_5 : decode cX5_copyWithout 5 = .ok (.iconst 0, 1) := by decide +kernel
theorem dX5_copyWithout_6 : decode cX5_copyWithout 6 = .ok (.istore_n 3, 1) := by decide +kernel
theorem dX5_copyWithout_7 : decode cX5_copyWithout 7 = .ok (.iload_n 3, 1) := by decide +kernel
theorem dX5_copyWithout_8 : decode cX5_copyWithout 8 = .ok (.aload_n 1, 1) := by decide +kernel
theorem dX5_copyWithout_9 : decode cX5_copyWithout 9 = .ok (.getfield 18, 3) := by decide +kernel
theorem dX5_copyWithout_12 : decode cX5_copyWithout 12 = .ok (.if_icmp .ge 28, 3) := by decide +kernel
theorem dX5_copyWithout_15 : decode cX5_copyWithout 15 = .ok (.iload_n 3, 1) := by decide +kernel
theorem dX5_copyWithout_16 : decode cX5_copyWithout 16 = .ok (.iload_n 2, 1) := by decide +kernel
theorem dX5_copyWithout_17 : decode cX5_copyWithout 17 = .ok (.if_icmp .eq 17, 3) := by decide +kernel
theorem dX5_copyWithout_20 : decode cX5_copyWithout 20 = .ok (.aload_n 0, 1) := by decide +kernel
theorem dX5_copyWithout_21 : decode cX5_copyWithout 21 = .ok (.aload_n 1, 1) := by decide +kernel
theorem dX5_copyWithout_22 : decode cX5_copyWithout 22 = .ok (.iload_n 3, 1) := by decide +kernel
theorem dX5_copyWithout_23 : decode cX5_copyWithout 23 = .ok (.invokevirtual 26, 3) := by decide +kernel
theorem dX5_copyWithout_26 : decode cX5_copyWithout 26 = .ok (.aload_n 1, 1) := by decide +kernel
theorem dX5_copyWithout_27 : decode cX5_copyWithout 27 = .ok (.iload_n 3, 1) := by decide +kernel
theorem dX5_copyWithout_28 : decode cX5_copyWithout 28 = .ok (.invokevirtual 30, 3) := by decide +kernel
theorem dX5_copyWithout_31 : decode cX5_copyWithout 31 = .ok (.invokevirtual 54, 3) := by decide +kernel
theorem dX5_copyWithout_34 : decode cX5_copyWithout 34 = .ok (.iinc 3 1, 3) := by decide +kernel
theorem dX5_copyWithout_37 : decode cX5_copyWithout 37 = .ok (.goto (-30), 3) := by decide +kernel
theorem dX5_copyWithout_40 : decode cX5_copyWithout 40 = .ok (.return_, 1) := by decide +kernel
theorem dX6_init_0 : decode cX6_init 0 = .ok (.aload_n 0, 1) := by decide +kernel
theorem dX6_init_1 : decode cX6_init 1 = .ok (.invokespecial 3, 3) := by decide +kernel
theorem dX6_init_4 : decode cX6_init 4 = .ok (.aload_n 0, 1) := by decide +kernel
theorem dX6_init_5 : decode cX6_init 5 = .ok (.bipush 64, 2) := by decide +kernel
theorem dX6_init_7 : decode cX6_init 7 = .ok (.newarray .int, 2) := by decide +kernel
theorem dX6_init_9 : decode cX6_init 9 = .ok (.putfield 9, 3) := by decide +kernel
theorem dX6_init_12 : decode cX6_init 12 = .ok (.aload_n 0, 1) := by decide +kernel
theorem dX6_init_13 : decode cX6_init 13 = .ok (.bipush 64, 2) := by decide +kernel
theorem dX6_init_15 : decode cX6_init 15 = .ok (.newarray .int, 2) := by decide +kernel
theorem dX6_init_17 : decode cX6_init 17 = .ok (.putfield 15, 3) := by decide +kernel
theorem dX6_init_20 : decode cX6_init 20 = .ok (.return_, 1) := by decide +kernel
set_option maxRecDepth 20000 in
theorem ggX6_read_X6_readPart : GoodIn wsX6_read wsX6_readPart := goodIn_r _ [11, 2, 3, 5, 4, 12, 13, 14, 15, 16, 17, 18, 19, 20, 21, 10, 22, 23, 24, 25, 26, 27, 28, 29, 30, 31, 32, 33, 34, 35, 1, 36, 37, 38, 39, 40, 41, 42, 43, 44, 45, 46, 47, 48, 49, 50, 51, 52, 53, 54] (by decide +kernel) (by decide +kernel)
set_option maxRecDepth 20000 in
theorem gX6_read_X6_readPart : GoodIn wsX6_read (wsV RX6 34 RX6 yX6_readPart wsX6_readPart) := goodIn_app (goodIn_of _ (by decide +kernel)) ggX6_read_X6_readPart
set_option maxRecDepth 20000 in
theorem ggX6_read_X6_readSign : GoodIn wsX6_read wsX6_readSign := goodIn_r _ [45, 2, 3, 12, 13, 14, 15, 16, 17, 18, 46, 47, 48, 49, 50, 51, 52, 53, 54] (by decide +kernel) (by decide +kernel)
set_option maxRecDepth 20000 in
theorem gX6_read_X6_readSign : GoodIn wsX6_read (wsV RX6 43 RX6 yX6_readSign wsX6_readSign) := goodIn_app (goodIn_of _ (by decide +kernel)) ggX6_read_X6_readSign
theorem dX6_read_0 : decode cX6_read 0 = .ok (.aload_n 0, 1) := by decide +kernel
theorem dX6_read_1 : decode cX6_read 1 = .ok (.iconst 0, 1) := by decide +kernel
theorem dX6_read_2 : decode cX6_read 2 = .ok (.putfield 18, 3) := by decide +kernel
theorem dX6_read_5 : decode cX6_read 5 = .ok (.aload_n 0, 1) := by decide +kernel
theorem dX6_read_6 : decode cX6_read 6 = .ok (.bipush (-6), 2) := by decide +kernel
theorem dX6_read_8 : decode cX6_read 8 = .ok (.putfield 22, 3) := by decide +kernel
theorem dX6_read_11 : decode cX6_read 11 = .ok (.aload_n 0, 1) := by decide +kernel
theorem dX6_read_12 : decode cX6_read 12 = .ok (.iconst 0, 1) := by decide +kernel
theorem dX6_read_13 : decode cX6_read 13 = .ok (.putfield 25, 3) := by decide +kernel
theorem dX6_read_16 : decode cX6_read 16 = .ok (.aload_n 0, 1) := by decide +kernel
theorem dX6_read_17 : decode cX6_read 17 = .ok (.iconst 0, 1) := by decide +kernel
theorem dX6_read_18 : decode cX6_read 18 = .ok (.putfield 28, 3) := by decide +kernel
theorem dX6_read_21 : decode cX6_read 21 = .ok (.aload_n 0, 1) := by decide +kernel
theorem dX6_read_22 : decode cX6_read 22 = .ok (.iconst 0, 1) := by decide +kernel
theorem dX6_read_23 : decode cX6_read 23 = .ok (.putfield 31, 3) := by decide +kernel
theorem dX6_read_26 : decode cX6_read 26 = .ok (.aload_n 0, 1) := by decide +kernel
theorem dX6_read_27 : decode cX6_read 27 = .ok (.aload_n 1, 1) := by decide +kernel
theorem dX6_read_28 : decode cX6_read 28 = .ok (.invokevirtual 34, 3) := by decide +kernel
theorem dX6_read_31 : decode cX6_read 31 = .ok (.iconst 0, 1) := by decide +kernel
theorem dX6_read_32 : decode cX6_read 32 = .ok (.istore_n 2, 1) := by decide +kernel
theorem dX6_read_33 : decode cX6_read 33 = .ok (.iload_n 2, 1) := by decide +kernel
theorem dX6_read_34 : decode cX6_read 34 = .ok (.bipush 80, 2) := by decide +kernel
theorem dX6_read_36 : decode cX6_read 36 = .ok (.if_icmp .ge 41, 3) := by decide +kernel
theorem dX6_read_39 : decode cX6_read 39 = .ok (.aload_n 0, 1) := by decide +kernel
theorem dX6_read_40 : decode cX6_read 40 = .ok (.getfield 22, 3) := by decide +kernel
theorem dX6_read_43 : decode cX6_read 43 = .ok (.bipush (-6), 2) := by decide +kernel
theorem dX6_read_45 : decode cX6_read 45 = .ok (.if_icmp .ne 32, 3) := by decide +kernel
theorem dX6_read_48 : decode cX6_read 48 = .ok (.aload_n 0, 1) := by decide +kernel
theorem dX6_read_49 : decode cX6_read 49 = .ok (.getfield 25, 3) := by decide +kernel
theorem dX6_read_52 : decode cX6_read 52 = .ok (.aload_n 1, 1) := by decide +kernel
theorem dX6_read_53 : decode cX6_read 53 = .ok (.getfield 38, 3) := by decide +kernel
theorem dX6_read_56 : decode cX6_read 56 = .ok (.if_icmp .ge 21, 3) := by decide +kernel
theorem dX6_read_59 : decode cX6_read 59 = .ok (.aload_n 0, 1) := by decide +kernel
theorem dX6_read_60 : decode cX6_read 60 = .ok (.aload_n 1, 1) := by decide +kernel
theorem dX6_read_61 : decode cX6_read 61 = .ok (.bipush 59, 2) := by decide +kernel
theorem dX6_read_63 : decode cX6_read 63 = .ok (.invokevirtual 43, 3) := by decide +kernel
theorem dX6_read_66 : decode cX6_read 66 = .ok (.aload_n 0, 1) := by decide +kernel
theorem dX6_read_67 : decode cX6_read 67 = .ok (.aload_n 1, 1) := by decide +kernel
theorem dX6_read_68 : decode cX6_read 68 = .ok (.invokevirtual 34, 3) := by decide +kernel
theorem dX6_read_71 : decode cX6_read 71 = .ok (.iinc 2 1, 3) := by decide +kernel
theorem dX6_read_74 : decode cX6_read 74 = .ok (.goto (-41), 3) := by decide +kernel
theorem dX6_read_77 : decode cX6_read 77 = .ok (.return_, 1) := by decide +kernel
set_option maxRecDepth 20000 in
theorem ggX6_readPart_X4_signAt : GoodIn wsX6_readPart wsX4_signAt := goodIn_r _ [9, 10, 11, 48, 49] (by decide +kernel) (by decide +kernel)
set_option maxRecDepth 20000 in
theorem gX6_readPart_X4_signAt : GoodIn wsX6_readPart (wsV RX6 47 RX4 yX4_signAt wsX4_signAt) := goodIn_app (goodIn_of _ (by decide +kernel)) ggX6_readPart_X4_signAt
set_option maxRecDepth 20000 in
theorem ggX6_readPart_X6_readBeats : GoodIn wsX6_readPart wsX6_readBeats := goodIn_r _ [16, 1, 2, 17, 18, 19, 15, 20, 21, 22, 23, 8, 24, 25, 6, 7, 9, 10, 11, 26, 27, 28, 29, 30, 31, 4, 32, 3, 5, 41, 42, 43, 44, 45, 46, 47, 48, 49] (by decide +kernel) (by decide +kernel)
set_option maxRecDepth 20000 in
theorem gX6_readPart_X6_readBeats : GoodIn wsX6_readPart (wsV RX6 51 RX6 yX6_readBeats wsX6_readBeats) := goodIn_app (goodIn_of _ (by decide +kernel)) ggX6_readPart_X6_readBeats
set_option maxRecDepth 20000 in
theorem ggX6_readPart_X6_readEvenBeats : GoodIn wsX6_readPart wsX6_readEvenBeats := goodIn_r _ [36, 17, 18, 19, 15, 20, 1, 2, 21, 22, 23, 8, 24, 25, 6, 7, 9, 10, 11, 37, 38, 39, 40, 5, 26, 27, 28, 29, 30, 31, 4, 32, 3, 41, 42, 43, 44, 45, 46, 47, 48, 49] (by decide +kernel) (by decide +kernel)
set_option maxRecDepth 20000 in
theorem gX6_readPart_X6_readEvenBeats : GoodIn wsX6_readPart (wsV RX6 54 RX6 yX6_readEvenBeats wsX6_readEvenBeats) := goodIn_app (goodIn_of _ (by decide +kernel)) ggX6_readPart_X6_readEvenBeats
set_option maxRecDepth 20000 in
theorem ggX6_readPart_X6_readNumber : GoodIn wsX6_readPart wsX6_readNumber := goodIn_r _ [20, 1, 2, 21, 22, 23, 8, 24, 25, 6, 7, 9, 10, 11, 41, 42, 43, 44, 45, 46, 47, 48, 49] (by decide +kernel) (by decide +kernel)
set_option maxRecDepth 20000 in
theorem gX6_readPart_X6_readNumber : GoodIn wsX6_readPart (wsV RX6 57 RX6 yX6_readNumber wsX6_readNumber) := goodIn_app (goodIn_of _ (by decide +kernel)) ggX6_readPart_X6_readNumber
theorem dX6_readPart_0 : decode cX6_readPart 0 = .ok (.aload_n 0, 1) := by decide +kernel
theorem dX6_readPart_1 : decode cX6_readPart 1 = .ok (.getfield 22, 3) := by decide +kernel
theorem dX6_readPart_4 : decode cX6_readPart 4 = .ok (.bipush (-6), 2) := by decide +kernel
theorem dX6_readPart_6 : decode cX6_readPart 6 = .ok (.if_icmp .eq 4, 3) := by decide +kernel
theorem dX6_readPart_9 : decode cX6_readPart 9 = .ok (.return_, 1) := by decide +kernel
theorem dX6_readPart_10 : decode cX6_readPart 10 = .ok (.aload_n 1, 1) := by decide +kernel
theorem dX6_readPart_11 : decode cX6_readPart 11 = .ok (.aload_n 0, 1) := by decide +kernel
theorem dX6_readPart_12 : decode cX6_readPart 12 = .ok (.getfield 25, 3) := by decide +kernel
theorem dX6_readPart_15 : decode cX6_readPart 15 = .ok (.invokevirtual 47, 3) := by decide +kernel
theorem dX6_readPart_18 : decode cX6_readPart 18 = .ok (.istore_n 2, 1) := by decide +kernel
theorem dX6_readPart_19 : decode cX6_readPart 19 = .ok (.aload_n 0, 1) := by decide +kernel
theorem dX6_readPart_20 : decode cX6_readPart 20 = .ok (.dup, 1) := by decide +kernel
theorem dX6_readPart_21 : decode cX6_readPart 21 = .ok (.getfield 25, 3) := by decide +kernel
theorem dX6_readPart_24 : decode cX6_readPart 24 = .ok (.iconst 1, 1) := by decide +kernel
theorem dX6_readPart_25 : decode cX6_readPart 25 = .ok (.iadd, 1) := by decide +kernel
theorem dX6_readPart_26 : decode cX6_readPart 26 = .ok (.putfield 25, 3) := by decide +kernel
theorem dX6_readPart_29 : decode cX6_readPart 29 = .ok (.iload_n 2, 1) := by decide +kernel
theorem dX6_readPart_30 : decode cX6_readPart 30 = .ok (.lookupswitch 99 #[(98, 42), (101, 50), (108, 78), (109, 58)], 42) := by decide +kernel
theorem dX6_readPart_72 : decode cX6_readPart 72 = .ok (.aload_n 0, 1) := by decide +kernel
theorem dX6_readPart_73 : decode cX6_readPart 73 = .ok (.aload_n 1, 1) := by decide +kernel
theorem dX6_readPart_74 : decode cX6_readPart 74 = .ok (.invokevirtual 51, 3) := by decide +kernel
theorem dX6_readPart_77 : decode cX6_readPart 77 = .ok (.goto 62, 3) := by decide +kernel
theorem dX6_readPart_80 : decode cX6_readPart 80 = .ok (.aload_n 0, 1) := by decide +kernel
theorem dX6_readPart_81 : decode cX6_readPart 81 = .ok (.aload_n 1, 1) := by decide +kernel
theorem dX6_readPart_82 : decode cX6_readPart 82 = .ok (.invokevirtual 54, 3) := by decide +kernel
theorem dX6_readPart_85 : decode cX6_readPart 85 = .ok (.goto 54, 3) := by decide +kernel
theorem dX6_readPart_88 : decode cX6_readPart 88 = .ok (.aload_n 0, 1) := by decide +kernel
theorem dX6_readPart_89 : decode cX6_readPart 89 = .ok (.dup, 1) := by decide +kernel
theorem dX6_readPart_90 : decode cX6_readPart 90 = .ok (.getfield 31, 3) := by decide +kernel
theorem dX6_readPart_93 : decode cX6_readPart 93 = .ok (.aload_n 0, 1) := by decide +kernel
theorem dX6_readPart_94 : decode cX6_readPart 94 = .ok (.aload_n 1, 1) := by decide +kernel
theorem dX6_readPart_95 : decode cX6_readPart 95 = .ok (.iconst 1, 1) := by decide +kernel
theorem dX6_readPart_96 : decode cX6_readPart 96 = .ok (.bipush 99, 2) := by decide +kernel
theorem dX6_readPart_98 : decode cX6_readPart 98 = .ok (.invokevirtual 57, 3) := by decide +kernel
theorem dX6_readPart_101 : decode cX6_readPart 101 = .ok (.iadd, 1) := by decide +kernel
theorem dX6_readPart_102 : decode cX6_readPart 102 = .ok (.putfield 31, 3) := by decide +kernel
theorem dX6_readPart_105 : decode cX6_readPart 105 = .ok (.goto 34, 3) := by decide +kernel
theorem dX6_readPart_108 : decode cX6_readPart 108 = .ok (.aload_n 0, 1) := by decide +kernel
theorem dX6_readPart_109 : decode cX6_readPart 109 = .ok (.dup, 1) := by decide +kernel
theorem dX6_readPart_110 : decode cX6_readPart 110 = .ok (.getfield 28, 3) := by decide +kernel
theorem dX6_readPart_113 : decode cX6_readPart 113 = .ok (.aload_n 0, 1) := by decide +kernel
theorem dX6_readPart_114 : decode cX6_readPart 114 = .ok (.aload_n 1, 1) := by decide +kernel
theorem dX6_readPart_115 : decode cX6_readPart 115 = .ok (.iconst 1, 1) := by decide +kernel
theorem dX6_readPart_116 : decode cX6_readPart 116 = .ok (.sipush 9999, 3) := by decide +kernel
theorem dX6_readPart_119 : decode cX6_readPart 119 = .ok (.invokevirtual 57, 3) := by decide +kernel
theorem dX6_readPart_122 : decode cX6_readPart 122 = .ok (.iadd, 1) := by decide +kernel
theorem dX6_readPart_123 : decode cX6_readPart 123 = .ok (.putfield 28, 3) := by decide +kernel
theorem dX6_readPart_126 : decode cX6_readPart 126 = .ok (.goto 13, 3) := by decide +kernel
theorem dX6_readPart_129 : decode cX6_readPart 129 = .ok (.aload_n 0, 1) := by decide +kernel
theorem dX6_readPart_130 : decode cX6_readPart 130 = .ok (.aload_n 0, 1) := by decide +kernel
theorem dX6_readPart_131 : decode cX6_readPart 131 = .ok (.getfield 25, 3) := by decide +kernel
theorem dX6_readPart_134 : decode cX6_readPart 134 = .ok (.iconst 1, 1) := by decide +kernel
theorem dX6_readPart_135 : decode cX6_readPart 135 = .ok (.isub, 1) := by decide +kernel
theorem dX6_readPart_136 : decode cX6_readPart 136 = .ok (.putfield 22, 3) := by decide +kernel
theorem dX6_readPart_139 : decode cX6_readPart 139 = .ok (.return_, 1) := by decide +kernel
set_option maxRecDepth 20000 in
theorem ggX6_readBeats_X6_readNumber : GoodIn wsX6_readBeats wsX6_readNumber := goodIn_r _ [7, 1, 2, 8, 9, 10, 11, 12, 13, 14, 15, 16, 17, 18, 29, 30, 31, 32, 33, 34, 35, 36, 37] (by decide +kernel) (by decide +kernel)
set_option maxRecDepth 20000 in
theorem gX6_readBeats_X6_readNumber : GoodIn wsX6_readBeats (wsV RX6 57 RX6 yX6_readNumber wsX6_readNumber) := goodIn_app (goodIn_of _ (by decide +kernel)) ggX6_readBeats_X6_readNumber
set_option maxRecDepth 20000 in
theorem ggX6_readBeats_X6_addBeats : GoodIn wsX6_readBeats wsX6_addBeats := goodIn_r _ [22, 23, 24, 25, 26, 27, 29, 30, 31, 32, 33, 34, 35] (by decide +kernel) (by decide +kernel)
set_option maxRecDepth 20000 in
theorem gX6_readBeats_X6_addBeats : GoodIn wsX6_readBeats (wsV RX6 61 RX6 yX6_addBeats wsX6_addBeats) := goodIn_app (goodIn_of _ (by decide +kernel)) ggX6_readBeats_X6_addBeats
set_option maxRecDepth 20000 in
theorem ggX6_readBeats_X4_signAt : GoodIn wsX6_readBeats wsX4_signAt := goodIn_r _ [16, 17, 18, 36, 37] (by decide +kernel) (by decide +kernel)
set_option maxRecDepth 20000 in
theorem gX6_readBeats_X4_signAt : GoodIn wsX6_readBeats (wsV RX6 47 RX4 yX4_signAt wsX4_signAt) := goodIn_app (goodIn_of _ (by decide +kernel)) ggX6_readBeats_X4_signAt
theorem dX6_readBeats_0 : decode cX6_readBeats 0 = .ok (.aload_n 0, 1) := by decide +kernel
theorem dX6_readBeats_1 : decode cX6_readBeats 1 = .ok (.aload_n 0, 1) := by decide +kernel
theorem dX6_readBeats_2 : decode cX6_readBeats 2 = .ok (.aload_n 1, 1) := by decide +kernel
theorem dX6_readBeats_3 : decode cX6_readBeats 3 = .ok (.iconst 1, 1) := by decide +kernel
theorem dX6_readBeats_4 : decode cX6_readBeats 4 = .ok (.sipush 999, 3) := by decide +kernel
theorem dX6_readBeats_7 : decode cX6_readBeats 7 = .ok (.invokevirtual 57, 3) := by decide +kernel
theorem dX6_readBeats_10 : decode cX6_readBeats 10 = .ok (.iconst 1, 1) := by decide +kernel
theorem dX6_readBeats_11 : decode cX6_readBeats 11 = .ok (.invokevirtual 61, 3) := by decide +kernel
theorem dX6_readBeats_14 : decode cX6_readBeats 14 = .ok (.iconst 0, 1) := by decide +kernel
theorem dX6_readBeats_15 : decode cX6_readBeats 15 = .ok (.istore_n 2, 1) := by decide +kernel
theorem dX6_readBeats_16 : decode cX6_readBeats 16 = .ok (.iload_n 2, 1) := by decide +kernel
theorem dX6_readBeats_17 : decode cX6_readBeats 17 = .ok (.bipush 80, 2) := by decide +kernel
theorem dX6_readBeats_19 : decode cX6_readBeats 19 = .ok (.if_icmp .ge 55, 3) := by decide +kernel
theorem dX6_readBeats_22 : decode cX6_readBeats 22 = .ok (.aload_n 0, 1) := by decide +kernel
theorem dX6_readBeats_23 : decode cX6_readBeats 23 = .ok (.getfield 22, 3) := by decide +kernel
theorem dX6_readBeats_26 : decode cX6_readBeats 26 = .ok (.bipush (-6), 2) := by decide +kernel
theorem dX6_readBeats_28 : decode cX6_readBeats 28 = .ok (.if_icmp .ne 46, 3) := by decide +kernel
theorem dX6_readBeats_31 : decode cX6_readBeats 31 = .ok (.aload_n 1, 1) := by decide +kernel
theorem dX6_readBeats_32 : decode cX6_readBeats 32 = .ok (.aload_n 0, 1) := by decide +kernel
theorem dX6_readBeats_33 : decode cX6_readBeats 33 = .ok (.getfield 25, 3) := by decide +kernel
theorem dX6_readBeats_36 : decode cX6_readBeats 36 = .ok (.invokevirtual 47, 3) := by decide +kernel
theorem dX6_readBeats_39 : decode cX6_readBeats 39 = .ok (.bipush 44, 2) := by decide +kernel
theorem dX6_readBeats_41 : decode cX6_readBeats 41 = .ok (.if_icmp .ne 33, 3) := by decide +kernel
theorem dX6_readBeats_44 : decode cX6_readBeats 44 = .ok (.aload_n 0, 1) := by decide +kernel
theorem dX6_readBeats_45 : decode cX6_readBeats 45 = .ok (.dup, 1) := by decide +kernel
theorem dX6_readBeats_46 : decode cX6_readBeats 46 = .ok (.getfield 25, 3) := by decide +kernel
theorem dX6_readBeats_49 : decode cX6_readBeats 49 = .ok (.iconst 1, 1) := by decide +kernel
theorem dX6_readBeats_50 : decode cX6_readBeats 50 = .ok (.iadd, 1) := by decide +kernel
theorem dX6_readBeats_51 : decode cX6_readBeats 51 = .ok (.putfield 25, 3) := by decide +kernel
theorem dX6_readBeats_54 : decode cX6_readBeats 54 = .ok (.aload_n 0, 1) := by decide +kernel
theorem dX6_readBeats_55 : decode cX6_readBeats 55 = .ok (.aload_n 0, 1) := by decide +kernel
theorem dX6_readBeats_56 : decode cX6_readBeats 56 = .ok (.aload_n 1, 1) := by decide +kernel
theorem dX6_readBeats_57 : decode cX6_readBeats 57 = .ok (.iconst 1, 1) := by decide +kernel
theorem dX6_readBeats_58 : decode cX6_readBeats 58 = .ok (.sipush 999, 3) := by decide +kernel
theorem dX6_readBeats_61 : decode cX6_readBeats 61 = .ok (.invokevirtual 57, 3) := by decide +kernel
theorem dX6_readBeats_64 : decode cX6_readBeats 64 = .ok (.iconst 1, 1) := by decide +kernel
theorem dX6_readBeats_65 : decode cX6_readBeats 65 = .ok (.invokevirtual 61, 3) := by decide +kernel
theorem dX6_readBeats_68 : decode cX6_readBeats 68 = .ok (.iinc 2 1, 3) := by decide +kernel
theorem dX6_readBeats_71 : decode cX6_readBeats 71 = .ok (.goto (-55), 3) := by decide +kernel
theorem dX6_readBeats_74 : decode cX6_readBeats 74 = .ok (.return_, 1) := by decide +kernel
set_option maxRecDepth 20000 in
theorem ggX6_readEvenBeats_X6_readNumber : GoodIn wsX6_readEvenBeats wsX6_readNumber := goodIn_r _ [5, 6, 7, 8, 9, 10, 11, 12, 13, 14, 15, 16, 17, 18, 33, 34, 35, 36, 37, 38, 39, 40, 41] (by decide +kernel) (by decide +kernel)
set_option maxRecDepth 20000 in
theorem gX6_readEvenBeats_X6_readNumber : GoodIn wsX6_readEvenBeats (wsV RX6 57 RX6 yX6_readNumber wsX6_readNumber) := goodIn_app (goodIn_of _ (by decide +kernel)) ggX6_readEvenBeats_X6_readNumber
set_option maxRecDepth 20000 in
theorem ggX6_readEvenBeats_X6_readSign : GoodIn wsX6_readEvenBeats wsX6_readSign := goodIn_r _ [22, 6, 7, 23, 14, 15, 11, 16, 17, 18, 33, 34, 35, 36, 37, 38, 39, 40, 41] (by decide +kernel) (by decide +kernel)
set_option maxRecDepth 20000 in
theorem gX6_readEvenBeats_X6_readSign : GoodIn wsX6_readEvenBeats (wsV RX6 43 RX6 yX6_readSign wsX6_readSign) := goodIn_app (goodIn_of _ (by decide +kernel)) ggX6_readEvenBeats_X6_readSign
set_option maxRecDepth 20000 in
theorem ggX6_readEvenBeats_X6_addBeats : GoodIn wsX6_readEvenBeats wsX6_addBeats := goodIn_r _ [27, 28, 29, 30, 31, 32, 33, 34, 35, 36, 37, 38, 39] (by decide +kernel) (by decide +kernel)
set_option maxRecDepth 20000 in
theorem gX6_readEvenBeats_X6_addBeats : GoodIn wsX6_readEvenBeats (wsV RX6 61 RX6 yX6_addBeats wsX6_addBeats) := goodIn_app (goodIn_of _ (by decide +kernel)) ggX6_readEvenBeats_X6_addBeats
theorem dX6_readEvenBeats_0 : decode cX6_readEvenBeats 0 = .ok (.aload_n 0, 1) := by decide +kernel
theorem dX6_readEvenBeats_1 : decode cX6_readEvenBeats 1 = .ok (.aload_n 1, 1) := by decide +kernel
theorem dX6_readEvenBeats_2 : decode cX6_readEvenBeats 2 = .ok (.iconst 1, 1) := by decide +kernel
theorem dX6_readEvenBeats_3 : decode cX6_readEvenBeats 3 = .ok (.sipush 999, 3) := by decide +kernel
theorem dX6_readEvenBeats_6 : decode cX6_readEvenBeats 6 = .ok (.invokevirtual 57, 3) := by decide +kernel
theorem dX6_readEvenBeats_9 : decode cX6_readEvenBeats 9 = .ok (.istore_n 2, 1) := by decide +kernel
theorem dX6_readEvenBeats_10 : decode cX6_readEvenBeats 10 = .ok (.aload_n 0, 1) := by decide +kernel
theorem dX6_readEvenBeats_11 : decode cX6_readEvenBeats 11 = .ok (.aload_n 1, 1) := by decide +kernel
theorem dX6_readEvenBeats_12 : decode cX6_readEvenBeats 12 = .ok (.bipush 42, 2) := by decide +kernel
theorem dX6_readEvenBeats_14 : decode cX6_readEvenBeats 14 = .ok (.invokevirtual 43, 3) := by decide +kernel
theorem dX6_readEvenBeats_17 : decode cX6_readEvenBeats 17 = .ok (.aload_n 0, 1) := by decide +kernel
theorem dX6_readEvenBeats_18 : decode cX6_readEvenBeats 18 = .ok (.iload_n 2, 1) := by decide +kernel
theorem dX6_readEvenBeats_19 : decode cX6_readEvenBeats 19 = .ok (.aload_n 0, 1) := by decide +kernel
theorem dX6_readEvenBeats_20 : decode cX6_readEvenBeats 20 = .ok (.aload_n 1, 1) := by decide +kernel
theorem dX6_readEvenBeats_21 : decode cX6_readEvenBeats 21 = .ok (.iconst 2, 1) := by decide +kernel
theorem dX6_readEvenBeats_22 : decode cX6_readEvenBeats 22 = .ok (.bipush 40, 2) := by decide +kernel
theorem dX6_readEvenBeats_24 : decode cX6_readEvenBeats 24 = .ok (.invokevirtual 57, 3) := by decide +kernel
theorem dX6_readEvenBeats_27 : decode cX6_readEvenBeats 27 = .ok (.invokevirtual 61, 3) := by decide +kernel
theorem dX6_readEvenBeats_30 : decode cX6_readEvenBeats 30 = .ok (.return_, 1) := by decide +kernel
set_option maxRecDepth 20000 in
theorem ggX6_readSign_X4_signAt : GoodIn wsX6_readSign wsX4_signAt := goodIn_r _ [7, 8, 9, 17, 18] (by decide +kernel) (by decide +kernel)
set_option maxRecDepth 20000 in
theorem gX6_readSign_X4_signAt : GoodIn wsX6_readSign (wsV RX6 47 RX4 yX4_signAt wsX4_signAt) := goodIn_app (goodIn_of _ (by decide +kernel)) ggX6_readSign_X4_signAt
theorem dX6_readSign_0 : decode cX6_readSign 0 = .ok (.aload_n 0, 1) := by decide +kernel
theorem dX6_readSign_1 : decode cX6_readSign 1 = .ok (.getfield 22, 3) := by decide +kernel
theorem dX6_readSign_4 : decode cX6_readSign 4 = .ok (.bipush (-6), 2) := by decide +kernel
theorem dX6_readSign_6 : decode cX6_readSign 6 = .ok (.if_icmp .eq 4, 3) := by decide +kernel
theorem dX6_readSign_9 : decode cX6_readSign 9 = .ok (.return_, 1) := by decide +kernel
theorem dX6_readSign_10 : decode cX6_readSign 10 = .ok (.aload_n 1, 1) := by decide +kernel
theorem dX6_readSign_11 : decode cX6_readSign 11 = .ok (.aload_n 0, 1) := by decide +kernel
theorem dX6_readSign_12 : decode cX6_readSign 12 = .ok (.getfield 25, 3) := by decide +kernel
theorem dX6_readSign_15 : decode cX6_readSign 15 = .ok (.invokevirtual 47, 3) := by decide +kernel
theorem dX6_readSign_18 : decode cX6_readSign 18 = .ok (.iload_n 2, 1) := by decide +kernel
theorem dX6_readSign_19 : decode cX6_readSign 19 = .ok (.if_icmp .ne 16, 3) := by decide +kernel
theorem dX6_readSign_22 : decode cX6_readSign 22 = .ok (.aload_n 0, 1) := by decide +kernel
theorem dX6_readSign_23 : decode cX6_readSign 23 = .ok (.dup, 1) := by decide +kernel
theorem dX6_readSign_24 : decode cX6_readSign 24 = .ok (.getfield 25, 3) := by decide +kernel
theorem dX6_readSign_27 : decode cX6_readSign 27 = .ok (.iconst 1, 1) := by decide +kernel
theorem dX6_readSign_28 : decode cX6_readSign 28 = .ok (.iadd, 1) := by decide +kernel
theorem dX6_readSign_29 : decode cX6_readSign 29 = .ok (.putfield 25, 3) := by decide +kernel
theorem dX6_readSign_32 : decode cX6_readSign 32 = .ok (.goto 11, 3) := by decide +kernel
theorem dX6_readSign_35 : decode cX6_readSign 35 = .ok (.aload_n 0, 1) := by decide +kernel
theorem dX6_readSign_36 : decode cX6_readSign 36 = .ok (.aload_n 0, 1) := by decide +kernel
theorem dX6_readSign_37 : decode cX6_readSign 37 = .ok (.getfield 25, 3) := by decide +kernel
theorem dX6_readSign_40 : decode cX6_readSign 40 = .ok (.putfield 22, 3) := by decide +kernel
theorem dX6_readSign_43 : decode cX6_readSign 43 = .ok (.return_, 1) := by decide +kernel
set_option maxRecDepth 20000 in
theorem ggX6_readNumber_X4_digitAt : GoodIn wsX6_readNumber wsX4_digitAt := goodIn_r _ [7, 8, 9, 10, 6, 11, 12, 13, 21, 22] (by decide +kernel) (by decide +kernel)
set_option maxRecDepth 20000 in
theorem gX6_readNumber_X4_digitAt : GoodIn wsX6_readNumber (wsV RX6 65 RX4 yX4_digitAt wsX4_digitAt) := goodIn_app (goodIn_of _ (by decide +kernel)) ggX6_readNumber_X4_digitAt
theorem dX6_readNumber_0 : decode cX6_readNumber 0 = .ok (.aload_n 0, 1) := by decide +kernel
theorem dX6_readNumber_1 : decode cX6_readNumber 1 = .ok (.getfield 22, 3) := by decide +kernel
theorem dX6_readNumber_4 : decode cX6_readNumber 4 = .ok (.bipush (-6), 2) := by decide +kernel
theorem dX6_readNumber_6 : decode cX6_readNumber 6 = .ok (.if_icmp .eq 5, 3) := by decide +kernel
theorem dX6_readNumber_9 : decode cX6_readNumber 9 = .ok (.iconst 0, 1) := by decide +kernel
theorem dX6_readNumber_10 : decode cX6_readNumber 10 = .ok (.ireturn, 1) := by decide +kernel
theorem dX6_readNumber_11 : decode cX6_readNumber 11 = .ok (.aload_n 1, 1) := by decide +kernel
theorem dX6_readNumber_12 : decode cX6_readNumber 12 = .ok (.aload_n 0, 1) := by decide +kernel
theorem dX6_readNumber_13 : decode cX6_readNumber 13 = .ok (.getfield 25, 3) := by decide +kernel
theorem dX6_readNumber_16 : decode cX6_readNumber 16 = .ok (.invokevirtual 65, 3) := by decide +kernel
theorem dX6_readNumber_19 : decode cX6_readNumber 19 = .ok (.istore 4, 2) := by decide +kernel
theorem dX6_readNumber_21 : decode cX6_readNumber 21 = .ok (.iload 4, 2) := by decide +kernel
theorem dX6_readNumber_23 : decode cX6_readNumber 23 = .ok (.ifCond .ge 13, 3) := by decide +kernel
theorem dX6_readNumber_26 : decode cX6_readNumber 26 = .ok (.aload_n 0, 1) := by decide +kernel
theorem dX6_readNumber_27 : decode cX6_readNumber 27 = .ok (.aload_n 0, 1) := by decide +kernel
theorem dX6_readNumber_28 : decode cX6_readNumber 28 = .ok (.getfield 25, 3) := by decide +kernel
theorem dX6_readNumber_31 : decode cX6_readNumber 31 = .ok (.putfield 22, 3) := by decide +kernel
theorem dX6_readNumber_34 : decode cX6_readNumber 34 = .ok (.iconst 0, 1) := by decide +kernel
theorem dX6_readNumber_35 : decode cX6_readNumber 35 = .ok (.ireturn, 1) := by decide +kernel
theorem dX6_readNumber_36 : decode cX6_readNumber 36 = .ok (.aload_n 0, 1) := by decide +kernel
theorem dX6_readNumber_37 : decode cX6_readNumber 37 = .ok (.dup, 1) := by decide +kernel
theorem dX6_readNumber_38 : decode cX6_readNumber 38 = .ok (.getfield 25, 3) := by decide +kernel
theorem dX6_readNumber_41 : decode cX6_readNumber 41 = .ok (.iconst 1, 1) := by decide +kernel
theorem dX6_readNumber_42 : decode cX6_readNumber 42 = .ok (.iadd, 1) := by decide +kernel
theorem dX6_readNumber_43 : decode cX6_readNumber 43 = .ok (.putfield 25, 3) := by decide +kernel
theorem dX6_readNumber_46 : decode cX6_readNumber 46 = .ok (.iconst 0, 1) := by decide +kernel
theorem dX6_readNumber_47 : decode cX6_readNumber 47 = .ok (.istore 5, 2) := by decide +kernel
theorem dX6_readNumber_49 : decode cX6_readNumber 49 = .ok (.iload 5, 2) := by decide +kernel
theorem dX6_readNumber_51 : decode cX6_readNumber 51 = .ok (.bipush 80, 2) := by decide +kernel
theorem dX6_readNumber_53 : decode cX6_readNumber 53 = .ok (.if_icmp .ge 71, 3) := by decide +kernel
theorem dX6_readNumber_56 : decode cX6_readNumber 56 = .ok (.aload_n 1, 1) := by decide +kernel
theorem dX6_readNumber_57 : decode cX6_readNumber 57 = .ok (.aload_n 0, 1) := by decide +kernel
theorem dX6_readNumber_58 : decode cX6_readNumber 58 = .ok (.getfield 25, 3) := by decide +kernel
theorem dX6_readNumber_61 : decode cX6_readNumber 61 = .ok (.invokevirtual 65, 3) := by decide +kernel
theorem dX6_readNumber_64 : decode cX6_readNumber 64 = .ok (.ifCond .lt 60, 3) := by decide +kernel
theorem dX6_readNumber_67 : decode cX6_readNumber 67 = .ok (.iload 4, 2) := by decide +kernel
theorem dX6_readNumber_69 : decode cX6_readNumber 69 = .ok (.bipush 10, 2) := by decide +kernel
theorem dX6_readNumber_71 : decode cX6_readNumber 71 = .ok (.imul, 1) := by decide +kernel
theorem dX6_readNumber_72 : decode cX6_readNumber 72 = .ok (.aload_n 1, 1) := by decide +kernel
theorem dX6_readNumber_73 : decode cX6_readNumber 73 = .ok (.aload_n 0, 1) := by decide +kernel
theorem dX6_readNumber_74 : decode cX6_readNumber 74 = .ok (.getfield 25, 3) := by decide +kernel
theorem dX6_readNumber_77 : decode cX6_readNumber 77 = .ok (.invokevirtual 65, 3) := by decide +kernel
theorem dX6_readNumber_80 : decode cX6_readNumber 80 = .ok (.iadd, 1) := by decide +kernel
theorem dX6_readNumber_81 : decode cX6_readNumber 81 = .ok (.istore 6, 2) := by decide +kernel
theorem dX6_readNumber_83 : decode cX6_readNumber 83 = .ok (.iload 4, 2) := by decide +kernel
theorem dX6_readNumber_85 : decode cX6_readNumber 85 = .ok (.ifCond .eq 9, 3) := by decide +kernel
theorem dX6_readNumber_88 : decode cX6_readNumber 88 = .ok (.iload 6, 2) := by decide +kernel
theorem dX6_readNumber_90 : decode cX6_readNumber 90 = .ok (.iload_n 3, 1) := by decide +kernel
theorem dX6_readNumber_91 : decode cX6_readNumber 91 = .ok (.if_icmp .le 13, 3) := by decide +kernel
theorem dX6_readNumber_94 : decode cX6_readNumber 94 = .ok (.aload_n 0, 1) := by decide +kernel
theorem dX6_readNumber_95 : decode cX6_readNumber 95 = .ok (.aload_n 0, 1) := by decide +kernel
theorem dX6_readNumber_96 : decode cX6_readNumber 96 = .ok (.getfield 25, 3) := by decide +kernel
theorem dX6_readNumber_99 : decode cX6_readNumber 99 = .ok (.putfield 22, 3) := by decide +kernel
theorem dX6_readNumber_102 : decode cX6_readNumber 102 = .ok (.iconst 0, 1) := by decide +kernel
theorem dX6_readNumber_103 : decode cX6_readNumber 103 = .ok (.ireturn, 1) := by decide +kernel
theorem dX6_readNumber_104 : decode cX6_readNumber 104 = .ok (.iload 6, 2) := by decide +kernel
theorem dX6_readNumber_106 : decode cX6_readNumber 106 = .ok (.istore 4, 2) := by decide +kernel
theorem dX6_readNumber_108 : decode cX6_readNumber 108 = .ok (.aload_n 0, 1) := by decide +kernel
theorem dX6_readNumber_109 : decode cX6_readNumber 109 = .ok (.dup, 1) := by decide +kernel
theorem dX6_readNumber_110 : decode cX6_readNumber 110 = .ok (.getfield 25, 3) := by decide +kernel
theorem dX6_readNumber_113 : decode cX6_readNumber 113 = .ok (.iconst 1, 1) := by decide +kernel
theorem dX6_readNumber_114 : decode cX6_readNumber 114 = .ok (.iadd, 1) := by decide +kernel
theorem dX6_readNumber_115 : decode cX6_readNumber 115 = .ok (.putfield 25, 3) := by decide +kernel
theorem dX6_readNumber_118 : decode cX6_readNumber 118 = .ok (.iinc 5 1, 3) := by decide +kernel
theorem dX6_readNumber_121 : decode cX6_readNumber 121 = .ok (.goto (-72), 3) := by decide +kernel
theorem dX6_readNumber_124 : decode cX6_readNumber 124 = .ok (.iload 4, 2) := by decide +kernel
theorem dX6_readNumber_126 : decode cX6_readNumber 126 = .ok (.iload_n 2, 1) := by decide +kernel
theorem dX6_readNumber_127 : decode cX6_readNumber 127 = .ok (.if_icmp .ge 13, 3) := by decide +kernel
theorem dX6_readNumber_130 : decode cX6_readNumber 130 = .ok (.aload_n 0, 1) := by decide +kernel
theorem dX6_readNumber_131 : decode cX6_readNumber 131 = .ok (.aload_n 0, 1) := by decide +kernel
theorem dX6_readNumber_132 : decode cX6_readNumber 132 = .ok (.getfield 25, 3) := by decide +kernel
theorem dX6_readNumber_135 : decode cX6_readNumber 135 = .ok (.putfield 22, 3) := by decide +kernel
theorem dX6_readNumber_138 : decode cX6_readNumber 138 = .ok (.iconst 0, 1) := by decide +kernel
theorem dX6_readNumber_139 : decode cX6_readNumber 139 = .ok (.ireturn, 1) := by decide +kernel
theorem dX6_readNumber_140 : decode cX6_readNumber 140 = .ok (.iload 4, 2) := by decide +kernel
theorem dX6_readNumber_142 : decode cX6_readNumber 142 = .ok (.ireturn, 1) := by decide +kernel
theorem dX6_addBeats_0 : decode cX6_addBeats 0 = .ok (.iconst 0, 1) := by decide +kernel
theorem dX6_addBeats_1 : decode cX6_addBeats 1 = .ok (.istore_n 3, 1) := by decide +kernel
theorem dX6_addBeats_2 : decode cX6_addBeats 2 = .ok (.iload_n 3, 1) := by decide +kernel
theorem dX6_addBeats_3 : decode cX6_addBeats 3 = .ok (.iload_n 2, 1) := by decide +kernel
theorem dX6_addBeats_4 : decode cX6_addBeats 4 = .ok (.if_icmp .ge 73, 3) := by decide +kernel
theorem dX6_addBeats_7 : decode cX6_addBeats 7 = .ok (.aload_n 0, 1) := by decide +kernel
theorem dX6_addBeats_8 : decode cX6_addBeats 8 = .ok (.getfield 18, 3) := by decide +kernel
theorem dX6_addBeats_11 : decode cX6_addBeats 11 = .ok (.ifCond .lt 40, 3) := by decide +kernel
theorem dX6_addBeats_14 : decode cX6_addBeats 14 = .ok (.aload_n 0, 1) := by decide +kernel
theorem dX6_addBeats_15 : decode cX6_addBeats 15 = .ok (.getfield 18, 3) := by decide +kernel
theorem dX6_addBeats_18 : decode cX6_addBeats 18 = .ok (.bipush 64, 2) := by decide +kernel
theorem dX6_addBeats_20 : decode cX6_addBeats 20 = .ok (.if_icmp .ge 31, 3) := by decide +kernel
theorem dX6_addBeats_23 : decode cX6_addBeats 23 = .ok (.aload_n 0, 1) := by decide +kernel
theorem dX6_addBeats_24 : decode cX6_addBeats 24 = .ok (.getfield 9, 3) := by decide +kernel
theorem dX6_addBeats_27 : decode cX6_addBeats 27 = .ok (.aload_n 0, 1) := by decide +kernel
theorem dX6_addBeats_28 : decode cX6_addBeats 28 = .ok (.getfield 18, 3) := by decide +kernel
theorem dX6_addBeats_31 : decode cX6_addBeats 31 = .ok (.iload_n 1, 1) := by decide +kernel
theorem dX6_addBeats_32 : decode cX6_addBeats 32 = .ok (.aload_n 0, 1) := by decide +kernel
theorem dX6_addBeats_33 : decode cX6_addBeats 33 = .ok (.getfield 28, 3) := by decide +kernel
theorem dX6_addBeats_36 : decode cX6_addBeats 36 = .ok (.iadd, 1) := by decide +kernel
theorem dX6_addBeats_37 : decode cX6_addBeats 37 = .ok (.iastore, 1) := by decide +kernel
theorem dX6_addBeats_38 : decode cX6_addBeats 38 = .ok (.aload_n 0, 1) := by decide +kernel
theorem dX6_addBeats_39 : decode cX6_addBeats 39 = .ok (.getfield 15, 3) := by decide +kernel
theorem dX6_addBeats_42 : decode cX6_addBeats 42 = .ok (.aload_n 0, 1) := by decide +kernel
theorem dX6_addBeats_43 : decode cX6_addBeats 43 = .ok (.getfield 18, 3) := by decide +kernel
theorem dX6_addBeats_46 : decode cX6_addBeats 46 = .ok (.aload_n 0, 1) := by decide +kernel
theorem dX6_addBeats_47 : decode cX6_addBeats 47 = .ok (.getfield 31, 3) := by decide +kernel
theorem dX6_addBeats_50 : decode cX6_addBeats 50 = .ok (.iastore, 1) := by decide +kernel
theorem dX6_addBeats_51 : decode cX6_addBeats 51 = .ok (.aload_n 0, 1) := by decide +kernel
theorem dX6_addBeats_52 : decode cX6_addBeats 52 = .ok (.dup, 1) := by decide +kernel
theorem dX6_addBeats_53 : decode cX6_addBeats 53 = .ok (.getfield 18, 3) := by decide +kernel
theorem dX6_addBeats_56 : decode cX6_addBeats 56 = .ok (.iconst 1, 1) := by decide +kernel
theorem dX6_addBeats_57 : decode cX6_addBeats 57 = .ok (.iadd, 1) := by decide +kernel
theorem dX6_addBeats_58 : decode cX6_addBeats 58 = .ok (.putfield 18, 3) := by decide +kernel
theorem dX6_addBeats_61 : decode cX6_addBeats 61 = .ok (.aload_n 0, 1) := by decide +kernel
theorem dX6_addBeats_62 : decode cX6_addBeats 62 = .ok (.iconst 0, 1) := by decide +kernel
theorem dX6_addBeats_63 : decode cX6_addBeats 63 = .ok (.putfield 28, 3) := by decide +kernel
theorem dX6_addBeats_66 : decode cX6_addBeats 66 = .ok (.aload_n 0, 1) := by decide +kernel
theorem dX6_addBeats_67 : decode cX6_addBeats 67 = .ok (.iconst 0, 1) := by decide +kernel
theorem dX6_addBeats_68 : decode cX6_addBeats 68 = .ok (.putfield 31, 3) := by decide +kernel
theorem dX6_addBeats_71 : decode cX6_addBeats 71 = .ok (.iinc 3 1, 3) := by decide +kernel
theorem dX6_addBeats_74 : decode cX6_addBeats 74 = .ok (.goto (-72), 3) := by decide +kernel
theorem dX6_addBeats_77 : decode cX6_addBeats 77 = .ok (.return_, 1) := by decide +kernel
set_option maxRecDepth 20000 in
theorem ggX7_init_X5_init : GoodIn wsX7_init wsX5_init := goodIn_r _ [31, 32, 2, 3, 4, 33, 34, 98, 99, 100] (by decide +kernel) (by decide +kernel)
set_option maxRecDepth 20000 in
theorem gX7_init_X5_init_n17 : GoodIn wsX7_init (wsX5_init) := ggX7_init_X5_init
set_option maxRecDepth 20000 in
theorem ggX7_init_X2_init : GoodIn wsX7_init wsX2_init := goodIn_r _ [36, 37, 2, 3, 4, 38, 39, 40, 41, 101, 102, 103, 104] (by decide +kernel) (by decide +kernel)
set_option maxRecDepth 20000 in
theorem gX7_init_X2_init_n24 : GoodIn wsX7_init (wsX2_init) := ggX7_init_X2_init
set_option maxRecDepth 20000 in
theorem ggX7_init_X0_init : GoodIn wsX7_init wsX0_init := goodIn_r _ [43, 44, 2, 3, 4, 45, 46, 47, 48, 105, 106, 107, 108, 109] (by decide +kernel) (by decide +kernel)
set_option maxRecDepth 20000 in
theorem gX7_init_X0_init_n31 : GoodIn wsX7_init (wsX0_init) := ggX7_init_X0_init
set_option maxRecDepth 20000 in
theorem ggX7_init_X1_init : GoodIn wsX7_init wsX1_init := goodIn_r _ [50, 51, 2, 3] (by decide +kernel) (by decide +kernel)
set_option maxRecDepth 20000 in
theorem gX7_init_X1_init_n38 : GoodIn wsX7_init (wsX1_init) := ggX7_init_X1_init
set_option maxRecDepth 20000 in
theorem ggX7_init_X8_init : GoodIn wsX7_init wsX8_init := goodIn_r _ [53, 54, 2, 3] (by decide +kernel) (by decide +kernel)
set_option maxRecDepth 20000 in
theorem gX7_init_X8_init_n45 : GoodIn wsX7_init (wsX8_init) := ggX7_init_X8_init
set_option maxRecDepth 20000 in
theorem ggX7_init_X7_begin : GoodIn wsX7_init wsX7_begin := goodIn_r _ [59, 60, 17, 61, 25, 21, 62, 63, 64, 24, 65, 66, 67, 68, 69, 70, 71, 72, 73, 74, 75, 76, 77, 78, 58, 79, 5, 80, 81, 82, 20, 83, 84, 85, 86, 87, 88, 89, 90, 91, 92, 93, 94, 95, 96, 97, 105, 106, 107, 108, 109, 117, 118, 119, 120, 121, 122, 123, 124, 125, 126, 110, 111, 112, 113, 114, 115, 116] (by decide +kernel) (by decide +kernel)
set_option maxRecDepth 20000 in
theorem gX7_init_X7_begin : GoodIn wsX7_init (wsV RX7 59 RX7 yX7_begin wsX7_begin) := goodIn_app (goodIn_of _ (by decide +kernel)) ggX7_init_X7_begin
