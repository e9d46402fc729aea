theorem dX10_init_0 : decode cX10_init 0 = .ok (.aload_n 0, 1) := by decide +kernel
theorem dX10_init_1 : decode cX10_init 1 = .ok (.invokespecial 1, 3) := by decide +kernel
theorem dX10_init_4 : decode cX10_init 4 = .ok (.aload_n 0, 1) := by decide +kernel
theorem dX10_init_5 : decode cX10_init 5 = .ok (.sipush 672, 3) := by decide +kernel
theorem dX10_init_8 : decode cX10_init 8 = .ok (.newarray .int, 2) := by decide +kernel
theorem dX10_init_10 : decode cX10_init 10 = .ok (.putfield 7, 3) := by decide +kernel
theorem dX10_init_13 : decode cX10_init 13 = .ok (.aload_n 0, 1) := by decide +kernel
theorem dX10_init_14 : decode cX10_init 14 = .ok (.sipush 4032, 3) := by decide +kernel
theorem dX10_init_17 : decode cX10_init 17 = .ok (.newarray .int, 2) := by decide +kernel
theorem dX10_init_19 : decode cX10_init 19 = .ok (.putfield 13, 3) := by decide +kernel
theorem dX10_init_22 : decode cX10_init 22 = .ok (.aload_n 0, 1) := by decide +kernel
theorem dX10_init_23 : decode cX10_init 23 = .ok (.sipush 1344, 3) := by decide +kernel
theorem dX10_init_26 : decode cX10_init 26 = .ok (.newarray .int, 2) := by decide +kernel
theorem dX10_init_28 : decode cX10_init 28 = .ok (.putfield 16, 3) := by decide +kernel
theorem dX10_init_31 : decode cX10_init 31 = .ok (.aload_n 0, 1) := by decide +kernel
theorem dX10_init_32 : decode cX10_init 32 = .ok (.iconst 2, 1) := by decide +kernel
theorem dX10_init_33 : decode cX10_init 33 = .ok (.newarray .boolean, 2) := by decide +kernel
theorem dX10_init_35 : decode cX10_init 35 = .ok (.putfield 19, 3) := by decide +kernel
theorem dX10_init_38 : decode cX10_init 38 = .ok (.aload_n 0, 1) := by decide +kernel
theorem dX10_init_39 : decode cX10_init 39 = .ok (.sipush 672, 3) := by decide +kernel
theorem dX10_init_42 : decode cX10_init 42 = .ok (.newarray .int, 2) := by decide +kernel
theorem dX10_init_44 : decode cX10_init 44 = .ok (.putfield 23, 3) := by decide +kernel
theorem dX10_init_47 : decode cX10_init 47 = .ok (.aload_n 0, 1) := by decide +kernel
theorem dX10_init_48 : decode cX10_init 48 = .ok (.bipush (-6), 2) := by decide +kernel
theorem dX10_init_50 : decode cX10_init 50 = .ok (.putfield 26, 3) := by decide +kernel
theorem dX10_init_53 : decode cX10_init 53 = .ok (.aload_n 0, 1) := by decide +kernel
theorem dX10_init_54 : decode cX10_init 54 = .ok (.bipush 80, 2) := by decide +kernel
theorem dX10_init_56 : decode cX10_init 56 = .ok (.newarray .int, 2) := by decide +kernel
theorem dX10_init_58 : decode cX10_init 58 = .ok (.putfield 30, 3) := by decide +kernel
theorem dX10_init_61 : decode cX10_init 61 = .ok (.aload_n 0, 1) := by decide +kernel
theorem dX10_init_62 : decode cX10_init 62 = .ok (.bipush 65, 2) := by decide +kernel
theorem dX10_init_64 : decode cX10_init 64 = .ok (.newarray .int, 2) := by decide +kernel
theorem dX10_init_66 : decode cX10_init 66 = .ok (.putfield 33, 3) := by decide +kernel
theorem dX10_init_69 : decode cX10_init 69 = .ok (.aload_n 0, 1) := by decide +kernel
theorem dX10_init_70 : decode cX10_init 70 = .ok (.bipush 65, 2) := by decide +kernel
theorem dX10_init_72 : decode cX10_init 72 = .ok (.newarray .int, 2) := by decide +kernel
theorem dX10_init_74 : decode cX10_init 74 = .ok (.putfield 36, 3) := by decide +kernel
theorem dX10_init_77 : decode cX10_init 77 = .ok (.aload_n 0, 1) := by decide +kernel
theorem dX10_init_78 : decode cX10_init 78 = .ok (.getfield 7, 3) := by decide +kernel
theorem dX10_init_81 : decode cX10_init 81 = .ok (.iconst 0, 1) := by decide +kernel
theorem dX10_init_82 : decode cX10_init 82 = .ok (.bipush 100, 2) := by decide +kernel
theorem dX10_init_84 : decode cX10_init 84 = .ok (.iastore, 1) := by decide +kernel
theorem dX10_init_85 : decode cX10_init 85 = .ok (.aload_n 0, 1) := by decide +kernel
theorem dX10_init_86 : decode cX10_init 86 = .ok (.getfield 7, 3) := by decide +kernel
theorem dX10_init_89 : decode cX10_init 89 = .ok (.iconst 1, 1) := by decide +kernel
theorem dX10_init_90 : decode cX10_init 90 = .ok (.bipush 30, 2) := by decide +kernel
theorem dX10_init_92 : decode cX10_init 92 = .ok (.iastore, 1) := by decide +kernel
theorem dX10_init_93 : decode cX10_init 93 = .ok (.aload_n 0, 1) := by decide +kernel
theorem dX10_init_94 : decode cX10_init 94 = .ok (.getfield 7, 3) := by decide +kernel
theorem dX10_init_97 : decode cX10_init 97 = .ok (.iconst 2, 1) := by decide +kernel
theorem dX10_init_98 : decode cX10_init 98 = .ok (.bipush 8, 2) := by decide +kernel
theorem dX10_init_100 : decode cX10_init 100 = .ok (.iastore, 1) := by decide +kernel
theorem dX10_init_101 : decode cX10_init 101 = .ok (.aload_n 0, 1) := by decide +kernel
theorem dX10_init_102 : decode cX10_init 102 = .ok (.getfield 7, 3) := by decide +kernel
theorem dX10_init_105 : decode cX10_init 105 = .ok (.iconst 3, 1) := by decide +kernel
theorem dX10_init_106 : decode cX10_init 106 = .ok (.iconst 4, 1) := by decide +kernel
theorem dX10_init_107 : decode cX10_init 107 = .ok (.iastore, 1) := by decide +kernel
theorem dX10_init_108 : decode cX10_init 108 = .ok (.aload_n 0, 1) := by decide +kernel
theorem dX10_init_109 : decode cX10_init 109 = .ok (.getfield 7, 3) := by decide +kernel
theorem dX10_init_112 : decode cX10_init 112 = .ok (.iconst 4, 1) := by decide +kernel
theorem dX10_init_113 : decode cX10_init 113 = .ok (.bipush 8, 2) := by decide +kernel
theorem dX10_init_115 : decode cX10_init 115 = .ok (.iastore, 1) := by decide +kernel
theorem dX10_init_116 : decode cX10_init 116 = .ok (.aload_n 0, 1) := by decide +kernel
theorem dX10_init_117 : decode cX10_init 117 = .ok (.getfield 7, 3) := by decide +kernel
theorem dX10_init_120 : decode cX10_init 120 = .ok (.iconst 5, 1) := by decide +kernel
theorem dX10_init_121 : decode cX10_init 121 = .ok (.iconst 3, 1) := by decide +kernel
theorem dX10_init_122 : decode cX10_init 122 = .ok (.iastore, 1) := by decide +kernel
theorem dX10_init_123 : decode cX10_init 123 = .ok (.aload_n 0, 1) := by decide +kernel
theorem dX10_init_124 : decode cX10_init 124 = .ok (.getfield 7, 3) := by decide +kernel
theorem dX10_init_127 : decode cX10_init 127 = .ok (.bipush 6, 2) := by decide +kernel
theorem dX10_init_129 : decode cX10_init 129 = .ok (.iconst 3, 1) := by decide +kernel
theorem dX10_init_130 : decode cX10_init 130 = .ok (.iastore, 1) := by decide +kernel
theorem dX10_init_131 : decode cX10_init 131 = .ok (.aload_n 0, 1) := by decide +kernel
theorem dX10_init_132 : decode cX10_init 132 = .ok (.getfield 7, 3) := by decide +kernel
theorem dX10_init_135 : decode cX10_init 135 = .ok (.bipush 7, 2) := by decide +kernel
theorem dX10_init_137 : decode cX10_init 137 = .ok (.bipush 6, 2) := by decide +kernel
theorem dX10_init_139 : decode cX10_init 139 = .ok (.iastore, 1) := by decide +kernel
theorem dX10_init_140 : decode cX10_init 140 = .ok (.aload_n 0, 1) := by decide +kernel
theorem dX10_init_141 : decode cX10_init 141 = .ok (.getfield 7, 3) := by decide +kernel
theorem dX10_init_144 : decode cX10_init 144 = .ok (.bipush 10, 2) := by decide +kernel
theorem dX10_init_146 : decode cX10_init 146 = .ok (.sipush 400, 3) := by decide +kernel
theorem dX10_init_149 : decode cX10_init 149 = .ok (.iastore, 1) := by decide +kernel
theorem dX10_init_150 : decode cX10_init 150 = .ok (.aload_n 0, 1) := by decide +kernel
theorem dX10_init_151 : decode cX10_init 151 = .ok (.getfield 7, 3) := by decide +kernel
theorem dX10_init_154 : decode cX10_init 154 = .ok (.bipush 11, 2) := by decide +kernel
theorem dX10_init_156 : decode cX10_init 156 = .ok (.bipush (-6), 2) := by decide +kernel
theorem dX10_init_158 : decode cX10_init 158 = .ok (.iastore, 1) := by decide +kernel
theorem dX10_init_159 : decode cX10_init 159 = .ok (.return_, 1) := by decide +kernel
theorem dX10_in_0 : decode cX10_in 0 = .ok (.iload_n 0, 1) := by decide +kernel
theorem dX10_in_1 : decode cX10_in 1 = .ok (.iload_n 1, 1) := by decide +kernel
theorem dX10_in_2 : decode cX10_in 2 = .ok (.if_icmp .lt 12, 3) := by decide +kernel
theorem dX10_in_5 : decode cX10_in 5 = .ok (.iload_n 0, 1) := by decide +kernel
theorem dX10_in_6 : decode cX10_in 6 = .ok (.iload_n 2, 1) := by decide +kernel
theorem dX10_in_7 : decode cX10_in 7 = .ok (.if_icmp .gt 7, 3) := by decide +kernel
theorem dX10_in_10 : decode cX10_in 10 = .ok (.iconst 1, 1) := by decide +kernel
theorem dX10_in_11 : decode cX10_in 11 = .ok (.goto 4, 3) := by decide +kernel
theorem dX10_in_14 : decode cX10_in 14 = .ok (.iconst 0, 1) := by decide +kernel
theorem dX10_in_15 : decode cX10_in 15 = .ok (.ireturn, 1) := by decide +kernel
theorem dX10_size_0 : decode cX10_size 0 = .ok (.iload_n 0, 1) := by decide +kernel
theorem dX10_size_1 : decode cX10_size 1 = .ok (.ifCond .ge 8, 3) := by decide +kernel
theorem dX10_size_4 : decode cX10_size 4 = .ok (.iload_n 0, 1) := by decide +kernel
theorem dX10_size_5 : decode cX10_size 5 = .ok (.ineg, 1) := by decide +kernel
theorem dX10_size_6 : decode cX10_size 6 = .ok (.goto 4, 3) := by decide +kernel
theorem dX10_size_9 : decode cX10_size 9 = .ok (.iload_n 0, 1) := by decide +kernel
theorem dX10_size_10 : decode cX10_size 10 = .ok (.ireturn, 1) := by decide +kernel
theorem dX10_part_0 : decode cX10_part 0 = .ok (.iload_n 0, 1) := by decide +kernel
theorem dX10_part_1 : decode cX10_part 1 = .ok (.ifCond .lt 9, 3) := by decide +kernel
theorem dX10_part_4 : decode cX10_part 4 = .ok (.iload_n 0, 1) := by decide +kernel
theorem dX10_part_5 : decode cX10_part 5 = .ok (.iload_n 1, 1) := by decide +kernel
theorem dX10_part_6 : decode cX10_part 6 = .ok (.idiv, 1) := by decide +kernel
theorem dX10_part_7 : decode cX10_part 7 = .ok (.goto 11, 3) := by decide +kernel
theorem dX10_part_10 : decode cX10_part 10 = .ok (.iload_n 1, 1) := by decide +kernel
theorem dX10_part_11 : decode cX10_part 11 = .ok (.iconst 1, 1) := by decide +kernel
theorem dX10_part_12 : decode cX10_part 12 = .ok (.isub, 1) := by decide +kernel
theorem dX10_part_13 : decode cX10_part 13 = .ok (.iload_n 0, 1) := by decide +kernel
theorem dX10_part_14 : decode cX10_part 14 = .ok (.isub, 1) := by decide +kernel
theorem dX10_part_15 : decode cX10_part 15 = .ok (.iload_n 1, 1) := by decide +kernel
theorem dX10_part_16 : decode cX10_part 16 = .ok (.idiv, 1) := by decide +kernel
theorem dX10_part_17 : decode cX10_part 17 = .ok (.ineg, 1) := by decide +kernel
theorem dX10_part_18 : decode cX10_part 18 = .ok (.ireturn, 1) := by decide +kernel
theorem dX10_ofB_0 : decode cX10_ofB 0 = .ok (.aload_n 0, 1) := by decide +kernel
theorem dX10_ofB_1 : decode cX10_ofB 1 = .ok (.getfield 7, 3) := by decide +kernel
theorem dX10_ofB_4 : decode cX10_ofB 4 = .ok (.bipush 32, 2) := by decide +kernel
theorem dX10_ofB_6 : decode cX10_ofB 6 = .ok (.bipush 6, 2) := by decide +kernel
theorem dX10_ofB_8 : decode cX10_ofB 8 = .ok (.iload_n 1, 1) := by decide +kernel
theorem dX10_ofB_9 : decode cX10_ofB 9 = .ok (.imul, 1) := by decide +kernel
theorem dX10_ofB_10 : decode cX10_ofB 10 = .ok (.iadd, 1) := by decide +kernel
theorem dX10_ofB_11 : decode cX10_ofB 11 = .ok (.iload_n 2, 1) := by decide +kernel
theorem dX10_ofB_12 : decode cX10_ofB 12 = .ok (.iadd, 1) := by decide +kernel
theorem dX10_ofB_13 : decode cX10_ofB 13 = .ok (.iaload, 1) := by decide +kernel
theorem dX10_ofB_14 : decode cX10_ofB 14 = .ok (.ireturn, 1) := by decide +kernel
theorem dX10_layB_0 : decode cX10_layB 0 = .ok (.aload_n 0, 1) := by decide +kernel
theorem dX10_layB_1 : decode cX10_layB 1 = .ok (.getfield 7, 3) := by decide +kernel
theorem dX10_layB_4 : decode cX10_layB 4 = .ok (.bipush 32, 2) := by decide +kernel
theorem dX10_layB_6 : decode cX10_layB 6 = .ok (.bipush 6, 2) := by decide +kernel
theorem dX10_layB_8 : decode cX10_layB 8 = .ok (.iload_n 1, 1) := by decide +kernel
theorem dX10_layB_9 : decode cX10_layB 9 = .ok (.imul, 1) := by decide +kernel
theorem dX10_layB_10 : decode cX10_layB 10 = .ok (.iadd, 1) := by decide +kernel
theorem dX10_layB_11 : decode cX10_layB 11 = .ok (.iload_n 2, 1) := by decide +kernel
theorem dX10_layB_12 : decode cX10_layB 12 = .ok (.iadd, 1) := by decide +kernel
theorem dX10_layB_13 : decode cX10_layB 13 = .ok (.iload_n 3, 1) := by decide +kernel
theorem dX10_layB_14 : decode cX10_layB 14 = .ok (.iastore, 1) := by decide +kernel
theorem dX10_layB_15 : decode cX10_layB 15 = .ok (.return_, 1) := by decide +kernel
theorem dX10_keep_0 : decode cX10_keep 0 = .ok (.aload_n 0, 1) := by decide +kernel
theorem dX10_keep_1 : decode cX10_keep 1 = .ok (.getfield 39, 3) := by decide +kernel
theorem dX10_keep_4 : decode cX10_keep 4 = .ok (.bipush 6, 2) := by decide +kernel
theorem dX10_keep_6 : decode cX10_keep 6 = .ok (.if_icmp .ne 26, 3) := by decide +kernel
theorem dX10_keep_9 : decode cX10_keep 9 = .ok (.aload_n 0, 1) := by decide +kernel
theorem dX10_keep_10 : decode cX10_keep 10 = .ok (.aload_n 0, 1) := by decide +kernel
theorem dX10_keep_11 : decode cX10_keep 11 = .ok (.getfield 42, 3) := by decide +kernel
theorem dX10_keep_14 : decode cX10_keep 14 = .ok (.iconst 1, 1) := by decide +kernel
theorem dX10_keep_15 : decode cX10_keep 15 = .ok (.iadd, 1) := by decide +kernel
theorem dX10_keep_16 : decode cX10_keep 16 = .ok (.bipush 6, 2) := by decide +kernel
theorem dX10_keep_18 : decode cX10_keep 18 = .ok (.irem, 1) := by decide +kernel
theorem dX10_keep_19 : decode cX10_keep 19 = .ok (.putfield 42, 3) := by decide +kernel
theorem dX10_keep_22 : decode cX10_keep 22 = .ok (.aload_n 0, 1) := by decide +kernel
theorem dX10_keep_23 : decode cX10_keep 23 = .ok (.dup, 1) := by decide +kernel
theorem dX10_keep_24 : decode cX10_keep 24 = .ok (.getfield 39, 3) := by decide +kernel
theorem dX10_keep_27 : decode cX10_keep 27 = .ok (.iconst 1, 1) := by decide +kernel
theorem dX10_keep_28 : decode cX10_keep 28 = .ok (.isub, 1) := by decide +kernel
theorem dX10_keep_29 : decode cX10_keep 29 = .ok (.putfield 39, 3) := by decide +kernel
theorem dX10_keep_32 : decode cX10_keep 32 = .ok (.aload_n 0, 1) := by decide +kernel
theorem dX10_keep_33 : decode cX10_keep 33 = .ok (.getfield 42, 3) := by decide +kernel
theorem dX10_keep_36 : decode cX10_keep 36 = .ok (.aload_n 0, 1) := by decide +kernel
theorem dX10_keep_37 : decode cX10_keep 37 = .ok (.getfield 39, 3) := by decide +kernel
theorem dX10_keep_40 : decode cX10_keep 40 = .ok (.iadd, 1) := by decide +kernel
theorem dX10_keep_41 : decode cX10_keep 41 = .ok (.bipush 6, 2) := by decide +kernel
theorem dX10_keep_43 : decode cX10_keep 43 = .ok (.irem, 1) := by decide +kernel
theorem dX10_keep_44 : decode cX10_keep 44 = .ok (.istore_n 1, 1) := by decide +kernel
theorem dX10_keep_45 : decode cX10_keep 45 = .ok (.iconst 0, 1) := by decide +kernel
theorem dX10_keep_46 : decode cX10_keep 46 = .ok (.istore_n 2, 1) := by decide +kernel
theorem dX10_keep_47 : decode cX10_keep 47 = .ok (.iload_n 2, 1) := by decide +kernel
theorem dX10_keep_48 : decode cX10_keep 48 = .ok (.sipush 672, 3) := by decide +kernel
theorem dX10_keep_51 : decode cX10_keep 51 = .ok (.if_icmp .ge 27, 3) := by decide +kernel
theorem dX10_keep_54 : decode cX10_keep 54 = .ok (.aload_n 0, 1) := by decide +kernel
theorem dX10_keep_55 : decode cX10_keep 55 = .ok (.getfield 13, 3) := by decide +kernel
theorem dX10_keep_58 : decode cX10_keep 58 = .ok (.sipush 672, 3) := by decide +kernel
theorem dX10_keep_61 : decode cX10_keep 61 = .ok (.iload_n 1, 1) := by decide +kernel
theorem dX10_keep_62 : decode cX10_keep 62 = .ok (.imul, 1) := by decide +kernel
theorem dX10_keep_63 : decode cX10_keep 63 = .ok (.iload_n 2, 1) := by decide +kernel
theorem dX10_keep_64 : decode cX10_keep 64 = .ok (.iadd, 1) := by decide +kernel
theorem dX10_keep_65 : decode cX10_keep 65 = .ok (.aload_n 0, 1) := by decide +kernel
theorem dX10_keep_66 : decode cX10_keep 66 = .ok (.getfield 7, 3) := by decide +kernel
theorem dX10_keep_69 : decode cX10_keep 69 = .ok (.iload_n 2, 1) := by decide +kernel
theorem dX10_keep_70 : decode cX10_keep 70 = .ok (.iaload, 1) := by decide +kernel
theorem dX10_keep_71 : decode cX10_keep 71 = .ok (.iastore, 1) := by decide +kernel
theorem dX10_keep_72 : decode cX10_keep 72 = .ok (.iinc 2 1, 3) := by decide +kernel
theorem dX10_keep_75 : decode cX10_keep 75 = .ok (.goto (-28), 3) := by decide +kernel
theorem dX10_keep_78 : decode cX10_keep 78 = .ok (.aload_n 0, 1) := by decide +kernel
theorem dX10_keep_79 : decode cX10_keep 79 = .ok (.dup, 1) := by decide +kernel
theorem dX10_keep_80 : decode cX10_keep 80 = .ok (.getfield 39, 3) := by decide +kernel
theorem dX10_keep_83 : decode cX10_keep 83 = .ok (.iconst 1, 1) := by decide +kernel
theorem dX10_keep_84 : decode cX10_keep 84 = .ok (.iadd, 1) := by decide +kernel
theorem dX10_keep_85 : decode cX10_keep 85 = .ok (.putfield 39, 3) := by decide +kernel
theorem dX10_keep_88 : decode cX10_keep 88 = .ok (.return_, 1) := by decide +kernel
theorem dX10_layAside_0 : decode cX10_layAside 0 = .ok (.iconst 0, 1) := by decide +kernel
theorem dX10_layAside_1 : decode cX10_layAside 1 = .ok (.istore_n 1, 1) := by decide +kernel
theorem dX10_layAside_2 : decode cX10_layAside 2 = .ok (.iload_n 1, 1) := by decide +kernel
theorem dX10_layAside_3 : decode cX10_layAside 3 = .ok (.sipush 672, 3) := by decide +kernel
theorem dX10_layAside_6 : decode cX10_layAside 6 = .ok (.if_icmp .ge 21, 3) := by decide +kernel
theorem dX10_layAside_9 : decode cX10_layAside 9 = .ok (.aload_n 0, 1) := by decide +kernel
theorem dX10_layAside_10 : decode cX10_layAside 10 = .ok (.getfield 23, 3) := by decide +kernel
theorem dX10_layAside_13 : decode cX10_layAside 13 = .ok (.iload_n 1, 1) := by decide +kernel
theorem dX10_layAside_14 : decode cX10_layAside 14 = .ok (.aload_n 0, 1) := by decide +kernel
theorem dX10_layAside_15 : decode cX10_layAside 15 = .ok (.getfield 7, 3) := by decide +kernel
theorem dX10_layAside_18 : decode cX10_layAside 18 = .ok (.iload_n 1, 1) := by decide +kernel
theorem dX10_layAside_19 : decode cX10_layAside 19 = .ok (.iaload, 1) := by decide +kernel
theorem dX10_layAside_20 : decode cX10_layAside 20 = .ok (.iastore, 1) := by decide +kernel
theorem dX10_layAside_21 : decode cX10_layAside 21 = .ok (.iinc 1 1, 3) := by decide +kernel
theorem dX10_layAside_24 : decode cX10_layAside 24 = .ok (.goto (-22), 3) := by decide +kernel
theorem dX10_layAside_27 : decode cX10_layAside 27 = .ok (.return_, 1) := by decide +kernel
theorem dX10_layBack_0 : decode cX10_layBack 0 = .ok (.iconst 0, 1) := by decide +kernel
theorem dX10_layBack_1 : decode cX10_layBack 1 = .ok (.istore_n 1, 1) := by decide +kernel
theorem dX10_layBack_2 : decode cX10_layBack 2 = .ok (.iload_n 1, 1) := by decide +kernel
theorem dX10_layBack_3 : decode cX10_layBack 3 = .ok (.sipush 672, 3) := by decide +kernel
theorem dX10_layBack_6 : decode cX10_layBack 6 = .ok (.if_icmp .ge 21, 3) := by decide +kernel
theorem dX10_layBack_9 : decode cX10_layBack 9 = .ok (.aload_n 0, 1) := by decide +kernel
theorem dX10_layBack_10 : decode cX10_layBack 10 = .ok (.getfield 7, 3) := by decide +kernel
theorem dX10_layBack_13 : decode cX10_layBack 13 = .ok (.iload_n 1, 1) := by decide +kernel
theorem dX10_layBack_14 : decode cX10_layBack 14 = .ok (.aload_n 0, 1) := by decide +kernel
theorem dX10_layBack_15 : decode cX10_layBack 15 = .ok (.getfield 23, 3) := by decide +kernel
theorem dX10_layBack_18 : decode cX10_layBack 18 = .ok (.iload_n 1, 1) := by decide +kernel
theorem dX10_layBack_19 : decode cX10_layBack 19 = .ok (.iaload, 1) := by decide +kernel
theorem dX10_layBack_20 : decode cX10_layBack 20 = .ok (.iastore, 1) := by decide +kernel
theorem dX10_layBack_21 : decode cX10_layBack 21 = .ok (.iinc 1 1, 3) := by decide +kernel
theorem dX10_layBack_24 : decode cX10_layBack 24 = .ok (.goto (-22), 3) := by decide +kernel
theorem dX10_layBack_27 : decode cX10_layBack 27 = .ok (.return_, 1) := by decide +kernel
theorem dX10_halfWindow_0 : decode cX10_halfWindow 0 = .ok (.aload_n 0, 1) := by decide +kernel
theorem dX10_halfWindow_1 : decode cX10_halfWindow 1 = .ok (.getfield 7, 3) := by decide +kernel
theorem dX10_halfWindow_4 : decode cX10_halfWindow 4 = .ok (.bipush 10, 2) := by decide +kernel
theorem dX10_halfWindow_6 : decode cX10_halfWindow 6 = .ok (.iaload, 1) := by decide +kernel
theorem dX10_halfWindow_7 : decode cX10_halfWindow 7 = .ok (.aload_n 0, 1) := by decide +kernel
theorem dX10_halfWindow_8 : decode cX10_halfWindow 8 = .ok (.getfield 7, 3) := by decide +kernel
theorem dX10_halfWindow_11 : decode cX10_halfWindow 11 = .ok (.iconst 1, 1) := by decide +kernel
theorem dX10_halfWindow_12 : decode cX10_halfWindow 12 = .ok (.iaload, 1) := by decide +kernel
theorem dX10_halfWindow_13 : decode cX10_halfWindow 13 = .ok (.imul, 1) := by decide +kernel
theorem dX10_halfWindow_14 : decode cX10_halfWindow 14 = .ok (.bipush 100, 2) := by decide +kernel
theorem dX10_halfWindow_16 : decode cX10_halfWindow 16 = .ok (.idiv, 1) := by decide +kernel
theorem dX10_halfWindow_17 : decode cX10_halfWindow 17 = .ok (.ireturn, 1) := by decide +kernel
theorem dX10_strike_0 : decode cX10_strike 0 = .ok (.aload_n 0, 1) := by decide +kernel
theorem dX10_strike_1 : decode cX10_strike 1 = .ok (.getfield 7, 3) := by decide +kernel
theorem dX10_strike_4 : decode cX10_strike 4 = .ok (.bipush 12, 2) := by decide +kernel
theorem dX10_strike_6 : decode cX10_strike 6 = .ok (.iaload, 1) := by decide +kernel
theorem dX10_strike_7 : decode cX10_strike 7 = .ok (.istore_n 3, 1) := by decide +kernel
theorem dX10_strike_8 : decode cX10_strike 8 = .ok (.sipush 416, 3) := by decide +kernel
theorem dX10_strike_11 : decode cX10_strike 11 = .ok (.iconst 4, 1) := by decide +kernel
theorem dX10_strike_12 : decode cX10_strike 12 = .ok (.iload_n 3, 1) := by decide +kernel
theorem dX10_strike_13 : decode cX10_strike 13 = .ok (.bipush 64, 2) := by decide +kernel
theorem dX10_strike_15 : decode cX10_strike 15 = .ok (.irem, 1) := by decide +kernel
theorem dX10_strike_16 : decode cX10_strike 16 = .ok (.imul, 1) := by decide +kernel
theorem dX10_strike_17 : decode cX10_strike 17 = .ok (.iadd, 1) := by decide +kernel
theorem dX10_strike_18 : decode cX10_strike 18 = .ok (.istore 4, 2) := by decide +kernel
theorem dX10_strike_20 : decode cX10_strike 20 = .ok (.aload_n 0, 1) := by decide +kernel
theorem dX10_strike_21 : decode cX10_strike 21 = .ok (.getfield 7, 3) := by decide +kernel
theorem dX10_strike_24 : decode cX10_strike 24 = .ok (.iload 4, 2) := by decide +kernel
theorem dX10_strike_26 : decode cX10_strike 26 = .ok (.iload_n 1, 1) := by decide +kernel
theorem dX10_strike_27 : decode cX10_strike 27 = .ok (.iastore, 1) := by decide +kernel
theorem dX10_strike_28 : decode cX10_strike 28 = .ok (.aload_n 0, 1) := by decide +kernel
theorem dX10_strike_29 : decode cX10_strike 29 = .ok (.getfield 7, 3) := by decide +kernel
theorem dX10_strike_32 : decode cX10_strike 32 = .ok (.iload 4, 2) := by decide +kernel
theorem dX10_strike_34 : decode cX10_strike 34 = .ok (.iconst 1, 1) := by decide +kernel
theorem dX10_strike_35 : decode cX10_strike 35 = .ok (.iadd, 1) := by decide +kernel
theorem dX10_strike_36 : decode cX10_strike 36 = .ok (.iload_n 2, 1) := by decide +kernel
theorem dX10_strike_37 : decode cX10_strike 37 = .ok (.iastore, 1) := by decide +kernel
theorem dX10_strike_38 : decode cX10_strike 38 = .ok (.aload_n 0, 1) := by decide +kernel
theorem dX10_strike_39 : decode cX10_strike 39 = .ok (.getfield 7, 3) := by decide +kernel
theorem dX10_strike_42 : decode cX10_strike 42 = .ok (.bipush 12, 2) := by decide +kernel
theorem dX10_strike_44 : decode cX10_strike 44 = .ok (.dup2, 1) := by decide +kernel
theorem dX10_strike_45 : decode cX10_strike 45 = .ok (.iaload, 1) := by decide +kernel
theorem dX10_strike_46 : decode cX10_strike 46 = .ok (.iconst 1, 1) := by decide +kernel
theorem dX10_strike_47 : decode cX10_strike 47 = .ok (.iadd, 1) := by decide +kernel
theorem dX10_strike_48 : decode cX10_strike 48 = .ok (.iastore, 1) := by decide +kernel
theorem dX10_strike_49 : decode cX10_strike 49 = .ok (.iload_n 3, 1) := by decide +kernel
theorem dX10_strike_50 : decode cX10_strike 50 = .ok (.ireturn, 1) := by decide +kernel
theorem dX10_endBlow_0 : decode cX10_endBlow 0 = .ok (.sipush 416, 3) := by decide +kernel
theorem dX10_endBlow_3 : decode cX10_endBlow 3 = .ok (.iconst 4, 1) := by decide +kernel
theorem dX10_endBlow_4 : decode cX10_endBlow 4 = .ok (.aload_n 0, 1) := by decide +kernel
theorem dX10_endBlow_5 : decode cX10_endBlow 5 = .ok (.getfield 7, 3) := by decide +kernel
theorem dX10_endBlow_8 : decode cX10_endBlow 8 = .ok (.bipush 12, 2) := by decide +kernel
theorem dX10_endBlow_10 : decode cX10_endBlow 10 = .ok (.iaload, 1) := by decide +kernel
theorem dX10_endBlow_11 : decode cX10_endBlow 11 = .ok (.iconst 1, 1) := by decide +kernel
theorem dX10_endBlow_12 : decode cX10_endBlow 12 = .ok (.isub, 1) := by decide +kernel
theorem dX10_endBlow_13 : decode cX10_endBlow 13 = .ok (.bipush 64, 2) := by decide +kernel
theorem dX10_endBlow_15 : decode cX10_endBlow 15 = .ok (.irem, 1) := by decide +kernel
theorem dX10_endBlow_16 : decode cX10_endBlow 16 = .ok (.imul, 1) := by decide +kernel
theorem dX10_endBlow_17 : decode cX10_endBlow 17 = .ok (.iadd, 1) := by decide +kernel
theorem dX10_endBlow_18 : decode cX10_endBlow 18 = .ok (.istore_n 1, 1) := by decide +kernel
theorem dX10_endBlow_19 : decode cX10_endBlow 19 = .ok (.aload_n 0, 1) := by decide +kernel
theorem dX10_endBlow_20 : decode cX10_endBlow 20 = .ok (.getfield 7, 3) := by decide +kernel
theorem dX10_endBlow_23 : decode cX10_endBlow 23 = .ok (.iload_n 1, 1) := by decide +kernel
theorem dX10_endBlow_24 : decode cX10_endBlow 24 = .ok (.iconst 2, 1) := by decide +kernel
theorem dX10_endBlow_25 : decode cX10_endBlow 25 = .ok (.iadd, 1) := by decide +kernel
theorem dX10_endBlow_26 : decode cX10_endBlow 26 = .ok (.aload_n 0, 1) := by decide +kernel
theorem dX10_endBlow_27 : decode cX10_endBlow 27 = .ok (.getfield 7, 3) := by decide +kernel
theorem dX10_endBlow_30 : decode cX10_endBlow 30 = .ok (.bipush 10, 2) := by decide +kernel
theorem dX10_endBlow_32 : decode cX10_endBlow 32 = .ok (.iaload, 1) := by decide +kernel
theorem dX10_endBlow_33 : decode cX10_endBlow 33 = .ok (.iastore, 1) := by decide +kernel
theorem dX10_endBlow_34 : decode cX10_endBlow 34 = .ok (.aload_n 0, 1) := by decide +kernel
theorem dX10_endBlow_35 : decode cX10_endBlow 35 = .ok (.getfield 7, 3) := by decide +kernel
theorem dX10_endBlow_38 : decode cX10_endBlow 38 = .ok (.iload_n 1, 1) := by decide +kernel
theorem dX10_endBlow_39 : decode cX10_endBlow 39 = .ok (.iconst 3, 1) := by decide +kernel
theorem dX10_endBlow_40 : decode cX10_endBlow 40 = .ok (.iadd, 1) := by decide +kernel
theorem dX10_endBlow_41 : decode cX10_endBlow 41 = .ok (.aload_n 0, 1) := by decide +kernel
theorem dX10_endBlow_42 : decode cX10_endBlow 42 = .ok (.getfield 7, 3) := by decide +kernel
theorem dX10_endBlow_45 : decode cX10_endBlow 45 = .ok (.bipush 9, 2) := by decide +kernel
theorem dX10_endBlow_47 : decode cX10_endBlow 47 = .ok (.iaload, 1) := by decide +kernel
theorem dX10_endBlow_48 : decode cX10_endBlow 48 = .ok (.iastore, 1) := by decide +kernel
theorem dX10_endBlow_49 : decode cX10_endBlow 49 = .ok (.return_, 1) := by decide +kernel
set_option maxRecDepth 20000 in
theorem ggX10_become_X10_layB : GoodIn wsX10_become wsX10_layB := goodIn_r _ [5, 6, 7, 8, 9, 10, 11, 12, 13, 14, 15, 16, 17, 18, 19, 20, 21, 22, 23, 24] (by decide +kernel) (by decide +kernel)
set_option maxRecDepth 20000 in
theorem gX10_become_X10_layB : GoodIn wsX10_become (wsV RX10 45 RX10 yX10_layB wsX10_layB) := goodIn_app (goodIn_of _ (by decide +kernel)) ggX10_become_X10_layB
theorem dX10_become_0 : decode cX10_become 0 = .ok (.aload_n 0, 1) := by decide +kernel
theorem dX10_become_1 : decode cX10_become 1 = .ok (.iload_n 1, 1) := by decide +kernel
theorem dX10_become_2 : decode cX10_become 2 = .ok (.iconst 2, 1) := by decide +kernel
theorem dX10_become_3 : decode cX10_become 3 = .ok (.iload_n 2, 1) := by decide +kernel
theorem dX10_become_4 : decode cX10_become 4 = .ok (.invokevirtual 45, 3) := by decide +kernel
theorem dX10_become_7 : decode cX10_become 7 = .ok (.aload_n 0, 1) := by decide +kernel
theorem dX10_become_8 : decode cX10_become 8 = .ok (.iload_n 1, 1) := by decide +kernel
theorem dX10_become_9 : decode cX10_become 9 = .ok (.iconst 3, 1) := by decide +kernel
theorem dX10_become_10 : decode cX10_become 10 = .ok (.iload_n 3, 1) := by decide +kernel
theorem dX10_become_11 : decode cX10_become 11 = .ok (.invokevirtual 45, 3) := by decide +kernel
theorem dX10_become_14 : decode cX10_become 14 = .ok (.aload_n 0, 1) := by decide +kernel
theorem dX10_become_15 : decode cX10_become 15 = .ok (.iload_n 1, 1) := by decide +kernel
theorem dX10_become_16 : decode cX10_become 16 = .ok (.iconst 4, 1) := by decide +kernel
theorem dX10_become_17 : decode cX10_become 17 = .ok (.iload 4, 2) := by decide +kernel
theorem dX10_become_19 : decode cX10_become 19 = .ok (.invokevirtual 45, 3) := by decide +kernel
theorem dX10_become_22 : decode cX10_become 22 = .ok (.aload_n 0, 1) := by decide +kernel
theorem dX10_become_23 : decode cX10_become 23 = .ok (.iload_n 1, 1) := by decide +kernel
theorem dX10_become_24 : decode cX10_become 24 = .ok (.iconst 5, 1) := by decide +kernel
theorem dX10_become_25 : decode cX10_become 25 = .ok (.iload 5, 2) := by decide +kernel
theorem dX10_become_27 : decode cX10_become 27 = .ok (.invokevirtual 45, 3) := by decide +kernel
theorem dX10_become_30 : decode cX10_become 30 = .ok (.return_, 1) := by decide +kernel
theorem dX10_loseLock_0 : decode cX10_loseLock 0 = .ok (.aload_n 0, 1) := by decide +kernel
theorem dX10_loseLock_1 : decode cX10_loseLock 1 = .ok (.getfield 7, 3) := by decide +kernel
theorem dX10_loseLock_4 : decode cX10_loseLock 4 = .ok (.bipush 17, 2) := by decide +kernel
theorem dX10_loseLock_6 : decode cX10_loseLock 6 = .ok (.dup2, 1) := by decide +kernel
theorem dX10_loseLock_7 : decode cX10_loseLock 7 = .ok (.iaload, 1) := by decide +kernel
theorem dX10_loseLock_8 : decode cX10_loseLock 8 = .ok (.iconst 1, 1) := by decide +kernel
theorem dX10_loseLock_9 : decode cX10_loseLock 9 = .ok (.iadd, 1) := by decide +kernel
theorem dX10_loseLock_10 : decode cX10_loseLock 10 = .ok (.iastore, 1) := by decide +kernel
theorem dX10_loseLock_11 : decode cX10_loseLock 11 = .ok (.aload_n 0, 1) := by decide +kernel
theorem dX10_loseLock_12 : decode cX10_loseLock 12 = .ok (.getfield 7, 3) := by decide +kernel
theorem dX10_loseLock_15 : decode cX10_loseLock 15 = .ok (.bipush 9, 2) := by decide +kernel
theorem dX10_loseLock_17 : decode cX10_loseLock 17 = .ok (.iconst 0, 1) := by decide +kernel
theorem dX10_loseLock_18 : decode cX10_loseLock 18 = .ok (.iastore, 1) := by decide +kernel
theorem dX10_loseLock_19 : decode cX10_loseLock 19 = .ok (.aload_n 0, 1) := by decide +kernel
theorem dX10_loseLock_20 : decode cX10_loseLock 20 = .ok (.getfield 7, 3) := by decide +kernel
theorem dX10_loseLock_23 : decode cX10_loseLock 23 = .ok (.bipush 19, 2) := by decide +kernel
theorem dX10_loseLock_25 : decode cX10_loseLock 25 = .ok (.iconst 0, 1) := by decide +kernel
theorem dX10_loseLock_26 : decode cX10_loseLock 26 = .ok (.iastore, 1) := by decide +kernel
theorem dX10_loseLock_27 : decode cX10_loseLock 27 = .ok (.aload_n 0, 1) := by decide +kernel
theorem dX10_loseLock_28 : decode cX10_loseLock 28 = .ok (.getfield 7, 3) := by decide +kernel
theorem dX10_loseLock_31 : decode cX10_loseLock 31 = .ok (.bipush 20, 2) := by decide +kernel
theorem dX10_loseLock_33 : decode cX10_loseLock 33 = .ok (.iconst 0, 1) := by decide +kernel
theorem dX10_loseLock_34 : decode cX10_loseLock 34 = .ok (.iastore, 1) := by decide +kernel
theorem dX10_loseLock_35 : decode cX10_loseLock 35 = .ok (.return_, 1) := by decide +kernel
set_option maxRecDepth 20000 in
theorem ggX10_judge_X10_loseLock : GoodIn wsX10_judge wsX10_loseLock := goodIn_r _ [6, 1, 7, 8, 9, 10, 11, 12, 13, 14, 15, 16, 17, 18, 19, 20, 21, 22, 23, 24] (by decide +kernel) (by decide +kernel)
set_option maxRecDepth 20000 in
theorem gX10_judge_X10_loseLock : GoodIn wsX10_judge (wsV RX10 49 RX10 yX10_loseLock wsX10_loseLock) := goodIn_app (goodIn_of _ (by decide +kernel)) ggX10_judge_X10_loseLock
theorem dX10_judge_0 : decode cX10_judge 0 = .ok (.aload_n 0, 1) := by decide +kernel
theorem dX10_judge_1 : decode cX10_judge 1 = .ok (.getfield 7, 3) := by decide +kernel
theorem dX10_judge_4 : decode cX10_judge 4 = .ok (.bipush 19, 2) := by decide +kernel
theorem dX10_judge_6 : decode cX10_judge 6 = .ok (.iload_n 1, 1) := by decide +kernel
theorem dX10_judge_7 : decode cX10_judge 7 = .ok (.ifCond .eq 15, 3) := by decide +kernel
theorem dX10_judge_10 : decode cX10_judge 10 = .ok (.aload_n 0, 1) := by decide +kernel
theorem dX10_judge_11 : decode cX10_judge 11 = .ok (.getfield 7, 3) := by decide +kernel
theorem dX10_judge_14 : decode cX10_judge 14 = .ok (.bipush 19, 2) := by decide +kernel
theorem dX10_judge_16 : decode cX10_judge 16 = .ok (.iaload, 1) := by decide +kernel
theorem dX10_judge_17 : decode cX10_judge 17 = .ok (.iconst 1, 1) := by decide +kernel
theorem dX10_judge_18 : decode cX10_judge 18 = .ok (.iadd, 1) := by decide +kernel
theorem dX10_judge_19 : decode cX10_judge 19 = .ok (.goto 4, 3) := by decide +kernel
theorem dX10_judge_22 : decode cX10_judge 22 = .ok (.iconst 0, 1) := by decide +kernel
theorem dX10_judge_23 : decode cX10_judge 23 = .ok (.iastore, 1) := by decide +kernel
theorem dX10_judge_24 : decode cX10_judge 24 = .ok (.aload_n 0, 1) := by decide +kernel
theorem dX10_judge_25 : decode cX10_judge 25 = .ok (.getfield 7, 3) := by decide +kernel
theorem dX10_judge_28 : decode cX10_judge 28 = .ok (.bipush 20, 2) := by decide +kernel
theorem dX10_judge_30 : decode cX10_judge 30 = .ok (.iload_n 1, 1) := by decide +kernel
theorem dX10_judge_31 : decode cX10_judge 31 = .ok (.ifCond .eq 7, 3) := by decide +kernel
theorem dX10_judge_34 : decode cX10_judge 34 = .ok (.iconst 0, 1) := by decide +kernel
theorem dX10_judge_35 : decode cX10_judge 35 = .ok (.goto 12, 3) := by decide +kernel
theorem dX10_judge_38 : decode cX10_judge 38 = .ok (.aload_n 0, 1) := by decide +kernel
theorem dX10_judge_39 : decode cX10_judge 39 = .ok (.getfield 7, 3) := by decide +kernel
theorem dX10_judge_42 : decode cX10_judge 42 = .ok (.bipush 20, 2) := by decide +kernel
theorem dX10_judge_44 : decode cX10_judge 44 = .ok (.iaload, 1) := by decide +kernel
theorem dX10_judge_45 : decode cX10_judge 45 = .ok (.iconst 1, 1) := by decide +kernel
theorem dX10_judge_46 : decode cX10_judge 46 = .ok (.iadd, 1) := by decide +kernel
theorem dX10_judge_47 : decode cX10_judge 47 = .ok (.iastore, 1) := by decide +kernel
theorem dX10_judge_48 : decode cX10_judge 48 = .ok (.aload_n 0, 1) := by decide +kernel
theorem dX10_judge_49 : decode cX10_judge 49 = .ok (.getfield 7, 3) := by decide +kernel
theorem dX10_judge_52 : decode cX10_judge 52 = .ok (.bipush 9, 2) := by decide +kernel
theorem dX10_judge_54 : decode cX10_judge 54 = .ok (.iaload, 1) := by decide +kernel
theorem dX10_judge_55 : decode cX10_judge 55 = .ok (.iconst 1, 1) := by decide +kernel
theorem dX10_judge_56 : decode cX10_judge 56 = .ok (.if_icmp .eq 42, 3) := by decide +kernel
theorem dX10_judge_59 : decode cX10_judge 59 = .ok (.iload_n 2, 1) := by decide +kernel
theorem dX10_judge_60 : decode cX10_judge 60 = .ok (.ifCond .eq 38, 3) := by decide +kernel
theorem dX10_judge_63 : decode cX10_judge 63 = .ok (.aload_n 0, 1) := by decide +kernel
theorem dX10_judge_64 : decode cX10_judge 64 = .ok (.getfield 7, 3) := by decide +kernel
theorem dX10_judge_67 : decode cX10_judge 67 = .ok (.bipush 19, 2) := by decide +kernel
theorem dX10_judge_69 : decode cX10_judge 69 = .ok (.iaload, 1) := by decide +kernel
theorem dX10_judge_70 : decode cX10_judge 70 = .ok (.aload_n 0, 1) := by decide +kernel
theorem dX10_judge_71 : decode cX10_judge 71 = .ok (.getfield 7, 3) := by decide +kernel
theorem dX10_judge_74 : decode cX10_judge 74 = .ok (.iconst 5, 1) := by decide +kernel
theorem dX10_judge_75 : decode cX10_judge 75 = .ok (.iaload, 1) := by decide +kernel
theorem dX10_judge_76 : decode cX10_judge 76 = .ok (.if_icmp .lt 22, 3) := by decide +kernel
theorem dX10_judge_79 : decode cX10_judge 79 = .ok (.aload_n 0, 1) := by decide +kernel
theorem dX10_judge_80 : decode cX10_judge 80 = .ok (.getfield 7, 3) := by decide +kernel
theorem dX10_judge_83 : decode cX10_judge 83 = .ok (.bipush 9, 2) := by decide +kernel
theorem dX10_judge_85 : decode cX10_judge 85 = .ok (.iconst 1, 1) := by decide +kernel
theorem dX10_judge_86 : decode cX10_judge 86 = .ok (.iastore, 1) := by decide +kernel
theorem dX10_judge_87 : decode cX10_judge 87 = .ok (.aload_n 0, 1) := by decide +kernel
theorem dX10_judge_88 : decode cX10_judge 88 = .ok (.getfield 7, 3) := by decide +kernel
theorem dX10_judge_91 : decode cX10_judge 91 = .ok (.bipush 16, 2) := by decide +kernel
theorem dX10_judge_93 : decode cX10_judge 93 = .ok (.dup2, 1) := by decide +kernel
theorem dX10_judge_94 : decode cX10_judge 94 = .ok (.iaload, 1) := by decide +kernel
theorem dX10_judge_95 : decode cX10_judge 95 = .ok (.iconst 1, 1) := by decide +kernel
theorem dX10_judge_96 : decode cX10_judge 96 = .ok (.iadd, 1) := by decide +kernel
theorem dX10_judge_97 : decode cX10_judge 97 = .ok (.iastore, 1) := by decide +kernel
theorem dX10_judge_98 : decode cX10_judge 98 = .ok (.aload_n 0, 1) := by decide +kernel
theorem dX10_judge_99 : decode cX10_judge 99 = .ok (.getfield 7, 3) := by decide +kernel
theorem dX10_judge_102 : decode cX10_judge 102 = .ok (.bipush 9, 2) := by decide +kernel
theorem dX10_judge_104 : decode cX10_judge 104 = .ok (.iaload, 1) := by decide +kernel
theorem dX10_judge_105 : decode cX10_judge 105 = .ok (.ifCond .eq 24, 3) := by decide +kernel
theorem dX10_judge_108 : decode cX10_judge 108 = .ok (.aload_n 0, 1) := by decide +kernel
theorem dX10_judge_109 : decode cX10_judge 109 = .ok (.getfield 7, 3) := by decide +kernel
theorem dX10_judge_112 : decode cX10_judge 112 = .ok (.bipush 20, 2) := by decide +kernel
theorem dX10_judge_114 : decode cX10_judge 114 = .ok (.iaload, 1) := by decide +kernel
theorem dX10_judge_115 : decode cX10_judge 115 = .ok (.aload_n 0, 1) := by decide +kernel
theorem dX10_judge_116 : decode cX10_judge 116 = .ok (.getfield 7, 3) := by decide +kernel
theorem dX10_judge_119 : decode cX10_judge 119 = .ok (.bipush 6, 2) := by decide +kernel
theorem dX10_judge_121 : decode cX10_judge 121 = .ok (.iaload, 1) := by decide +kernel
theorem dX10_judge_122 : decode cX10_judge 122 = .ok (.if_icmp .lt 7, 3) := by decide +kernel
theorem dX10_judge_125 : decode cX10_judge 125 = .ok (.aload_n 0, 1) := by decide +kernel
theorem dX10_judge_126 : decode cX10_judge 126 = .ok (.invokevirtual 49, 3) := by decide +kernel
theorem dX10_judge_129 : decode cX10_judge 129 = .ok (.return_, 1) := by decide +kernel
set_option maxRecDepth 20000 in
theorem ggX10_begin_X10_ofB : GoodIn wsX10_begin wsX10_ofB := goodIn_r _ [6, 1, 23, 24, 25, 26, 27, 28, 29, 30, 31, 32, 33, 34, 35, 36, 37, 38, 39, 40] (by decide +kernel) (by decide +kernel)
set_option maxRecDepth 20000 in
theorem gX10_begin_X10_ofB : GoodIn wsX10_begin (wsV RX10 52 RX10 yX10_ofB wsX10_ofB) := goodIn_app (goodIn_of _ (by decide +kernel)) ggX10_begin_X10_ofB
set_option maxRecDepth 20000 in
theorem ggX10_begin_X10_strike : GoodIn wsX10_begin wsX10_strike := goodIn_r _ [10, 1, 23, 24, 25, 26, 27, 28, 29, 30, 31, 32, 33, 34, 35, 36, 37, 38, 39, 40] (by decide +kernel) (by decide +kernel)
set_option maxRecDepth 20000 in
theorem gX10_begin_X10_strike : GoodIn wsX10_begin (wsV RX10 56 RX10 yX10_strike wsX10_strike) := goodIn_app (goodIn_of _ (by decide +kernel)) ggX10_begin_X10_strike
set_option maxRecDepth 20000 in
theorem ggX10_begin_X10_become : GoodIn wsX10_begin wsX10_become := goodIn_r _ [14, 15, 16, 17, 5, 18, 1, 23, 24, 25, 26, 27, 28, 29, 30, 31, 32, 33, 34, 35, 36, 37, 38, 39, 40] (by decide +kernel) (by decide +kernel)
set_option maxRecDepth 20000 in
theorem gX10_begin_X10_become : GoodIn wsX10_begin (wsV RX10 59 RX10 yX10_become wsX10_become) := goodIn_app (goodIn_of _ (by decide +kernel)) ggX10_begin_X10_become
set_option maxRecDepth 20000 in
theorem ggX10_begin_X10_endBlow : GoodIn wsX10_begin wsX10_endBlow := goodIn_r _ [22, 1, 23, 24, 25, 26, 27, 28, 29, 30, 31, 32, 33, 34, 35, 36, 37, 38, 39, 40] (by decide +kernel) (by decide +kernel)
set_option maxRecDepth 20000 in
theorem gX10_begin_X10_endBlow : GoodIn wsX10_begin (wsV RX10 63 RX10 yX10_endBlow wsX10_endBlow) := goodIn_app (goodIn_of _ (by decide +kernel)) ggX10_begin_X10_endBlow
theorem dX10_begin_0 : decode cX10_begin 0 = .ok (.aload_n 0, 1) := by decide +kernel
theorem dX10_begin_1 : decode cX10_begin 1 = .ok (.iconst 4, 1) := by decide +kernel
theorem dX10_begin_2 : decode cX10_begin 2 = .ok (.aload_n 0, 1) := by decide +kernel
theorem dX10_begin_3 : decode cX10_begin 3 = .ok (.iload_n 1, 1) := by decide +kernel
theorem dX10_begin_4 : decode cX10_begin 4 = .ok (.iconst 0, 1) := by decide +kernel
theorem dX10_begin_5 : decode cX10_begin 5 = .ok (.invokevirtual 52, 3) := by decide +kernel
theorem dX10_begin_8 : decode cX10_begin 8 = .ok (.imul, 1) := by decide +kernel
theorem dX10_begin_9 : decode cX10_begin 9 = .ok (.iload_n 1, 1) := by decide +kernel
theorem dX10_begin_10 : decode cX10_begin 10 = .ok (.invokevirtual 56, 3) := by decide +kernel
theorem dX10_begin_13 : decode cX10_begin 13 = .ok (.istore_n 2, 1) := by decide +kernel
theorem dX10_begin_14 : decode cX10_begin 14 = .ok (.aload_n 0, 1) := by decide +kernel
theorem dX10_begin_15 : decode cX10_begin 15 = .ok (.getfield 7, 3) := by decide +kernel
theorem dX10_begin_18 : decode cX10_begin 18 = .ok (.bipush 11, 2) := by decide +kernel
theorem dX10_begin_20 : decode cX10_begin 20 = .ok (.iconst 4, 1) := by decide +kernel
theorem dX10_begin_21 : decode cX10_begin 21 = .ok (.aload_n 0, 1) := by decide +kernel
theorem dX10_begin_22 : decode cX10_begin 22 = .ok (.iload_n 1, 1) := by decide +kernel
theorem dX10_begin_23 : decode cX10_begin 23 = .ok (.iconst 0, 1) := by decide +kernel
theorem dX10_begin_24 : decode cX10_begin 24 = .ok (.invokevirtual 52, 3) := by decide +kernel
theorem dX10_begin_27 : decode cX10_begin 27 = .ok (.imul, 1) := by decide +kernel
theorem dX10_begin_28 : decode cX10_begin 28 = .ok (.aload_n 0, 1) := by decide +kernel
theorem dX10_begin_29 : decode cX10_begin 29 = .ok (.getfield 7, 3) := by decide +kernel
theorem dX10_begin_32 : decode cX10_begin 32 = .ok (.bipush 10, 2) := by decide +kernel
theorem dX10_begin_34 : decode cX10_begin 34 = .ok (.iaload, 1) := by decide +kernel
theorem dX10_begin_35 : decode cX10_begin 35 = .ok (.iadd, 1) := by decide +kernel
theorem dX10_begin_36 : decode cX10_begin 36 = .ok (.iastore, 1) := by decide +kernel
theorem dX10_begin_37 : decode cX10_begin 37 = .ok (.aload_n 0, 1) := by decide +kernel
theorem dX10_begin_38 : decode cX10_begin 38 = .ok (.getfield 7, 3) := by decide +kernel
theorem dX10_begin_41 : decode cX10_begin 41 = .ok (.bipush 25, 2) := by decide +kernel
theorem dX10_begin_43 : decode cX10_begin 43 = .ok (.aload_n 0, 1) := by decide +kernel
theorem dX10_begin_44 : decode cX10_begin 44 = .ok (.iload_n 1, 1) := by decide +kernel
theorem dX10_begin_45 : decode cX10_begin 45 = .ok (.iconst 1, 1) := by decide +kernel
theorem dX10_begin_46 : decode cX10_begin 46 = .ok (.invokevirtual 52, 3) := by decide +kernel
theorem dX10_begin_49 : decode cX10_begin 49 = .ok (.iload_n 2, 1) := by decide +kernel
theorem dX10_begin_50 : decode cX10_begin 50 = .ok (.isub, 1) := by decide +kernel
theorem dX10_begin_51 : decode cX10_begin 51 = .ok (.iastore, 1) := by decide +kernel
theorem dX10_begin_52 : decode cX10_begin 52 = .ok (.aload_n 0, 1) := by decide +kernel
theorem dX10_begin_53 : decode cX10_begin 53 = .ok (.iload_n 1, 1) := by decide +kernel
theorem dX10_begin_54 : decode cX10_begin 54 = .ok (.iconst 3, 1) := by decide +kernel
theorem dX10_begin_55 : decode cX10_begin 55 = .ok (.iload_n 2, 1) := by decide +kernel
theorem dX10_begin_56 : decode cX10_begin 56 = .ok (.bipush (-6), 2) := by decide +kernel
theorem dX10_begin_58 : decode cX10_begin 58 = .ok (.iconst 0, 1) := by decide +kernel
theorem dX10_begin_59 : decode cX10_begin 59 = .ok (.invokevirtual 59, 3) := by decide +kernel
theorem dX10_begin_62 : decode cX10_begin 62 = .ok (.aload_n 0, 1) := by decide +kernel
theorem dX10_begin_63 : decode cX10_begin 63 = .ok (.invokevirtual 63, 3) := by decide +kernel
theorem dX10_begin_66 : decode cX10_begin 66 = .ok (.return_, 1) := by decide +kernel
set_option maxRecDepth 20000 in
theorem ggX10_takeBeat_X10_strike : GoodIn wsX10_takeBeat wsX10_strike := goodIn_r _ [6, 1, 37, 38, 39, 40, 41, 42, 43, 44, 45, 46, 47, 48, 49, 50, 51, 52, 53, 54] (by decide +kernel) (by decide +kernel)
set_option maxRecDepth 20000 in
theorem gX10_takeBeat_X10_strike : GoodIn wsX10_takeBeat (wsV RX10 56 RX10 yX10_strike wsX10_strike) := goodIn_app (goodIn_of _ (by decide +kernel)) ggX10_takeBeat_X10_strike
set_option maxRecDepth 20000 in
theorem ggX10_takeBeat_X10_part : GoodIn wsX10_takeBeat wsX10_part := goodIn_r _ [9] (by decide +kernel) (by decide +kernel)
set_option maxRecDepth 20000 in
theorem gX10_takeBeat_X10_part : GoodIn wsX10_takeBeat (va_wsS RX10 66 yX10_part wsX10_part) := goodIn_app (goodIn_of _ (by decide +kernel)) ggX10_takeBeat_X10_part
set_option maxRecDepth 20000 in
theorem ggX10_takeBeat_X10_ofB : GoodIn wsX10_takeBeat wsX10_ofB := goodIn_r _ [13, 1, 37, 38, 39, 40, 41, 42, 43, 44, 45, 46, 47, 48, 49, 50, 51, 52, 53, 54] (by decide +kernel) (by decide +kernel)
set_option maxRecDepth 20000 in
theorem gX10_takeBeat_X10_ofB : GoodIn wsX10_takeBeat (wsV RX10 52 RX10 yX10_ofB wsX10_ofB) := goodIn_app (goodIn_of _ (by decide +kernel)) ggX10_takeBeat_X10_ofB
set_option maxRecDepth 20000 in
theorem ggX10_takeBeat_X10_size : GoodIn wsX10_takeBeat wsX10_size := goodIn_r _ [16] (by decide +kernel) (by decide +kernel)
set_option maxRecDepth 20000 in
theorem gX10_takeBeat_X10_size : GoodIn wsX10_takeBeat (va_wsS RX10 69 yX10_size wsX10_size) := goodIn_app (goodIn_of _ (by decide +kernel)) ggX10_takeBeat_X10_size
set_option maxRecDepth 20000 in
theorem ggX10_takeBeat_X10_become : GoodIn wsX10_takeBeat wsX10_become := goodIn_r _ [20, 21, 22, 23, 5, 24, 1, 37, 38, 39, 40, 41, 42, 43, 44, 45, 46, 47, 48, 49, 50, 51, 52, 53, 54] (by decide +kernel) (by decide +kernel)
set_option maxRecDepth 20000 in
theorem gX10_takeBeat_X10_become : GoodIn wsX10_takeBeat (wsV RX10 59 RX10 yX10_become wsX10_become) := goodIn_app (goodIn_of _ (by decide +kernel)) ggX10_takeBeat_X10_become
set_option maxRecDepth 20000 in
theorem ggX10_takeBeat_X10_judge : GoodIn wsX10_takeBeat wsX10_judge := goodIn_r _ [28, 1, 29, 30, 31, 5, 32, 37, 38, 39, 40, 41, 42, 43, 44, 45, 46, 47, 48, 49, 50, 51, 52, 53, 54] (by decide +kernel) (by decide +kernel)
set_option maxRecDepth 20000 in
theorem gX10_takeBeat_X10_judge : GoodIn wsX10_takeBeat (wsV RX10 73 RX10 yX10_judge wsX10_judge) := goodIn_app (goodIn_of _ (by decide +kernel)) ggX10_takeBeat_X10_judge
set_option maxRecDepth 20000 in
theorem ggX10_takeBeat_X10_endBlow : GoodIn wsX10_takeBeat wsX10_endBlow := goodIn_r _ [36, 1, 37, 38, 39, 40, 41, 42, 43, 44, 45, 46, 47, 48, 49, 50, 51, 52, 53, 54] (by decide +kernel) (by decide +kernel)
set_option maxRecDepth 20000 in
theorem gX10_takeBeat_X10_endBlow : GoodIn wsX10_takeBeat (wsV RX10 63 RX10 yX10_endBlow wsX10_endBlow) := goodIn_app (goodIn_of _ (by decide +kernel)) ggX10_takeBeat_X10_endBlow
theorem dX10_takeBeat_0 : decode cX10_takeBeat 0 = .ok (.aload_n 0, 1) := by decide +kernel
theorem dX10_takeBeat_1 : decode cX10_takeBeat 1 = .ok (.aload_n 0, 1) := by decide +kernel
theorem dX10_takeBeat_2 : decode cX10_takeBeat 2 = .ok (.getfield 7, 3) := by decide +kernel
theorem dX10_takeBeat_5 : decode cX10_takeBeat 5 = .ok (.bipush 11, 2) := by decide +kernel
theorem dX10_takeBeat_7 : decode cX10_takeBeat 7 = .ok (.iaload, 1) := by decide +kernel
theorem dX10_takeBeat_8 : decode cX10_takeBeat 8 = .ok (.iload_n 1, 1) := by decide +kernel
theorem dX10_takeBeat_9 : decode cX10_takeBeat 9 = .ok (.invokevirtual 56, 3) := by decide +kernel
theorem dX10_takeBeat_12 : decode cX10_takeBeat 12 = .ok (.istore_n 3, 1) := by decide +kernel
theorem dX10_takeBeat_13 : decode cX10_takeBeat 13 = .ok (.aload_n 0, 1) := by decide +kernel
theorem dX10_takeBeat_14 : decode cX10_takeBeat 14 = .ok (.getfield 7, 3) := by decide +kernel
theorem dX10_takeBeat_17 : decode cX10_takeBeat 17 = .ok (.bipush 10, 2) := by decide +kernel
theorem dX10_takeBeat_19 : decode cX10_takeBeat 19 = .ok (.iaload, 1) := by decide +kernel
theorem dX10_takeBeat_20 : decode cX10_takeBeat 20 = .ok (.istore 4, 2) := by decide +kernel
theorem dX10_takeBeat_22 : decode cX10_takeBeat 22 = .ok (.iload 4, 2) := by decide +kernel
theorem dX10_takeBeat_24 : decode cX10_takeBeat 24 = .ok (.iload_n 2, 1) := by decide +kernel
theorem dX10_takeBeat_25 : decode cX10_takeBeat 25 = .ok (.aload_n 0, 1) := by decide +kernel
theorem dX10_takeBeat_26 : decode cX10_takeBeat 26 = .ok (.getfield 7, 3) := by decide +kernel
theorem dX10_takeBeat_29 : decode cX10_takeBeat 29 = .ok (.iconst 3, 1) := by decide +kernel
theorem dX10_takeBeat_30 : decode cX10_takeBeat 30 = .ok (.iaload, 1) := by decide +kernel
theorem dX10_takeBeat_31 : decode cX10_takeBeat 31 = .ok (.imul, 1) := by decide +kernel
theorem dX10_takeBeat_32 : decode cX10_takeBeat 32 = .ok (.bipush 16, 2) := by decide +kernel
theorem dX10_takeBeat_34 : decode cX10_takeBeat 34 = .ok (.invokestatic 66, 3) := by decide +kernel
theorem dX10_takeBeat_37 : decode cX10_takeBeat 37 = .ok (.iadd, 1) := by decide +kernel
theorem dX10_takeBeat_38 : decode cX10_takeBeat 38 = .ok (.istore 5, 2) := by decide +kernel
theorem dX10_takeBeat_40 : decode cX10_takeBeat 40 = .ok (.iload 5, 2) := by decide +kernel
theorem dX10_takeBeat_42 : decode cX10_takeBeat 42 = .ok (.iconst 2, 1) := by decide +kernel
theorem dX10_takeBeat_43 : decode cX10_takeBeat 43 = .ok (.aload_n 0, 1) := by decide +kernel
theorem dX10_takeBeat_44 : decode cX10_takeBeat 44 = .ok (.getfield 7, 3) := by decide +kernel
theorem dX10_takeBeat_47 : decode cX10_takeBeat 47 = .ok (.iconst 0, 1) := by decide +kernel
theorem dX10_takeBeat_48 : decode cX10_takeBeat 48 = .ok (.iaload, 1) := by decide +kernel
theorem dX10_takeBeat_49 : decode cX10_takeBeat 49 = .ok (.imul, 1) := by decide +kernel
theorem dX10_takeBeat_50 : decode cX10_takeBeat 50 = .ok (.if_icmp .ge 14, 3) := by decide +kernel
theorem dX10_takeBeat_53 : decode cX10_takeBeat 53 = .ok (.iconst 2, 1) := by decide +kernel
theorem dX10_takeBeat_54 : decode cX10_takeBeat 54 = .ok (.aload_n 0, 1) := by decide +kernel
theorem dX10_takeBeat_55 : decode cX10_takeBeat 55 = .ok (.getfield 7, 3) := by decide +kernel
theorem dX10_takeBeat_58 : decode cX10_takeBeat 58 = .ok (.iconst 0, 1) := by decide +kernel
theorem dX10_takeBeat_59 : decode cX10_takeBeat 59 = .ok (.iaload, 1) := by decide +kernel
theorem dX10_takeBeat_60 : decode cX10_takeBeat 60 = .ok (.imul, 1) := by decide +kernel
theorem dX10_takeBeat_61 : decode cX10_takeBeat 61 = .ok (.goto 31, 3) := by decide +kernel
theorem dX10_takeBeat_64 : decode cX10_takeBeat 64 = .ok (.iload 5, 2) := by decide +kernel
theorem dX10_takeBeat_66 : decode cX10_takeBeat 66 = .ok (.bipush 8, 2) := by decide +kernel
theorem dX10_takeBeat_68 : decode cX10_takeBeat 68 = .ok (.aload_n 0, 1) := by decide +kernel
theorem dX10_takeBeat_69 : decode cX10_takeBeat 69 = .ok (.getfield 7, 3) := by decide +kernel
theorem dX10_takeBeat_72 : decode cX10_takeBeat 72 = .ok (.iconst 0, 1) := by decide +kernel
theorem dX10_takeBeat_73 : decode cX10_takeBeat 73 = .ok (.iaload, 1) := by decide +kernel
theorem dX10_takeBeat_74 : decode cX10_takeBeat 74 = .ok (.imul, 1) := by decide +kernel
theorem dX10_takeBeat_75 : decode cX10_takeBeat 75 = .ok (.if_icmp .le 15, 3) := by decide +kernel
theorem dX10_takeBeat_78 : decode cX10_takeBeat 78 = .ok (.bipush 8, 2) := by decide +kernel
theorem dX10_takeBeat_80 : decode cX10_takeBeat 80 = .ok (.aload_n 0, 1) := by decide +kernel
theorem dX10_takeBeat_81 : decode cX10_takeBeat 81 = .ok (.getfield 7, 3) := by decide +kernel
theorem dX10_takeBeat_84 : decode cX10_takeBeat 84 = .ok (.iconst 0, 1) := by decide +kernel
theorem dX10_takeBeat_85 : decode cX10_takeBeat 85 = .ok (.iaload, 1) := by decide +kernel
theorem dX10_takeBeat_86 : decode cX10_takeBeat 86 = .ok (.imul, 1) := by decide +kernel
theorem dX10_takeBeat_87 : decode cX10_takeBeat 87 = .ok (.goto 5, 3) := by decide +kernel
theorem dX10_takeBeat_90 : decode cX10_takeBeat 90 = .ok (.iload 5, 2) := by decide +kernel
theorem dX10_takeBeat_92 : decode cX10_takeBeat 92 = .ok (.istore 5, 2) := by decide +kernel
theorem dX10_takeBeat_94 : decode cX10_takeBeat 94 = .ok (.aload_n 0, 1) := by decide +kernel
theorem dX10_takeBeat_95 : decode cX10_takeBeat 95 = .ok (.getfield 7, 3) := by decide +kernel
theorem dX10_takeBeat_98 : decode cX10_takeBeat 98 = .ok (.bipush 10, 2) := by decide +kernel
theorem dX10_takeBeat_100 : decode cX10_takeBeat 100 = .ok (.iload 5, 2) := by decide +kernel
theorem dX10_takeBeat_102 : decode cX10_takeBeat 102 = .ok (.iastore, 1) := by decide +kernel
theorem dX10_takeBeat_103 : decode cX10_takeBeat 103 = .ok (.aload_n 0, 1) := by decide +kernel
theorem dX10_takeBeat_104 : decode cX10_takeBeat 104 = .ok (.getfield 7, 3) := by decide +kernel
theorem dX10_takeBeat_107 : decode cX10_takeBeat 107 = .ok (.bipush 11, 2) := by decide +kernel
theorem dX10_takeBeat_109 : decode cX10_takeBeat 109 = .ok (.dup2, 1) := by decide +kernel
theorem dX10_takeBeat_110 : decode cX10_takeBeat 110 = .ok (.iaload, 1) := by decide +kernel
theorem dX10_takeBeat_111 : decode cX10_takeBeat 111 = .ok (.iload_n 2, 1) := by decide +kernel
theorem dX10_takeBeat_112 : decode cX10_takeBeat 112 = .ok (.aload_n 0, 1) := by decide +kernel
theorem dX10_takeBeat_113 : decode cX10_takeBeat 113 = .ok (.getfield 7, 3) := by decide +kernel
theorem dX10_takeBeat_116 : decode cX10_takeBeat 116 = .ok (.iconst 2, 1) := by decide +kernel
theorem dX10_takeBeat_117 : decode cX10_takeBeat 117 = .ok (.iaload, 1) := by decide +kernel
theorem dX10_takeBeat_118 : decode cX10_takeBeat 118 = .ok (.imul, 1) := by decide +kernel
theorem dX10_takeBeat_119 : decode cX10_takeBeat 119 = .ok (.bipush 16, 2) := by decide +kernel
theorem dX10_takeBeat_121 : decode cX10_takeBeat 121 = .ok (.invokestatic 66, 3) := by decide +kernel
theorem dX10_takeBeat_124 : decode cX10_takeBeat 124 = .ok (.iload 5, 2) := by decide +kernel
theorem dX10_takeBeat_126 : decode cX10_takeBeat 126 = .ok (.iadd, 1) := by decide +kernel
theorem dX10_takeBeat_127 : decode cX10_takeBeat 127 = .ok (.iadd, 1) := by decide +kernel
theorem dX10_takeBeat_128 : decode cX10_takeBeat 128 = .ok (.iastore, 1) := by decide +kernel
theorem dX10_takeBeat_129 : decode cX10_takeBeat 129 = .ok (.aload_n 0, 1) := by decide +kernel
theorem dX10_takeBeat_130 : decode cX10_takeBeat 130 = .ok (.getfield 7, 3) := by decide +kernel
theorem dX10_takeBeat_133 : decode cX10_takeBeat 133 = .ok (.bipush 21, 2) := by decide +kernel
theorem dX10_takeBeat_135 : decode cX10_takeBeat 135 = .ok (.iconst 0, 1) := by decide +kernel
theorem dX10_takeBeat_136 : decode cX10_takeBeat 136 = .ok (.iastore, 1) := by decide +kernel
theorem dX10_takeBeat_137 : decode cX10_takeBeat 137 = .ok (.aload_n 0, 1) := by decide +kernel
theorem dX10_takeBeat_138 : decode cX10_takeBeat 138 = .ok (.iload_n 1, 1) := by decide +kernel
theorem dX10_takeBeat_139 : decode cX10_takeBeat 139 = .ok (.iconst 1, 1) := by decide +kernel
theorem dX10_takeBeat_140 : decode cX10_takeBeat 140 = .ok (.invokevirtual 52, 3) := by decide +kernel
theorem dX10_takeBeat_143 : decode cX10_takeBeat 143 = .ok (.iload_n 3, 1) := by decide +kernel
theorem dX10_takeBeat_144 : decode cX10_takeBeat 144 = .ok (.isub, 1) := by decide +kernel
theorem dX10_takeBeat_145 : decode cX10_takeBeat 145 = .ok (.istore 6, 2) := by decide +kernel
theorem dX10_takeBeat_147 : decode cX10_takeBeat 147 = .ok (.iload 6, 2) := by decide +kernel
theorem dX10_takeBeat_149 : decode cX10_takeBeat 149 = .ok (.aload_n 0, 1) := by decide +kernel
theorem dX10_takeBeat_150 : decode cX10_takeBeat 150 = .ok (.getfield 7, 3) := by decide +kernel
theorem dX10_takeBeat_153 : decode cX10_takeBeat 153 = .ok (.bipush 25, 2) := by decide +kernel
theorem dX10_takeBeat_155 : decode cX10_takeBeat 155 = .ok (.iaload, 1) := by decide +kernel
theorem dX10_takeBeat_156 : decode cX10_takeBeat 156 = .ok (.isub, 1) := by decide +kernel
theorem dX10_takeBeat_157 : decode cX10_takeBeat 157 = .ok (.istore 7, 2) := by decide +kernel
theorem dX10_takeBeat_159 : decode cX10_takeBeat 159 = .ok (.aload_n 0, 1) := by decide +kernel
theorem dX10_takeBeat_160 : decode cX10_takeBeat 160 = .ok (.getfield 7, 3) := by decide +kernel
theorem dX10_takeBeat_163 : decode cX10_takeBeat 163 = .ok (.bipush 25, 2) := by decide +kernel
theorem dX10_takeBeat_165 : decode cX10_takeBeat 165 = .ok (.iload 6, 2) := by decide +kernel
theorem dX10_takeBeat_167 : decode cX10_takeBeat 167 = .ok (.iastore, 1) := by decide +kernel
theorem dX10_takeBeat_168 : decode cX10_takeBeat 168 = .ok (.aload_n 0, 1) := by decide +kernel
theorem dX10_takeBeat_169 : decode cX10_takeBeat 169 = .ok (.getfield 7, 3) := by decide +kernel
theorem dX10_takeBeat_172 : decode cX10_takeBeat 172 = .ok (.bipush 18, 2) := by decide +kernel
theorem dX10_takeBeat_174 : decode cX10_takeBeat 174 = .ok (.dup2, 1) := by decide +kernel
theorem dX10_takeBeat_175 : decode cX10_takeBeat 175 = .ok (.iaload, 1) := by decide +kernel
theorem dX10_takeBeat_176 : decode cX10_takeBeat 176 = .ok (.iload 7, 2) := by decide +kernel
theorem dX10_takeBeat_178 : decode cX10_takeBeat 178 = .ok (.ifCond .ne 7, 3) := by decide +kernel
theorem dX10_takeBeat_181 : decode cX10_takeBeat 181 = .ok (.iconst 0, 1) := by decide +kernel
theorem dX10_takeBeat_182 : decode cX10_takeBeat 182 = .ok (.goto 4, 3) := by decide +kernel
theorem dX10_takeBeat_185 : decode cX10_takeBeat 185 = .ok (.iconst 1, 1) := by decide +kernel
theorem dX10_takeBeat_186 : decode cX10_takeBeat 186 = .ok (.iadd, 1) := by decide +kernel
theorem dX10_takeBeat_187 : decode cX10_takeBeat 187 = .ok (.iastore, 1) := by decide +kernel
theorem dX10_takeBeat_188 : decode cX10_takeBeat 188 = .ok (.aload_n 0, 1) := by decide +kernel
theorem dX10_takeBeat_189 : decode cX10_takeBeat 189 = .ok (.getfield 7, 3) := by decide +kernel
theorem dX10_takeBeat_192 : decode cX10_takeBeat 192 = .ok (.bipush 24, 2) := by decide +kernel
theorem dX10_takeBeat_194 : decode cX10_takeBeat 194 = .ok (.dup2, 1) := by decide +kernel
theorem dX10_takeBeat_195 : decode cX10_takeBeat 195 = .ok (.iaload, 1) := by decide +kernel
theorem dX10_takeBeat_196 : decode cX10_takeBeat 196 = .ok (.iload 7, 2) := by decide +kernel
theorem dX10_takeBeat_198 : decode cX10_takeBeat 198 = .ok (.iadd, 1) := by decide +kernel
theorem dX10_takeBeat_199 : decode cX10_takeBeat 199 = .ok (.iastore, 1) := by decide +kernel
theorem dX10_takeBeat_200 : decode cX10_takeBeat 200 = .ok (.aload_n 0, 1) := by decide +kernel
theorem dX10_takeBeat_201 : decode cX10_takeBeat 201 = .ok (.getfield 7, 3) := by decide +kernel
theorem dX10_takeBeat_204 : decode cX10_takeBeat 204 = .ok (.bipush 26, 2) := by decide +kernel
theorem dX10_takeBeat_206 : decode cX10_takeBeat 206 = .ok (.dup2, 1) := by decide +kernel
theorem dX10_takeBeat_207 : decode cX10_takeBeat 207 = .ok (.iaload, 1) := by decide +kernel
theorem dX10_takeBeat_208 : decode cX10_takeBeat 208 = .ok (.iload_n 2, 1) := by decide +kernel
theorem dX10_takeBeat_209 : decode cX10_takeBeat 209 = .ok (.invokestatic 69, 3) := by decide +kernel
theorem dX10_takeBeat_212 : decode cX10_takeBeat 212 = .ok (.iadd, 1) := by decide +kernel
theorem dX10_takeBeat_213 : decode cX10_takeBeat 213 = .ok (.iastore, 1) := by decide +kernel
theorem dX10_takeBeat_214 : decode cX10_takeBeat 214 = .ok (.aload_n 0, 1) := by decide +kernel
theorem dX10_takeBeat_215 : decode cX10_takeBeat 215 = .ok (.iload_n 1, 1) := by decide +kernel
theorem dX10_takeBeat_216 : decode cX10_takeBeat 216 = .ok (.iconst 2, 1) := by decide +kernel
theorem dX10_takeBeat_217 : decode cX10_takeBeat 217 = .ok (.iload_n 3, 1) := by decide +kernel
theorem dX10_takeBeat_218 : decode cX10_takeBeat 218 = .ok (.iload_n 2, 1) := by decide +kernel
theorem dX10_takeBeat_219 : decode cX10_takeBeat 219 = .ok (.iload 7, 2) := by decide +kernel
theorem dX10_takeBeat_221 : decode cX10_takeBeat 221 = .ok (.invokevirtual 59, 3) := by decide +kernel
theorem dX10_takeBeat_224 : decode cX10_takeBeat 224 = .ok (.aload_n 0, 1) := by decide +kernel
theorem dX10_takeBeat_225 : decode cX10_takeBeat 225 = .ok (.iload_n 2, 1) := by decide +kernel
theorem dX10_takeBeat_226 : decode cX10_takeBeat 226 = .ok (.invokestatic 69, 3) := by decide +kernel
theorem dX10_takeBeat_229 : decode cX10_takeBeat 229 = .ok (.iload 4, 2) := by decide +kernel
theorem dX10_takeBeat_231 : decode cX10_takeBeat 231 = .ok (.aload_n 0, 1) := by decide +kernel
theorem dX10_takeBeat_232 : decode cX10_takeBeat 232 = .ok (.getfield 7, 3) := by decide +kernel
theorem dX10_takeBeat_235 : decode cX10_takeBeat 235 = .ok (.iconst 4, 1) := by decide +kernel
theorem dX10_takeBeat_236 : decode cX10_takeBeat 236 = .ok (.iaload, 1) := by decide +kernel
theorem dX10_takeBeat_237 : decode cX10_takeBeat 237 = .ok (.imul, 1) := by decide +kernel
theorem dX10_takeBeat_238 : decode cX10_takeBeat 238 = .ok (.bipush 100, 2) := by decide +kernel
theorem dX10_takeBeat_240 : decode cX10_takeBeat 240 = .ok (.idiv, 1) := by decide +kernel
theorem dX10_takeBeat_241 : decode cX10_takeBeat 241 = .ok (.if_icmp .gt 7, 3) := by decide +kernel
theorem dX10_takeBeat_244 : decode cX10_takeBeat 244 = .ok (.iconst 1, 1) := by decide +kernel
theorem dX10_takeBeat_245 : decode cX10_takeBeat 245 = .ok (.goto 4, 3) := by decide +kernel
theorem dX10_takeBeat_248 : decode cX10_takeBeat 248 = .ok (.iconst 0, 1) := by decide +kernel
theorem dX10_takeBeat_249 : decode cX10_takeBeat 249 = .ok (.iconst 1, 1) := by decide +kernel
theorem dX10_takeBeat_250 : decode cX10_takeBeat 250 = .ok (.invokevirtual 73, 3) := by decide +kernel
theorem dX10_takeBeat_253 : decode cX10_takeBeat 253 = .ok (.aload_n 0, 1) := by decide +kernel
theorem dX10_takeBeat_254 : decode cX10_takeBeat 254 = .ok (.invokevirtual 63, 3) := by decide +kernel
theorem dX10_takeBeat_257 : decode cX10_takeBeat 257 = .ok (.return_, 1) := by decide +kernel
set_option maxRecDepth 20000 in
theorem ggX10_hear_X10_begin : GoodIn wsX10_hear wsX10_begin := goodIn_r _ [7, 1, 8, 9, 10, 6, 11, 12, 13, 14, 15, 16, 17, 18, 19, 20, 21, 22, 23, 24, 25, 26, 27, 50, 51, 52, 53, 54, 55, 56, 57, 58, 59, 60, 61, 62, 63, 64, 65, 66, 67] (by decide +kernel) (by decide +kernel)
set_option maxRecDepth 20000 in
theorem gX10_hear_X10_begin : GoodIn wsX10_hear (wsV RX10 77 RX10 yX10_begin wsX10_begin) := goodIn_app (goodIn_of _ (by decide +kernel)) ggX10_hear_X10_begin
set_option maxRecDepth 20000 in
theorem ggX10_hear_X10_ofB : GoodIn wsX10_hear wsX10_ofB := goodIn_r _ [11, 1, 50, 51, 52, 53, 54, 55, 56, 57, 58, 59, 60, 61, 62, 63, 64, 65, 66, 67] (by decide +kernel) (by decide +kernel)
set_option maxRecDepth 20000 in
theorem gX10_hear_X10_ofB : GoodIn wsX10_hear (wsV RX10 52 RX10 yX10_ofB wsX10_ofB) := goodIn_app (goodIn_of _ (by decide +kernel)) ggX10_hear_X10_ofB
set_option maxRecDepth 20000 in
theorem ggX10_hear_X10_halfWindow : GoodIn wsX10_hear wsX10_halfWindow := goodIn_r _ [31, 1, 50, 51, 52, 53, 54, 55, 56, 57, 58, 59, 60, 61, 62, 63, 64, 65, 66, 67] (by decide +kernel) (by decide +kernel)
set_option maxRecDepth 20000 in
theorem gX10_hear_X10_halfWindow : GoodIn wsX10_hear (wsV RX10 81 RX10 yX10_halfWindow wsX10_halfWindow) := goodIn_app (goodIn_of _ (by decide +kernel)) ggX10_hear_X10_halfWindow
set_option maxRecDepth 20000 in
theorem ggX10_hear_X10_become : GoodIn wsX10_hear wsX10_become := goodIn_r _ [19, 20, 21, 22, 6, 23, 1, 50, 51, 52, 53, 54, 55, 56, 57, 58, 59, 60, 61, 62, 63, 64, 65, 66, 67] (by decide +kernel) (by decide +kernel)
set_option maxRecDepth 20000 in
theorem gX10_hear_X10_become : GoodIn wsX10_hear (wsV RX10 59 RX10 yX10_become wsX10_become) := goodIn_app (goodIn_of _ (by decide +kernel)) ggX10_hear_X10_become
set_option maxRecDepth 20000 in
theorem ggX10_hear_X10_judge : GoodIn wsX10_hear wsX10_judge := goodIn_r _ [35, 1, 36, 37, 38, 6, 39, 50, 51, 52, 53, 54, 55, 56, 57, 58, 59, 60, 61, 62, 63, 64, 65, 66, 67] (by decide +kernel) (by decide +kernel)
set_option maxRecDepth 20000 in
theorem gX10_hear_X10_judge : GoodIn wsX10_hear (wsV RX10 73 RX10 yX10_judge wsX10_judge) := goodIn_app (goodIn_of _ (by decide +kernel)) ggX10_hear_X10_judge
set_option maxRecDepth 20000 in
theorem ggX10_hear_X10_takeBeat : GoodIn wsX10_hear wsX10_takeBeat := goodIn_r _ [43, 1, 12, 13, 14, 6, 15, 44, 45, 46, 8, 9, 10, 11, 47, 48, 49, 16, 17, 18, 19, 20, 21, 22, 23, 32, 33, 34, 35, 36, 37, 38, 39, 24, 25, 26, 27, 50, 51, 52, 53, 54, 55, 56, 57, 58, 59, 60, 61, 62, 63, 64, 65, 66, 67] (by decide +kernel) (by decide +kernel)
set_option maxRecDepth 20000 in
theorem gX10_hear_X10_takeBeat : GoodIn wsX10_hear (wsV RX10 85 RX10 yX10_takeBeat wsX10_takeBeat) := goodIn_app (goodIn_of _ (by decide +kernel)) ggX10_hear_X10_takeBeat
theorem dX10_hear_0 : decode cX10_hear 0 = .ok (.aload_n 0, 1) := by decide +kernel
theorem dX10_hear_1 : decode cX10_hear 1 = .ok (.getfield 7, 3) := by decide +kernel
theorem dX10_hear_4 : decode cX10_hear 4 = .ok (.bipush 14, 2) := by decide +kernel
theorem dX10_hear_6 : decode cX10_hear 6 = .ok (.iaload, 1) := by decide +kernel
theorem dX10_hear_7 : decode cX10_hear 7 = .ok (.istore_n 1, 1) := by decide +kernel
theorem dX10_hear_8 : decode cX10_hear 8 = .ok (.aload_n 0, 1) := by decide +kernel
theorem dX10_hear_9 : decode cX10_hear 9 = .ok (.getfield 7, 3) := by decide +kernel
theorem dX10_hear_12 : decode cX10_hear 12 = .ok (.bipush 14, 2) := by decide +kernel
theorem dX10_hear_14 : decode cX10_hear 14 = .ok (.dup2, 1) := by decide +kernel
theorem dX10_hear_15 : decode cX10_hear 15 = .ok (.iaload, 1) := by decide +kernel
theorem dX10_hear_16 : decode cX10_hear 16 = .ok (.iconst 1, 1) := by decide +kernel
theorem dX10_hear_17 : decode cX10_hear 17 = .ok (.iadd, 1) := by decide +kernel
theorem dX10_hear_18 : decode cX10_hear 18 = .ok (.iastore, 1) := by decide +kernel
theorem dX10_hear_19 : decode cX10_hear 19 = .ok (.iload_n 1, 1) := by decide +kernel
theorem dX10_hear_20 : decode cX10_hear 20 = .ok (.aload_n 0, 1) := by decide +kernel
theorem dX10_hear_21 : decode cX10_hear 21 = .ok (.getfield 26, 3) := by decide +kernel
theorem dX10_hear_24 : decode cX10_hear 24 = .ok (.if_icmp .ne 4, 3) := by decide +kernel
theorem dX10_hear_27 : decode cX10_hear 27 = .ok (.return_, 1) := by decide +kernel
theorem dX10_hear_28 : decode cX10_hear 28 = .ok (.aload_n 0, 1) := by decide +kernel
theorem dX10_hear_29 : decode cX10_hear 29 = .ok (.getfield 7, 3) := by decide +kernel
theorem dX10_hear_32 : decode cX10_hear 32 = .ok (.bipush 27, 2) := by decide +kernel
theorem dX10_hear_34 : decode cX10_hear 34 = .ok (.dup2, 1) := by decide +kernel
theorem dX10_hear_35 : decode cX10_hear 35 = .ok (.iaload, 1) := by decide +kernel
theorem dX10_hear_36 : decode cX10_hear 36 = .ok (.aload_n 0, 1) := by decide +kernel
theorem dX10_hear_37 : decode cX10_hear 37 = .ok (.getfield 7, 3) := by decide +kernel
theorem dX10_hear_40 : decode cX10_hear 40 = .ok (.bipush 9, 2) := by decide +kernel
theorem dX10_hear_42 : decode cX10_hear 42 = .ok (.iaload, 1) := by decide +kernel
theorem dX10_hear_43 : decode cX10_hear 43 = .ok (.iconst 1, 1) := by decide +kernel
theorem dX10_hear_44 : decode cX10_hear 44 = .ok (.if_icmp .ne 7, 3) := by decide +kernel
theorem dX10_hear_47 : decode cX10_hear 47 = .ok (.iconst 1, 1) := by decide +kernel
theorem dX10_hear_48 : decode cX10_hear 48 = .ok (.goto 4, 3) := by decide +kernel
theorem dX10_hear_51 : decode cX10_hear 51 = .ok (.iconst 0, 1) := by decide +kernel
theorem dX10_hear_52 : decode cX10_hear 52 = .ok (.iadd, 1) := by decide +kernel
theorem dX10_hear_53 : decode cX10_hear 53 = .ok (.iastore, 1) := by decide +kernel
theorem dX10_hear_54 : decode cX10_hear 54 = .ok (.aload_n 0, 1) := by decide +kernel
theorem dX10_hear_55 : decode cX10_hear 55 = .ok (.getfield 7, 3) := by decide +kernel
theorem dX10_hear_58 : decode cX10_hear 58 = .ok (.bipush 11, 2) := by decide +kernel
theorem dX10_hear_60 : decode cX10_hear 60 = .ok (.iaload, 1) := by decide +kernel
theorem dX10_hear_61 : decode cX10_hear 61 = .ok (.ifCond .ge 9, 3) := by decide +kernel
theorem dX10_hear_64 : decode cX10_hear 64 = .ok (.aload_n 0, 1) := by decide +kernel
theorem dX10_hear_65 : decode cX10_hear 65 = .ok (.iload_n 1, 1) := by decide +kernel
theorem dX10_hear_66 : decode cX10_hear 66 = .ok (.invokevirtual 77, 3) := by decide +kernel
theorem dX10_hear_69 : decode cX10_hear 69 = .ok (.return_, 1) := by decide +kernel
theorem dX10_hear_70 : decode cX10_hear 70 = .ok (.iconst 4, 1) := by decide +kernel
theorem dX10_hear_71 : decode cX10_hear 71 = .ok (.aload_n 0, 1) := by decide +kernel
theorem dX10_hear_72 : decode cX10_hear 72 = .ok (.iload_n 1, 1) := by decide +kernel
theorem dX10_hear_73 : decode cX10_hear 73 = .ok (.iconst 0, 1) := by decide +kernel
theorem dX10_hear_74 : decode cX10_hear 74 = .ok (.invokevirtual 52, 3) := by decide +kernel
theorem dX10_hear_77 : decode cX10_hear 77 = .ok (.imul, 1) := by decide +kernel
theorem dX10_hear_78 : decode cX10_hear 78 = .ok (.aload_n 0, 1) := by decide +kernel
theorem dX10_hear_79 : decode cX10_hear 79 = .ok (.getfield 7, 3) := by decide +kernel
theorem dX10_hear_82 : decode cX10_hear 82 = .ok (.bipush 11, 2) := by decide +kernel
theorem dX10_hear_84 : decode cX10_hear 84 = .ok (.iaload, 1) := by decide +kernel
theorem dX10_hear_85 : decode cX10_hear 85 = .ok (.isub, 1) := by decide +kernel
theorem dX10_hear_86 : decode cX10_hear 86 = .ok (.istore_n 2, 1) := by decide +kernel
theorem dX10_hear_87 : decode cX10_hear 87 = .ok (.iload_n 2, 1) := by decide +kernel
theorem dX10_hear_88 : decode cX10_hear 88 = .ok (.aload_n 0, 1) := by decide +kernel
theorem dX10_hear_89 : decode cX10_hear 89 = .ok (.invokevirtual 81, 3) := by decide +kernel
theorem dX10_hear_92 : decode cX10_hear 92 = .ok (.ineg, 1) := by decide +kernel
theorem dX10_hear_93 : decode cX10_hear 93 = .ok (.if_icmp .ge 34, 3) := by decide +kernel
theorem dX10_hear_96 : decode cX10_hear 96 = .ok (.aload_n 0, 1) := by decide +kernel
theorem dX10_hear_97 : decode cX10_hear 97 = .ok (.iload_n 1, 1) := by decide +kernel
theorem dX10_hear_98 : decode cX10_hear 98 = .ok (.iconst 1, 1) := by decide +kernel
theorem dX10_hear_99 : decode cX10_hear 99 = .ok (.bipush (-6), 2) := by decide +kernel
theorem dX10_hear_101 : decode cX10_hear 101 = .ok (.iload_n 2, 1) := by decide +kernel
theorem dX10_hear_102 : decode cX10_hear 102 = .ok (.bipush (-6), 2) := by decide +kernel
theorem dX10_hear_104 : decode cX10_hear 104 = .ok (.invokevirtual 59, 3) := by decide +kernel
theorem dX10_hear_107 : decode cX10_hear 107 = .ok (.aload_n 0, 1) := by decide +kernel
theorem dX10_hear_108 : decode cX10_hear 108 = .ok (.getfield 7, 3) := by decide +kernel
theorem dX10_hear_111 : decode cX10_hear 111 = .ok (.bipush 15, 2) := by decide +kernel
theorem dX10_hear_113 : decode cX10_hear 113 = .ok (.dup2, 1) := by decide +kernel
theorem dX10_hear_114 : decode cX10_hear 114 = .ok (.iaload, 1) := by decide +kernel
theorem dX10_hear_115 : decode cX10_hear 115 = .ok (.iconst 1, 1) := by decide +kernel
theorem dX10_hear_116 : decode cX10_hear 116 = .ok (.iadd, 1) := by decide +kernel
theorem dX10_hear_117 : decode cX10_hear 117 = .ok (.iastore, 1) := by decide +kernel
theorem dX10_hear_118 : decode cX10_hear 118 = .ok (.aload_n 0, 1) := by decide +kernel
theorem dX10_hear_119 : decode cX10_hear 119 = .ok (.iconst 0, 1) := by decide +kernel
theorem dX10_hear_120 : decode cX10_hear 120 = .ok (.iconst 0, 1) := by decide +kernel
theorem dX10_hear_121 : decode cX10_hear 121 = .ok (.invokevirtual 73, 3) := by decide +kernel
theorem dX10_hear_124 : decode cX10_hear 124 = .ok (.goto 9, 3) := by decide +kernel
theorem dX10_hear_127 : decode cX10_hear 127 = .ok (.aload_n 0, 1) := by decide +kernel
theorem dX10_hear_128 : decode cX10_hear 128 = .ok (.iload_n 1, 1) := by decide +kernel
theorem dX10_hear_129 : decode cX10_hear 129 = .ok (.iload_n 2, 1) := by decide +kernel
theorem dX10_hear_130 : decode cX10_hear 130 = .ok (.invokevirtual 85, 3) := by decide +kernel
theorem dX10_hear_133 : decode cX10_hear 133 = .ok (.return_, 1) := by decide +kernel
set_option maxRecDepth 20000 in
theorem ggX10_holdOn_X10_strike : GoodIn wsX10_holdOn wsX10_strike := goodIn_r _ [6, 1, 19, 20, 21, 22, 23, 24, 25, 26, 27, 28, 29, 30, 31, 32, 33, 34, 35, 36] (by decide +kernel) (by decide +kernel)
set_option maxRecDepth 20000 in
theorem gX10_holdOn_X10_strike : GoodIn wsX10_holdOn (wsV RX10 56 RX10 yX10_strike wsX10_strike) := goodIn_app (goodIn_of _ (by decide +kernel)) ggX10_holdOn_X10_strike
set_option maxRecDepth 20000 in
theorem ggX10_holdOn_X10_judge : GoodIn wsX10_holdOn wsX10_judge := goodIn_r _ [10, 1, 11, 12, 13, 5, 14, 19, 20, 21, 22, 23, 24, 25, 26, 27, 28, 29, 30, 31, 32, 33, 34, 35, 36] (by decide +kernel) (by decide +kernel)
set_option maxRecDepth 20000 in
theorem gX10_holdOn_X10_judge : GoodIn wsX10_holdOn (wsV RX10 73 RX10 yX10_judge wsX10_judge) := goodIn_app (goodIn_of _ (by decide +kernel)) ggX10_holdOn_X10_judge
set_option maxRecDepth 20000 in
theorem ggX10_holdOn_X10_endBlow : GoodIn wsX10_holdOn wsX10_endBlow := goodIn_r _ [18, 1, 19, 20, 21, 22, 23, 24, 25, 26, 27, 28, 29, 30, 31, 32, 33, 34, 35, 36] (by decide +kernel) (by decide +kernel)
set_option maxRecDepth 20000 in
theorem gX10_holdOn_X10_endBlow : GoodIn wsX10_holdOn (wsV RX10 63 RX10 yX10_endBlow wsX10_endBlow) := goodIn_app (goodIn_of _ (by decide +kernel)) ggX10_holdOn_X10_endBlow
theorem dX10_holdOn_0 : decode cX10_holdOn 0 = .ok (.aload_n 0, 1) := by decide +kernel
theorem dX10_holdOn_1 : decode cX10_holdOn 1 = .ok (.aload_n 0, 1) := by decide +kernel
theorem dX10_holdOn_2 : decode cX10_holdOn 2 = .ok (.getfield 7, 3) := by decide +kernel
theorem dX10_holdOn_5 : decode cX10_holdOn 5 = .ok (.bipush 11, 2) := by decide +kernel
theorem dX10_holdOn_7 : decode cX10_holdOn 7 = .ok (.iaload, 1) := by decide +kernel
theorem dX10_holdOn_8 : decode cX10_holdOn 8 = .ok (.bipush (-6), 2) := by decide +kernel
theorem dX10_holdOn_10 : decode cX10_holdOn 10 = .ok (.invokevirtual 56, 3) := by decide +kernel
theorem dX10_holdOn_13 : decode cX10_holdOn 13 = .ok (.pop, 1) := by decide +kernel
theorem dX10_holdOn_14 : decode cX10_holdOn 14 = .ok (.aload_n 0, 1) := by decide +kernel
theorem dX10_holdOn_15 : decode cX10_holdOn 15 = .ok (.getfield 7, 3) := by decide +kernel
theorem dX10_holdOn_18 : decode cX10_holdOn 18 = .ok (.bipush 11, 2) := by decide +kernel
theorem dX10_holdOn_20 : decode cX10_holdOn 20 = .ok (.dup2, 1) := by decide +kernel
theorem dX10_holdOn_21 : decode cX10_holdOn 21 = .ok (.iaload, 1) := by decide +kernel
theorem dX10_holdOn_22 : decode cX10_holdOn 22 = .ok (.aload_n 0, 1) := by decide +kernel
theorem dX10_holdOn_23 : decode cX10_holdOn 23 = .ok (.getfield 7, 3) := by decide +kernel
theorem dX10_holdOn_26 : decode cX10_holdOn 26 = .ok (.bipush 10, 2) := by decide +kernel
theorem dX10_holdOn_28 : decode cX10_holdOn 28 = .ok (.iaload, 1) := by decide +kernel
theorem dX10_holdOn_29 : decode cX10_holdOn 29 = .ok (.iadd, 1) := by decide +kernel
theorem dX10_holdOn_30 : decode cX10_holdOn 30 = .ok (.iastore, 1) := by decide +kernel
theorem dX10_holdOn_31 : decode cX10_holdOn 31 = .ok (.aload_n 0, 1) := by decide +kernel
theorem dX10_holdOn_32 : decode cX10_holdOn 32 = .ok (.getfield 7, 3) := by decide +kernel
theorem dX10_holdOn_35 : decode cX10_holdOn 35 = .ok (.bipush 13, 2) := by decide +kernel
theorem dX10_holdOn_37 : decode cX10_holdOn 37 = .ok (.dup2, 1) := by decide +kernel
theorem dX10_holdOn_38 : decode cX10_holdOn 38 = .ok (.iaload, 1) := by decide +kernel
theorem dX10_holdOn_39 : decode cX10_holdOn 39 = .ok (.iconst 1, 1) := by decide +kernel
theorem dX10_holdOn_40 : decode cX10_holdOn 40 = .ok (.iadd, 1) := by decide +kernel
theorem dX10_holdOn_41 : decode cX10_holdOn 41 = .ok (.iastore, 1) := by decide +kernel
theorem dX10_holdOn_42 : decode cX10_holdOn 42 = .ok (.aload_n 0, 1) := by decide +kernel
theorem dX10_holdOn_43 : decode cX10_holdOn 43 = .ok (.getfield 7, 3) := by decide +kernel
theorem dX10_holdOn_46 : decode cX10_holdOn 46 = .ok (.bipush 21, 2) := by decide +kernel
theorem dX10_holdOn_48 : decode cX10_holdOn 48 = .ok (.dup2, 1) := by decide +kernel
theorem dX10_holdOn_49 : decode cX10_holdOn 49 = .ok (.iaload, 1) := by decide +kernel
theorem dX10_holdOn_50 : decode cX10_holdOn 50 = .ok (.iconst 1, 1) := by decide +kernel
theorem dX10_holdOn_51 : decode cX10_holdOn 51 = .ok (.iadd, 1) := by decide +kernel
theorem dX10_holdOn_52 : decode cX10_holdOn 52 = .ok (.iastore, 1) := by decide +kernel
theorem dX10_holdOn_53 : decode cX10_holdOn 53 = .ok (.aload_n 0, 1) := by decide +kernel
theorem dX10_holdOn_54 : decode cX10_holdOn 54 = .ok (.getfield 7, 3) := by decide +kernel
theorem dX10_holdOn_57 : decode cX10_holdOn 57 = .ok (.bipush 9, 2) := by decide +kernel
theorem dX10_holdOn_59 : decode cX10_holdOn 59 = .ok (.aload_n 0, 1) := by decide +kernel
theorem dX10_holdOn_60 : decode cX10_holdOn 60 = .ok (.getfield 7, 3) := by decide +kernel
theorem dX10_holdOn_63 : decode cX10_holdOn 63 = .ok (.bipush 9, 2) := by decide +kernel
theorem dX10_holdOn_65 : decode cX10_holdOn 65 = .ok (.iaload, 1) := by decide +kernel
theorem dX10_holdOn_66 : decode cX10_holdOn 66 = .ok (.iconst 1, 1) := by decide +kernel
theorem dX10_holdOn_67 : decode cX10_holdOn 67 = .ok (.if_icmp .ne 7, 3) := by decide +kernel
theorem dX10_holdOn_70 : decode cX10_holdOn 70 = .ok (.iconst 2, 1) := by decide +kernel
theorem dX10_holdOn_71 : decode cX10_holdOn 71 = .ok (.goto 10, 3) := by decide +kernel
theorem dX10_holdOn_74 : decode cX10_holdOn 74 = .ok (.aload_n 0, 1) := by decide +kernel
theorem dX10_holdOn_75 : decode cX10_holdOn 75 = .ok (.getfield 7, 3) := by decide +kernel
theorem dX10_holdOn_78 : decode cX10_holdOn 78 = .ok (.bipush 9, 2) := by decide +kernel
theorem dX10_holdOn_80 : decode cX10_holdOn 80 = .ok (.iaload, 1) := by decide +kernel
theorem dX10_holdOn_81 : decode cX10_holdOn 81 = .ok (.iastore, 1) := by decide +kernel
theorem dX10_holdOn_82 : decode cX10_holdOn 82 = .ok (.aload_n 0, 1) := by decide +kernel
theorem dX10_holdOn_83 : decode cX10_holdOn 83 = .ok (.iconst 0, 1) := by decide +kernel
theorem dX10_holdOn_84 : decode cX10_holdOn 84 = .ok (.iconst 0, 1) := by decide +kernel
theorem dX10_holdOn_85 : decode cX10_holdOn 85 = .ok (.invokevirtual 73, 3) := by decide +kernel
theorem dX10_holdOn_88 : decode cX10_holdOn 88 = .ok (.aload_n 0, 1) := by decide +kernel
theorem dX10_holdOn_89 : decode cX10_holdOn 89 = .ok (.getfield 7, 3) := by decide +kernel
theorem dX10_holdOn_92 : decode cX10_holdOn 92 = .ok (.bipush 21, 2) := by decide +kernel
theorem dX10_holdOn_94 : decode cX10_holdOn 94 = .ok (.iaload, 1) := by decide +kernel
theorem dX10_holdOn_95 : decode cX10_holdOn 95 = .ok (.aload_n 0, 1) := by decide +kernel
theorem dX10_holdOn_96 : decode cX10_holdOn 96 = .ok (.getfield 7, 3) := by decide +kernel
theorem dX10_holdOn_99 : decode cX10_holdOn 99 = .ok (.bipush 7, 2) := by decide +kernel
theorem dX10_holdOn_101 : decode cX10_holdOn 101 = .ok (.iaload, 1) := by decide +kernel
theorem dX10_holdOn_102 : decode cX10_holdOn 102 = .ok (.if_icmp .lt 80, 3) := by decide +kernel
theorem dX10_holdOn_105 : decode cX10_holdOn 105 = .ok (.aload_n 0, 1) := by decide +kernel
theorem dX10_holdOn_106 : decode cX10_holdOn 106 = .ok (.getfield 7, 3) := by decide +kernel
theorem dX10_holdOn_109 : decode cX10_holdOn 109 = .ok (.bipush 23, 2) := by decide +kernel
theorem dX10_holdOn_111 : decode cX10_holdOn 111 = .ok (.dup2, 1) := by decide +kernel
theorem dX10_holdOn_112 : decode cX10_holdOn 112 = .ok (.iaload, 1) := by decide +kernel
theorem dX10_holdOn_113 : decode cX10_holdOn 113 = .ok (.iconst 1, 1) := by decide +kernel
theorem dX10_holdOn_114 : decode cX10_holdOn 114 = .ok (.iadd, 1) := by decide +kernel
theorem dX10_holdOn_115 : decode cX10_holdOn 115 = .ok (.iastore, 1) := by decide +kernel
theorem dX10_holdOn_116 : decode cX10_holdOn 116 = .ok (.aload_n 0, 1) := by decide +kernel
theorem dX10_holdOn_117 : decode cX10_holdOn 117 = .ok (.getfield 7, 3) := by decide +kernel
theorem dX10_holdOn_120 : decode cX10_holdOn 120 = .ok (.bipush 17, 2) := by decide +kernel
theorem dX10_holdOn_122 : decode cX10_holdOn 122 = .ok (.dup2, 1) := by decide +kernel
theorem dX10_holdOn_123 : decode cX10_holdOn 123 = .ok (.iaload, 1) := by decide +kernel
theorem dX10_holdOn_124 : decode cX10_holdOn 124 = .ok (.aload_n 0, 1) := by decide +kernel
theorem dX10_holdOn_125 : decode cX10_holdOn 125 = .ok (.getfield 7, 3) := by decide +kernel
theorem dX10_holdOn_128 : decode cX10_holdOn 128 = .ok (.bipush 9, 2) := by decide +kernel
theorem dX10_holdOn_130 : decode cX10_holdOn 130 = .ok (.iaload, 1) := by decide +kernel
theorem dX10_holdOn_131 : decode cX10_holdOn 131 = .ok (.ifCond .ne 7, 3) := by decide +kernel
theorem dX10_holdOn_134 : decode cX10_holdOn 134 = .ok (.iconst 0, 1) := by decide +kernel
theorem dX10_holdOn_135 : decode cX10_holdOn 135 = .ok (.goto 4, 3) := by decide +kernel
theorem dX10_holdOn_138 : decode cX10_holdOn 138 = .ok (.iconst 1, 1) := by decide +kernel
theorem dX10_holdOn_139 : decode cX10_holdOn 139 = .ok (.iadd, 1) := by decide +kernel
theorem dX10_holdOn_140 : decode cX10_holdOn 140 = .ok (.iastore, 1) := by decide +kernel
theorem dX10_holdOn_141 : decode cX10_holdOn 141 = .ok (.aload_n 0, 1) := by decide +kernel
theorem dX10_holdOn_142 : decode cX10_holdOn 142 = .ok (.getfield 7, 3) := by decide +kernel
theorem dX10_holdOn_145 : decode cX10_holdOn 145 = .ok (.bipush 9, 2) := by decide +kernel
theorem dX10_holdOn_147 : decode cX10_holdOn 147 = .ok (.iconst 0, 1) := by decide +kernel
theorem dX10_holdOn_148 : decode cX10_holdOn 148 = .ok (.iastore, 1) := by decide +kernel
theorem dX10_holdOn_149 : decode cX10_holdOn 149 = .ok (.aload_n 0, 1) := by decide +kernel
theorem dX10_holdOn_150 : decode cX10_holdOn 150 = .ok (.getfield 7, 3) := by decide +kernel
theorem dX10_holdOn_153 : decode cX10_holdOn 153 = .ok (.bipush 19, 2) := by decide +kernel
theorem dX10_holdOn_155 : decode cX10_holdOn 155 = .ok (.iconst 0, 1) := by decide +kernel
theorem dX10_holdOn_156 : decode cX10_holdOn 156 = .ok (.iastore, 1) := by decide +kernel
theorem dX10_holdOn_157 : decode cX10_holdOn 157 = .ok (.aload_n 0, 1) := by decide +kernel
theorem dX10_holdOn_158 : decode cX10_holdOn 158 = .ok (.getfield 7, 3) := by decide +kernel
theorem dX10_holdOn_161 : decode cX10_holdOn 161 = .ok (.bipush 20, 2) := by decide +kernel
theorem dX10_holdOn_163 : decode cX10_holdOn 163 = .ok (.iconst 0, 1) := by decide +kernel
theorem dX10_holdOn_164 : decode cX10_holdOn 164 = .ok (.iastore, 1) := by decide +kernel
theorem dX10_holdOn_165 : decode cX10_holdOn 165 = .ok (.aload_n 0, 1) := by decide +kernel
theorem dX10_holdOn_166 : decode cX10_holdOn 166 = .ok (.getfield 7, 3) := by decide +kernel
theorem dX10_holdOn_169 : decode cX10_holdOn 169 = .ok (.bipush 21, 2) := by decide +kernel
theorem dX10_holdOn_171 : decode cX10_holdOn 171 = .ok (.iconst 0, 1) := by decide +kernel
theorem dX10_holdOn_172 : decode cX10_holdOn 172 = .ok (.iastore, 1) := by decide +kernel
theorem dX10_holdOn_173 : decode cX10_holdOn 173 = .ok (.aload_n 0, 1) := by decide +kernel
theorem dX10_holdOn_174 : decode cX10_holdOn 174 = .ok (.getfield 7, 3) := by decide +kernel
theorem dX10_holdOn_177 : decode cX10_holdOn 177 = .ok (.bipush 11, 2) := by decide +kernel
theorem dX10_holdOn_179 : decode cX10_holdOn 179 = .ok (.bipush (-6), 2) := by decide +kernel
theorem dX10_holdOn_181 : decode cX10_holdOn 181 = .ok (.iastore, 1) := by decide +kernel
theorem dX10_holdOn_182 : decode cX10_holdOn 182 = .ok (.aload_n 0, 1) := by decide +kernel
theorem dX10_holdOn_183 : decode cX10_holdOn 183 = .ok (.invokevirtual 63, 3) := by decide +kernel
theorem dX10_holdOn_186 : decode cX10_holdOn 186 = .ok (.return_, 1) := by decide +kernel
set_option maxRecDepth 20000 in
theorem ggX10_holdUpTo_X10_halfWindow : GoodIn wsX10_holdUpTo wsX10_halfWindow := goodIn_r _ [6, 1, 27, 28, 29, 30, 31, 32, 33, 34, 35, 36, 37, 38, 39, 40, 41, 42, 43, 44] (by decide +kernel) (by decide +kernel)
set_option maxRecDepth 20000 in
theorem gX10_holdUpTo_X10_halfWindow : GoodIn wsX10_holdUpTo (wsV RX10 81 RX10 yX10_halfWindow wsX10_halfWindow) := goodIn_app (goodIn_of _ (by decide +kernel)) ggX10_holdUpTo_X10_halfWindow
set_option maxRecDepth 20000 in
theorem ggX10_holdUpTo_X10_holdOn : GoodIn wsX10_holdUpTo wsX10_holdOn := goodIn_r _ [10, 1, 11, 12, 13, 5, 14, 15, 16, 17, 18, 19, 20, 21, 22, 23, 24, 25, 26, 27, 28, 29, 30, 31, 32, 33, 34, 35, 36, 37, 38, 39, 40, 41, 42, 43, 44] (by decide +kernel) (by decide +kernel)
set_option maxRecDepth 20000 in
theorem gX10_holdUpTo_X10_holdOn : GoodIn wsX10_holdUpTo (wsV RX10 89 RX10 yX10_holdOn wsX10_holdOn) := goodIn_app (goodIn_of _ (by decide +kernel)) ggX10_holdUpTo_X10_holdOn
theorem dX10_holdUpTo_0 : decode cX10_holdUpTo 0 = .ok (.aload_n 0, 1) := by decide +kernel
theorem dX10_holdUpTo_1 : decode cX10_holdUpTo 1 = .ok (.getfield 7, 3) := by decide +kernel
theorem dX10_holdUpTo_4 : decode cX10_holdUpTo 4 = .ok (.bipush 11, 2) := by decide +kernel
theorem dX10_holdUpTo_6 : decode cX10_holdUpTo 6 = .ok (.iaload, 1) := by decide +kernel
theorem dX10_holdUpTo_7 : decode cX10_holdUpTo 7 = .ok (.ifCond .lt 28, 3) := by decide +kernel
theorem dX10_holdUpTo_10 : decode cX10_holdUpTo 10 = .ok (.aload_n 0, 1) := by decide +kernel
theorem dX10_holdUpTo_11 : decode cX10_holdUpTo 11 = .ok (.getfield 7, 3) := by decide +kernel
theorem dX10_holdUpTo_14 : decode cX10_holdUpTo 14 = .ok (.bipush 11, 2) := by decide +kernel
theorem dX10_holdUpTo_16 : decode cX10_holdUpTo 16 = .ok (.iaload, 1) := by decide +kernel
theorem dX10_holdUpTo_17 : decode cX10_holdUpTo 17 = .ok (.aload_n 0, 1) := by decide +kernel
theorem dX10_holdUpTo_18 : decode cX10_holdUpTo 18 = .ok (.invokevirtual 81, 3) := by decide +kernel
theorem dX10_holdUpTo_21 : decode cX10_holdUpTo 21 = .ok (.iadd, 1) := by decide +kernel
theorem dX10_holdUpTo_22 : decode cX10_holdUpTo 22 = .ok (.iconst 1, 1) := by decide +kernel
theorem dX10_holdUpTo_23 : decode cX10_holdUpTo 23 = .ok (.iadd, 1) := by decide +kernel
theorem dX10_holdUpTo_24 : decode cX10_holdUpTo 24 = .ok (.iload_n 1, 1) := by decide +kernel
theorem dX10_holdUpTo_25 : decode cX10_holdUpTo 25 = .ok (.if_icmp .gt 10, 3) := by decide +kernel
theorem dX10_holdUpTo_28 : decode cX10_holdUpTo 28 = .ok (.aload_n 0, 1) := by decide +kernel
theorem dX10_holdUpTo_29 : decode cX10_holdUpTo 29 = .ok (.invokevirtual 89, 3) := by decide +kernel
theorem dX10_holdUpTo_32 : decode cX10_holdUpTo 32 = .ok (.goto (-32), 3) := by decide +kernel
theorem dX10_holdUpTo_35 : decode cX10_holdUpTo 35 = .ok (.return_, 1) := by decide +kernel
set_option maxRecDepth 20000 in
theorem ggX10_happenUpTo_X10_ofB : GoodIn wsX10_happenUpTo wsX10_ofB := goodIn_r _ [7, 1, 62, 63, 64, 65, 66, 67, 68, 69, 70, 71, 72, 73, 74, 75, 76, 77, 78, 79] (by decide +kernel) (by decide +kernel)
set_option maxRecDepth 20000 in
theorem gX10_happenUpTo_X10_ofB : GoodIn wsX10_happenUpTo (wsV RX10 52 RX10 yX10_ofB wsX10_ofB) := goodIn_app (goodIn_of _ (by decide +kernel)) ggX10_happenUpTo_X10_ofB
set_option maxRecDepth 20000 in
theorem ggX10_happenUpTo_X10_holdUpTo : GoodIn wsX10_happenUpTo wsX10_holdUpTo := goodIn_r _ [11, 1, 12, 13, 14, 6, 15, 16, 17, 18, 19, 20, 21, 22, 23, 24, 25, 26, 27, 28, 29, 30, 31, 32, 33, 34, 35, 62, 63, 64, 65, 66, 67, 68, 69, 70, 71, 72, 73, 74, 75, 76, 77, 78, 79] (by decide +kernel) (by decide +kernel)
set_option maxRecDepth 20000 in
theorem gX10_happenUpTo_X10_holdUpTo : GoodIn wsX10_happenUpTo (wsV RX10 92 RX10 yX10_holdUpTo wsX10_holdUpTo) := goodIn_app (goodIn_of _ (by decide +kernel)) ggX10_happenUpTo_X10_holdUpTo
set_option maxRecDepth 20000 in
theorem ggX10_happenUpTo_X10_hear : GoodIn wsX10_happenUpTo wsX10_hear := goodIn_r _ [39, 1, 2, 40, 41, 42, 6, 43, 3, 4, 5, 7, 20, 21, 22, 23, 44, 45, 46, 47, 48, 49, 50, 51, 32, 33, 34, 35, 12, 13, 14, 15, 24, 25, 26, 27, 28, 29, 30, 31, 52, 53, 54, 55, 56, 57, 58, 59, 60, 61, 62, 63, 64, 65, 66, 67, 68, 69, 70, 71, 72, 73, 74, 75, 76, 77, 78, 79] (by decide +kernel) (by decide +kernel)
set_option maxRecDepth 20000 in
theorem gX10_happenUpTo_X10_hear : GoodIn wsX10_happenUpTo (wsV RX10 95 RX10 yX10_hear wsX10_hear) := goodIn_app (goodIn_of _ (by decide +kernel)) ggX10_happenUpTo_X10_hear
theorem dX10_happenUpTo_0 : decode cX10_happenUpTo 0 = .ok (.aload_n 0, 1) := by decide +kernel
theorem dX10_happenUpTo_1 : decode cX10_happenUpTo 1 = .ok (.getfield 7, 3) := by decide +kernel
theorem dX10_happenUpTo_4 : decode cX10_happenUpTo 4 = .ok (.bipush 14, 2) := by decide +kernel
theorem dX10_happenUpTo_6 : decode cX10_happenUpTo 6 = .ok (.iaload, 1) := by decide +kernel
theorem dX10_happenUpTo_7 : decode cX10_happenUpTo 7 = .ok (.aload_n 0, 1) := by decide +kernel
theorem dX10_happenUpTo_8 : decode cX10_happenUpTo 8 = .ok (.getfield 7, 3) := by decide +kernel
theorem dX10_happenUpTo_11 : decode cX10_happenUpTo 11 = .ok (.bipush 22, 2) := by decide +kernel
theorem dX10_happenUpTo_13 : decode cX10_happenUpTo 13 = .ok (.iaload, 1) := by decide +kernel
theorem dX10_happenUpTo_14 : decode cX10_happenUpTo 14 = .ok (.if_icmp .ge 65, 3) := by decide +kernel
theorem dX10_happenUpTo_17 : decode cX10_happenUpTo 17 = .ok (.iconst 4, 1) := by decide +kernel
theorem dX10_happenUpTo_18 : decode cX10_happenUpTo 18 = .ok (.aload_n 0, 1) := by decide +kernel
theorem dX10_happenUpTo_19 : decode cX10_happenUpTo 19 = .ok (.aload_n 0, 1) := by decide +kernel
theorem dX10_happenUpTo_20 : decode cX10_happenUpTo 20 = .ok (.getfield 7, 3) := by decide +kernel
theorem dX10_happenUpTo_23 : decode cX10_happenUpTo 23 = .ok (.bipush 14, 2) := by decide +kernel
theorem dX10_happenUpTo_25 : decode cX10_happenUpTo 25 = .ok (.iaload, 1) := by decide +kernel
theorem dX10_happenUpTo_26 : decode cX10_happenUpTo 26 = .ok (.iconst 0, 1) := by decide +kernel
theorem dX10_happenUpTo_27 : decode cX10_happenUpTo 27 = .ok (.invokevirtual 52, 3) := by decide +kernel
theorem dX10_happenUpTo_30 : decode cX10_happenUpTo 30 = .ok (.imul, 1) := by decide +kernel
theorem dX10_happenUpTo_31 : decode cX10_happenUpTo 31 = .ok (.iload_n 1, 1) := by decide +kernel
theorem dX10_happenUpTo_32 : decode cX10_happenUpTo 32 = .ok (.if_icmp .gt 47, 3) := by decide +kernel
theorem dX10_happenUpTo_35 : decode cX10_happenUpTo 35 = .ok (.aload_n 0, 1) := by decide +kernel
theorem dX10_happenUpTo_36 : decode cX10_happenUpTo 36 = .ok (.aload_n 0, 1) := by decide +kernel
theorem dX10_happenUpTo_37 : decode cX10_happenUpTo 37 = .ok (.getfield 7, 3) := by decide +kernel
theorem dX10_happenUpTo_40 : decode cX10_happenUpTo 40 = .ok (.bipush 14, 2) := by decide +kernel
theorem dX10_happenUpTo_42 : decode cX10_happenUpTo 42 = .ok (.iaload, 1) := by decide +kernel
theorem dX10_happenUpTo_43 : decode cX10_happenUpTo 43 = .ok (.aload_n 0, 1) := by decide +kernel
theorem dX10_happenUpTo_44 : decode cX10_happenUpTo 44 = .ok (.getfield 26, 3) := by decide +kernel
theorem dX10_happenUpTo_47 : decode cX10_happenUpTo 47 = .ok (.if_icmp .ne 8, 3) := by decide +kernel
theorem dX10_happenUpTo_50 : decode cX10_happenUpTo 50 = .ok (.bipush (-6), 2) := by decide +kernel
theorem dX10_happenUpTo_52 : decode cX10_happenUpTo 52 = .ok (.goto 17, 3) := by decide +kernel
theorem dX10_happenUpTo_55 : decode cX10_happenUpTo 55 = .ok (.iconst 4, 1) := by decide +kernel
theorem dX10_happenUpTo_56 : decode cX10_happenUpTo 56 = .ok (.aload_n 0, 1) := by decide +kernel
theorem dX10_happenUpTo_57 : decode cX10_happenUpTo 57 = .ok (.aload_n 0, 1) := by decide +kernel
theorem dX10_happenUpTo_58 : decode cX10_happenUpTo 58 = .ok (.getfield 7, 3) := by decide +kernel
theorem dX10_happenUpTo_61 : decode cX10_happenUpTo 61 = .ok (.bipush 14, 2) := by decide +kernel
theorem dX10_happenUpTo_63 : decode cX10_happenUpTo 63 = .ok (.iaload, 1) := by decide +kernel
theorem dX10_happenUpTo_64 : decode cX10_happenUpTo 64 = .ok (.iconst 0, 1) := by decide +kernel
theorem dX10_happenUpTo_65 : decode cX10_happenUpTo 65 = .ok (.invokevirtual 52, 3) := by decide +kernel
theorem dX10_happenUpTo_68 : decode cX10_happenUpTo 68 = .ok (.imul, 1) := by decide +kernel
theorem dX10_happenUpTo_69 : decode cX10_happenUpTo 69 = .ok (.invokevirtual 92, 3) := by decide +kernel
theorem dX10_happenUpTo_72 : decode cX10_happenUpTo 72 = .ok (.aload_n 0, 1) := by decide +kernel
theorem dX10_happenUpTo_73 : decode cX10_happenUpTo 73 = .ok (.invokevirtual 95, 3) := by decide +kernel
theorem dX10_happenUpTo_76 : decode cX10_happenUpTo 76 = .ok (.goto (-76), 3) := by decide +kernel
theorem dX10_happenUpTo_79 : decode cX10_happenUpTo 79 = .ok (.aload_n 0, 1) := by decide +kernel
theorem dX10_happenUpTo_80 : decode cX10_happenUpTo 80 = .ok (.iload_n 1, 1) := by decide +kernel
theorem dX10_happenUpTo_81 : decode cX10_happenUpTo 81 = .ok (.invokevirtual 92, 3) := by decide +kernel
theorem dX10_happenUpTo_84 : decode cX10_happenUpTo 84 = .ok (.return_, 1) := by decide +kernel
theorem dX10_lowest_0 : decode cX10_lowest 0 = .ok (.iload_n 0, 1) := by decide +kernel
theorem dX10_lowest_1 : decode cX10_lowest 1 = .ok (.tableswitch 54 0 7 #[47, 50, 54, 54, 54, 52, 52, 52], 47) := by decide +kernel
theorem dX10_lowest_48 : decode cX10_lowest 48 = .ok (.bipush 20, 2) := by decide +kernel
theorem dX10_lowest_50 : decode cX10_lowest 50 = .ok (.ireturn, 1) := by decide +kernel
theorem dX10_lowest_51 : decode cX10_lowest 51 = .ok (.iconst 5, 1) := by decide +kernel
theorem dX10_lowest_52 : decode cX10_lowest 52 = .ok (.ireturn, 1) := by decide +kernel
theorem dX10_lowest_53 : decode cX10_lowest 53 = .ok (.iconst 1, 1) := by decide +kernel
theorem dX10_lowest_54 : decode cX10_lowest 54 = .ok (.ireturn, 1) := by decide +kernel
theorem dX10_lowest_55 : decode cX10_lowest 55 = .ok (.iconst 0, 1) := by decide +kernel
theorem dX10_lowest_56 : decode cX10_lowest 56 = .ok (.ireturn, 1) := by decide +kernel
theorem dX10_highest_0 : decode cX10_highest 0 = .ok (.iload_n 0, 1) := by decide +kernel
theorem dX10_highest_1 : decode cX10_highest 1 = .ok (.tableswitch 63 0 7 #[47, 51, 54, 54, 57, 63, 63, 60], 47) := by decide +kernel
theorem dX10_highest_48 : decode cX10_highest 48 = .ok (.sipush 400, 3) := by decide +kernel
theorem dX10_highest_51 : decode cX10_highest 51 = .ok (.ireturn, 1) := by decide +kernel
theorem dX10_highest_52 : decode cX10_highest 52 = .ok (.bipush 50, 2) := by decide +kernel
theorem dX10_highest_54 : decode cX10_highest 54 = .ok (.ireturn, 1) := by decide +kernel
theorem dX10_highest_55 : decode cX10_highest 55 = .ok (.bipush 16, 2) := by decide +kernel
theorem dX10_highest_57 : decode cX10_highest 57 = .ok (.ireturn, 1) := by decide +kernel
theorem dX10_highest_58 : decode cX10_highest 58 = .ok (.bipush 40, 2) := by decide +kernel
theorem dX10_highest_60 : decode cX10_highest 60 = .ok (.ireturn, 1) := by decide +kernel
theorem dX10_highest_61 : decode cX10_highest 61 = .ok (.bipush 20, 2) := by decide +kernel
theorem dX10_highest_63 : decode cX10_highest 63 = .ok (.ireturn, 1) := by decide +kernel
theorem dX10_highest_64 : decode cX10_highest 64 = .ok (.bipush 8, 2) := by decide +kernel
theorem dX10_highest_66 : decode cX10_highest 66 = .ok (.ireturn, 1) := by decide +kernel
set_option maxRecDepth 20000 in
theorem ggX10_set_X10_in : GoodIn wsX10_set wsX10_in := goodIn_r _ [5] (by decide +kernel) (by decide +kernel)
set_option maxRecDepth 20000 in
theorem gX10_set_X10_in : GoodIn wsX10_set (va_wsS RX10 98 yX10_in wsX10_in) := goodIn_app (goodIn_of _ (by decide +kernel)) ggX10_set_X10_in
set_option maxRecDepth 20000 in
theorem ggX10_set_X10_lowest : GoodIn wsX10_set wsX10_lowest := goodIn_r _ [8] (by decide +kernel) (by decide +kernel)
set_option maxRecDepth 20000 in
theorem gX10_set_X10_lowest : GoodIn wsX10_set (va_wsS RX10 102 yX10_lowest wsX10_lowest) := goodIn_app (goodIn_of _ (by decide +kernel)) ggX10_set_X10_lowest
set_option maxRecDepth 20000 in
theorem ggX10_set_X10_highest : GoodIn wsX10_set wsX10_highest := goodIn_r _ [11] (by decide +kernel) (by decide +kernel)
set_option maxRecDepth 20000 in
theorem gX10_set_X10_highest : GoodIn wsX10_set (va_wsS RX10 105 yX10_highest wsX10_highest) := goodIn_app (goodIn_of _ (by decide +kernel)) ggX10_set_X10_highest
set_option maxRecDepth 20000 in
theorem ggX10_set_X10_keep : GoodIn wsX10_set wsX10_keep := goodIn_r _ [15, 16, 17, 18, 1, 19, 20, 21, 22, 23, 24, 25, 26, 27, 28, 29, 30, 31, 32, 33, 34, 35, 36] (by decide +kernel) (by decide +kernel)
set_option maxRecDepth 20000 in
theorem gX10_set_X10_keep : GoodIn wsX10_set (wsV RX10 108 RX10 yX10_keep wsX10_keep) := goodIn_app (goodIn_of _ (by decide +kernel)) ggX10_set_X10_keep
theorem dX10_set_0 : decode cX10_set 0 = .ok (.iload_n 1, 1) := by decide +kernel
theorem dX10_set_1 : decode cX10_set 1 = .ok (.iconst 0, 1) := by decide +kernel
theorem dX10_set_2 : decode cX10_set 2 = .ok (.bipush 7, 2) := by decide +kernel
theorem dX10_set_4 : decode cX10_set 4 = .ok (.invokestatic 98, 3) := by decide +kernel
theorem dX10_set_7 : decode cX10_set 7 = .ok (.ifCond .eq 18, 3) := by decide +kernel
theorem dX10_set_10 : decode cX10_set 10 = .ok (.iload_n 2, 1) := by decide +kernel
theorem dX10_set_11 : decode cX10_set 11 = .ok (.iload_n 1, 1) := by decide +kernel
theorem dX10_set_12 : decode cX10_set 12 = .ok (.invokestatic 102, 3) := by decide +kernel
theorem dX10_set_15 : decode cX10_set 15 = .ok (.iload_n 1, 1) := by decide +kernel
theorem dX10_set_16 : decode cX10_set 16 = .ok (.invokestatic 105, 3) := by decide +kernel
theorem dX10_set_19 : decode cX10_set 19 = .ok (.invokestatic 98, 3) := by decide +kernel
theorem dX10_set_22 : decode cX10_set 22 = .ok (.ifCond .ne 6, 3) := by decide +kernel
theorem dX10_set_25 : decode cX10_set 25 = .ok (.bipush (-2), 2) := by decide +kernel
theorem dX10_set_27 : decode cX10_set 27 = .ok (.ireturn, 1) := by decide +kernel
theorem dX10_set_28 : decode cX10_set 28 = .ok (.iload_n 1, 1) := by decide +kernel
theorem dX10_set_29 : decode cX10_set 29 = .ok (.ifCond .ne 16, 3) := by decide +kernel
theorem dX10_set_32 : decode cX10_set 32 = .ok (.aload_n 0, 1) := by decide +kernel
theorem dX10_set_33 : decode cX10_set 33 = .ok (.getfield 7, 3) := by decide +kernel
theorem dX10_set_36 : decode cX10_set 36 = .ok (.bipush 11, 2) := by decide +kernel
theorem dX10_set_38 : decode cX10_set 38 = .ok (.iaload, 1) := by decide +kernel
theorem dX10_set_39 : decode cX10_set 39 = .ok (.ifCond .lt 6, 3) := by decide +kernel
theorem dX10_set_42 : decode cX10_set 42 = .ok (.bipush (-5), 2) := by decide +kernel
theorem dX10_set_44 : decode cX10_set 44 = .ok (.ireturn, 1) := by decide +kernel
theorem dX10_set_45 : decode cX10_set 45 = .ok (.aload_n 0, 1) := by decide +kernel
theorem dX10_set_46 : decode cX10_set 46 = .ok (.invokevirtual 108, 3) := by decide +kernel
theorem dX10_set_49 : decode cX10_set 49 = .ok (.aload_n 0, 1) := by decide +kernel
theorem dX10_set_50 : decode cX10_set 50 = .ok (.getfield 7, 3) := by decide +kernel
theorem dX10_set_53 : decode cX10_set 53 = .ok (.iload_n 1, 1) := by decide +kernel
theorem dX10_set_54 : decode cX10_set 54 = .ok (.iaload, 1) := by decide +kernel
theorem dX10_set_55 : decode cX10_set 55 = .ok (.istore_n 3, 1) := by decide +kernel
theorem dX10_set_56 : decode cX10_set 56 = .ok (.aload_n 0, 1) := by decide +kernel
theorem dX10_set_57 : decode cX10_set 57 = .ok (.getfield 7, 3) := by decide +kernel
theorem dX10_set_60 : decode cX10_set 60 = .ok (.iload_n 1, 1) := by decide +kernel
theorem dX10_set_61 : decode cX10_set 61 = .ok (.iload_n 2, 1) := by decide +kernel
theorem dX10_set_62 : decode cX10_set 62 = .ok (.iastore, 1) := by decide +kernel
theorem dX10_set_63 : decode cX10_set 63 = .ok (.aload_n 0, 1) := by decide +kernel
theorem dX10_set_64 : decode cX10_set 64 = .ok (.getfield 7, 3) := by decide +kernel
theorem dX10_set_67 : decode cX10_set 67 = .ok (.bipush 10, 2) := by decide +kernel
theorem dX10_set_69 : decode cX10_set 69 = .ok (.iload_n 1, 1) := by decide +kernel
theorem dX10_set_70 : decode cX10_set 70 = .ok (.ifCond .ne 9, 3) := by decide +kernel
theorem dX10_set_73 : decode cX10_set 73 = .ok (.iconst 4, 1) := by decide +kernel
theorem dX10_set_74 : decode cX10_set 74 = .ok (.iload_n 2, 1) := by decide +kernel
theorem dX10_set_75 : decode cX10_set 75 = .ok (.imul, 1) := by decide +kernel
theorem dX10_set_76 : decode cX10_set 76 = .ok (.goto 10, 3) := by decide +kernel
theorem dX10_set_79 : decode cX10_set 79 = .ok (.aload_n 0, 1) := by decide +kernel
theorem dX10_set_80 : decode cX10_set 80 = .ok (.getfield 7, 3) := by decide +kernel
theorem dX10_set_83 : decode cX10_set 83 = .ok (.bipush 10, 2) := by decide +kernel
theorem dX10_set_85 : decode cX10_set 85 = .ok (.iaload, 1) := by decide +kernel
theorem dX10_set_86 : decode cX10_set 86 = .ok (.iastore, 1) := by decide +kernel
theorem dX10_set_87 : decode cX10_set 87 = .ok (.iload_n 3, 1) := by decide +kernel
theorem dX10_set_88 : decode cX10_set 88 = .ok (.ireturn, 1) := by decide +kernel
set_option maxRecDepth 20000 in
theorem ggX10_lastTime_X10_ofB : GoodIn wsX10_lastTime wsX10_ofB := goodIn_r _ [6, 1, 7, 8, 9, 10, 11, 12, 13, 14, 15, 16, 17, 18, 19, 20, 21, 22, 23, 24] (by decide +kernel) (by decide +kernel)
set_option maxRecDepth 20000 in
theorem gX10_lastTime_X10_ofB : GoodIn wsX10_lastTime (wsV RX10 52 RX10 yX10_ofB wsX10_ofB) := goodIn_app (goodIn_of _ (by decide +kernel)) ggX10_lastTime_X10_ofB
theorem dX10_lastTime_0 : decode cX10_lastTime 0 = .ok (.aload_n 0, 1) := by decide +kernel
theorem dX10_lastTime_1 : decode cX10_lastTime 1 = .ok (.getfield 7, 3) := by decide +kernel
theorem dX10_lastTime_4 : decode cX10_lastTime 4 = .ok (.bipush 22, 2) := by decide +kernel
theorem dX10_lastTime_6 : decode cX10_lastTime 6 = .ok (.iaload, 1) := by decide +kernel
theorem dX10_lastTime_7 : decode cX10_lastTime 7 = .ok (.ifCond .ne 7, 3) := by decide +kernel
theorem dX10_lastTime_10 : decode cX10_lastTime 10 = .ok (.iconst 0, 1) := by decide +kernel
theorem dX10_lastTime_11 : decode cX10_lastTime 11 = .ok (.goto 17, 3) := by decide +kernel
theorem dX10_lastTime_14 : decode cX10_lastTime 14 = .ok (.aload_n 0, 1) := by decide +kernel
theorem dX10_lastTime_15 : decode cX10_lastTime 15 = .ok (.aload_n 0, 1) := by decide +kernel
theorem dX10_lastTime_16 : decode cX10_lastTime 16 = .ok (.getfield 7, 3) := by decide +kernel
theorem dX10_lastTime_19 : decode cX10_lastTime 19 = .ok (.bipush 22, 2) := by decide +kernel
theorem dX10_lastTime_21 : decode cX10_lastTime 21 = .ok (.iaload, 1) := by decide +kernel
theorem dX10_lastTime_22 : decode cX10_lastTime 22 = .ok (.iconst 1, 1) := by decide +kernel
theorem dX10_lastTime_23 : decode cX10_lastTime 23 = .ok (.isub, 1) := by decide +kernel
theorem dX10_lastTime_24 : decode cX10_lastTime 24 = .ok (.iconst 0, 1) := by decide +kernel
theorem dX10_lastTime_25 : decode cX10_lastTime 25 = .ok (.invokevirtual 52, 3) := by decide +kernel
theorem dX10_lastTime_28 : decode cX10_lastTime 28 = .ok (.ireturn, 1) := by decide +kernel
set_option maxRecDepth 20000 in
theorem ggX10_nextTrue_X10_ofB : GoodIn wsX10_nextTrue wsX10_ofB := goodIn_r _ [6, 1, 7, 8, 9, 10, 11, 12, 13, 14, 15, 16, 17, 18, 19, 20, 21, 22, 23, 24] (by decide +kernel) (by decide +kernel)
set_option maxRecDepth 20000 in
theorem gX10_nextTrue_X10_ofB : GoodIn wsX10_nextTrue (wsV RX10 52 RX10 yX10_ofB wsX10_ofB) := goodIn_app (goodIn_of _ (by decide +kernel)) ggX10_nextTrue_X10_ofB
theorem dX10_nextTrue_0 : decode cX10_nextTrue 0 = .ok (.aload_n 0, 1) := by decide +kernel
theorem dX10_nextTrue_1 : decode cX10_nextTrue 1 = .ok (.getfield 7, 3) := by decide +kernel
theorem dX10_nextTrue_4 : decode cX10_nextTrue 4 = .ok (.bipush 22, 2) := by decide +kernel
theorem dX10_nextTrue_6 : decode cX10_nextTrue 6 = .ok (.iaload, 1) := by decide +kernel
theorem dX10_nextTrue_7 : decode cX10_nextTrue 7 = .ok (.ifCond .ne 7, 3) := by decide +kernel
theorem dX10_nextTrue_10 : decode cX10_nextTrue 10 = .ok (.iconst 0, 1) := by decide +kernel
theorem dX10_nextTrue_11 : decode cX10_nextTrue 11 = .ok (.goto 19, 3) := by decide +kernel
theorem dX10_nextTrue_14 : decode cX10_nextTrue 14 = .ok (.aload_n 0, 1) := by decide +kernel
theorem dX10_nextTrue_15 : decode cX10_nextTrue 15 = .ok (.aload_n 0, 1) := by decide +kernel
theorem dX10_nextTrue_16 : decode cX10_nextTrue 16 = .ok (.getfield 7, 3) := by decide +kernel
theorem dX10_nextTrue_19 : decode cX10_nextTrue 19 = .ok (.bipush 22, 2) := by decide +kernel
theorem dX10_nextTrue_21 : decode cX10_nextTrue 21 = .ok (.iaload, 1) := by decide +kernel
theorem dX10_nextTrue_22 : decode cX10_nextTrue 22 = .ok (.iconst 1, 1) := by decide +kernel
theorem dX10_nextTrue_23 : decode cX10_nextTrue 23 = .ok (.isub, 1) := by decide +kernel
theorem dX10_nextTrue_24 : decode cX10_nextTrue 24 = .ok (.iconst 1, 1) := by decide +kernel
theorem dX10_nextTrue_25 : decode cX10_nextTrue 25 = .ok (.invokevirtual 52, 3) := by decide +kernel
theorem dX10_nextTrue_28 : decode cX10_nextTrue 28 = .ok (.iconst 1, 1) := by decide +kernel
theorem dX10_nextTrue_29 : decode cX10_nextTrue 29 = .ok (.iadd, 1) := by decide +kernel
theorem dX10_nextTrue_30 : decode cX10_nextTrue 30 = .ok (.ireturn, 1) := by decide +kernel
set_option maxRecDepth 20000 in
theorem ggX10_addBeat_X10_layB : GoodIn wsX10_addBeat wsX10_layB := goodIn_r _ [6, 1, 11, 12, 13, 14, 15, 16, 17, 18, 19, 20, 21, 22, 23, 24, 25, 26, 27, 28] (by decide +kernel) (by decide +kernel)
set_option maxRecDepth 20000 in
theorem gX10_addBeat_X10_layB : GoodIn wsX10_addBeat (wsV RX10 45 RX10 yX10_layB wsX10_layB) := goodIn_app (goodIn_of _ (by decide +kernel)) ggX10_addBeat_X10_layB
set_option maxRecDepth 20000 in
theorem ggX10_addBeat_X10_become : GoodIn wsX10_addBeat wsX10_become := goodIn_r _ [10, 2, 3, 4, 5, 6, 1, 11, 12, 13, 14, 15, 16, 17, 18, 19, 20, 21, 22, 23, 24, 25, 26, 27, 28] (by decide +kernel) (by decide +kernel)
set_option maxRecDepth 20000 in
theorem gX10_addBeat_X10_become : GoodIn wsX10_addBeat (wsV RX10 59 RX10 yX10_become wsX10_become) := goodIn_app (goodIn_of _ (by decide +kernel)) ggX10_addBeat_X10_become
theorem dX10_addBeat_0 : decode cX10_addBeat 0 = .ok (.aload_n 0, 1) := by decide +kernel
theorem dX10_addBeat_1 : decode cX10_addBeat 1 = .ok (.getfield 7, 3) := by decide +kernel
theorem dX10_addBeat_4 : decode cX10_addBeat 4 = .ok (.bipush 22, 2) := by decide +kernel
theorem dX10_addBeat_6 : decode cX10_addBeat 6 = .ok (.iaload, 1) := by decide +kernel
theorem dX10_addBeat_7 : decode cX10_addBeat 7 = .ok (.istore_n 3, 1) := by decide +kernel
theorem dX10_addBeat_8 : decode cX10_addBeat 8 = .ok (.aload_n 0, 1) := by decide +kernel
theorem dX10_addBeat_9 : decode cX10_addBeat 9 = .ok (.iload_n 3, 1) := by decide +kernel
theorem dX10_addBeat_10 : decode cX10_addBeat 10 = .ok (.iconst 0, 1) := by decide +kernel
theorem dX10_addBeat_11 : decode cX10_addBeat 11 = .ok (.iload_n 1, 1) := by decide +kernel
theorem dX10_addBeat_12 : decode cX10_addBeat 12 = .ok (.invokevirtual 45, 3) := by decide +kernel
theorem dX10_addBeat_15 : decode cX10_addBeat 15 = .ok (.aload_n 0, 1) := by decide +kernel
theorem dX10_addBeat_16 : decode cX10_addBeat 16 = .ok (.iload_n 3, 1) := by decide +kernel
theorem dX10_addBeat_17 : decode cX10_addBeat 17 = .ok (.iconst 1, 1) := by decide +kernel
theorem dX10_addBeat_18 : decode cX10_addBeat 18 = .ok (.iload_n 2, 1) := by decide +kernel
theorem dX10_addBeat_19 : decode cX10_addBeat 19 = .ok (.invokevirtual 45, 3) := by decide +kernel
theorem dX10_addBeat_22 : decode cX10_addBeat 22 = .ok (.aload_n 0, 1) := by decide +kernel
theorem dX10_addBeat_23 : decode cX10_addBeat 23 = .ok (.iload_n 3, 1) := by decide +kernel
theorem dX10_addBeat_24 : decode cX10_addBeat 24 = .ok (.iconst 0, 1) := by decide +kernel
theorem dX10_addBeat_25 : decode cX10_addBeat 25 = .ok (.bipush (-6), 2) := by decide +kernel
theorem dX10_addBeat_27 : decode cX10_addBeat 27 = .ok (.bipush (-6), 2) := by decide +kernel
theorem dX10_addBeat_29 : decode cX10_addBeat 29 = .ok (.bipush (-6), 2) := by decide +kernel
theorem dX10_addBeat_31 : decode cX10_addBeat 31 = .ok (.invokevirtual 59, 3) := by decide +kernel
theorem dX10_addBeat_34 : decode cX10_addBeat 34 = .ok (.aload_n 0, 1) := by decide +kernel
theorem dX10_addBeat_35 : decode cX10_addBeat 35 = .ok (.getfield 7, 3) := by decide +kernel
theorem dX10_addBeat_38 : decode cX10_addBeat 38 = .ok (.bipush 22, 2) := by decide +kernel
theorem dX10_addBeat_40 : decode cX10_addBeat 40 = .ok (.dup2, 1) := by decide +kernel
theorem dX10_addBeat_41 : decode cX10_addBeat 41 = .ok (.iaload, 1) := by decide +kernel
theorem dX10_addBeat_42 : decode cX10_addBeat 42 = .ok (.iconst 1, 1) := by decide +kernel
theorem dX10_addBeat_43 : decode cX10_addBeat 43 = .ok (.iadd, 1) := by decide +kernel
theorem dX10_addBeat_44 : decode cX10_addBeat 44 = .ok (.iastore, 1) := by decide +kernel
theorem dX10_addBeat_45 : decode cX10_addBeat 45 = .ok (.return_, 1) := by decide +kernel
set_option maxRecDepth 20000 in
theorem ggX10_beat_X10_in : GoodIn wsX10_beat wsX10_in := goodIn_r _ [6] (by decide +kernel) (by decide +kernel)
set_option maxRecDepth 20000 in
theorem gX10_beat_X10_in : GoodIn wsX10_beat (va_wsS RX10 98 yX10_in wsX10_in) := goodIn_app (goodIn_of _ (by decide +kernel)) ggX10_beat_X10_in
set_option maxRecDepth 20000 in
theorem ggX10_beat_X10_lastTime : GoodIn wsX10_beat wsX10_lastTime := goodIn_r _ [10, 1, 11, 12, 13, 5, 14, 38, 39, 40, 41, 42, 43, 44, 45, 46, 47, 48, 49, 50, 51, 52, 53, 54, 55] (by decide +kernel) (by decide +kernel)
set_option maxRecDepth 20000 in
theorem gX10_beat_X10_lastTime : GoodIn wsX10_beat (wsV RX10 111 RX10 yX10_lastTime wsX10_lastTime) := goodIn_app (goodIn_of _ (by decide +kernel)) ggX10_beat_X10_lastTime
set_option maxRecDepth 20000 in
theorem ggX10_beat_X10_nextTrue : GoodIn wsX10_beat wsX10_nextTrue := goodIn_r _ [18, 1, 11, 12, 13, 5, 14, 38, 39, 40, 41, 42, 43, 44, 45, 46, 47, 48, 49, 50, 51, 52, 53, 54, 55] (by decide +kernel) (by decide +kernel)
set_option maxRecDepth 20000 in
theorem gX10_beat_X10_nextTrue : GoodIn wsX10_beat (wsV RX10 114 RX10 yX10_nextTrue wsX10_nextTrue) := goodIn_app (goodIn_of _ (by decide +kernel)) ggX10_beat_X10_nextTrue
set_option maxRecDepth 20000 in
theorem ggX10_beat_X10_keep : GoodIn wsX10_beat wsX10_keep := goodIn_r _ [22, 23, 24, 25, 1, 38, 39, 40, 41, 42, 43, 44, 45, 46, 47, 48, 49, 50, 51, 52, 53, 54, 55] (by decide +kernel) (by decide +kernel)
set_option maxRecDepth 20000 in
theorem gX10_beat_X10_keep : GoodIn wsX10_beat (wsV RX10 108 RX10 yX10_keep wsX10_keep) := goodIn_app (goodIn_of _ (by decide +kernel)) ggX10_beat_X10_keep
set_option maxRecDepth 20000 in
theorem ggX10_beat_X10_addBeat : GoodIn wsX10_beat wsX10_addBeat := goodIn_r _ [29, 1, 30, 31, 32, 5, 33, 34, 35, 36, 37, 38, 39, 40, 41, 42, 43, 44, 45, 46, 47, 48, 49, 50, 51, 52, 53, 54, 55] (by decide +kernel) (by decide +kernel)
set_option maxRecDepth 20000 in
theorem gX10_beat_X10_addBeat : GoodIn wsX10_beat (wsV RX10 118 RX10 yX10_addBeat wsX10_addBeat) := goodIn_app (goodIn_of _ (by decide +kernel)) ggX10_beat_X10_addBeat
theorem dX10_beat_0 : decode cX10_beat 0 = .ok (.iload_n 1, 1) := by decide +kernel
theorem dX10_beat_1 : decode cX10_beat 1 = .ok (.iconst 1, 1) := by decide +kernel
theorem dX10_beat_2 : decode cX10_beat 2 = .ok (.sipush 9999, 3) := by decide +kernel
theorem dX10_beat_5 : decode cX10_beat 5 = .ok (.invokestatic 98, 3) := by decide +kernel
theorem dX10_beat_8 : decode cX10_beat 8 = .ok (.ifCond .eq 13, 3) := by decide +kernel
theorem dX10_beat_11 : decode cX10_beat 11 = .ok (.iload_n 2, 1) := by decide +kernel
theorem dX10_beat_12 : decode cX10_beat 12 = .ok (.iconst 0, 1) := by decide +kernel
theorem dX10_beat_13 : decode cX10_beat 13 = .ok (.bipush 99, 2) := by decide +kernel
theorem dX10_beat_15 : decode cX10_beat 15 = .ok (.invokestatic 98, 3) := by decide +kernel
theorem dX10_beat_18 : decode cX10_beat 18 = .ok (.ifCond .ne 6, 3) := by decide +kernel
theorem dX10_beat_21 : decode cX10_beat 21 = .ok (.bipush (-2), 2) := by decide +kernel
theorem dX10_beat_23 : decode cX10_beat 23 = .ok (.ireturn, 1) := by decide +kernel
theorem dX10_beat_24 : decode cX10_beat 24 = .ok (.aload_n 0, 1) := by decide +kernel
theorem dX10_beat_25 : decode cX10_beat 25 = .ok (.invokevirtual 111, 3) := by decide +kernel
theorem dX10_beat_28 : decode cX10_beat 28 = .ok (.iload_n 1, 1) := by decide +kernel
theorem dX10_beat_29 : decode cX10_beat 29 = .ok (.iadd, 1) := by decide +kernel
theorem dX10_beat_30 : decode cX10_beat 30 = .ok (.istore_n 3, 1) := by decide +kernel
theorem dX10_beat_31 : decode cX10_beat 31 = .ok (.aload_n 0, 1) := by decide +kernel
theorem dX10_beat_32 : decode cX10_beat 32 = .ok (.invokevirtual 114, 3) := by decide +kernel
theorem dX10_beat_35 : decode cX10_beat 35 = .ok (.iload_n 2, 1) := by decide +kernel
theorem dX10_beat_36 : decode cX10_beat 36 = .ok (.iadd, 1) := by decide +kernel
theorem dX10_beat_37 : decode cX10_beat 37 = .ok (.istore 4, 2) := by decide +kernel
theorem dX10_beat_39 : decode cX10_beat 39 = .ok (.aload_n 0, 1) := by decide +kernel
theorem dX10_beat_40 : decode cX10_beat 40 = .ok (.getfield 7, 3) := by decide +kernel
theorem dX10_beat_43 : decode cX10_beat 43 = .ok (.bipush 22, 2) := by decide +kernel
theorem dX10_beat_45 : decode cX10_beat 45 = .ok (.iaload, 1) := by decide +kernel
theorem dX10_beat_46 : decode cX10_beat 46 = .ok (.bipush 64, 2) := by decide +kernel
theorem dX10_beat_48 : decode cX10_beat 48 = .ok (.if_icmp .eq 17, 3) := by decide +kernel
theorem dX10_beat_51 : decode cX10_beat 51 = .ok (.iload_n 3, 1) := by decide +kernel
theorem dX10_beat_52 : decode cX10_beat 52 = .ok (.ldc 117, 2) := by decide +kernel
theorem dX10_beat_54 : decode cX10_beat 54 = .ok (.if_icmp .gt 11, 3) := by decide +kernel
theorem dX10_beat_57 : decode cX10_beat 57 = .ok (.iload 4, 2) := by decide +kernel
theorem dX10_beat_59 : decode cX10_beat 59 = .ok (.sipush 1000, 3) := by decide +kernel
theorem dX10_beat_62 : decode cX10_beat 62 = .ok (.if_icmp .le 6, 3) := by decide +kernel
theorem dX10_beat_65 : decode cX10_beat 65 = .ok (.bipush (-4), 2) := by decide +kernel
theorem dX10_beat_67 : decode cX10_beat 67 = .ok (.ireturn, 1) := by decide +kernel
theorem dX10_beat_68 : decode cX10_beat 68 = .ok (.iload_n 3, 1) := by decide +kernel
theorem dX10_beat_69 : decode cX10_beat 69 = .ok (.aload_n 0, 1) := by decide +kernel
theorem dX10_beat_70 : decode cX10_beat 70 = .ok (.getfield 7, 3) := by decide +kernel
theorem dX10_beat_73 : decode cX10_beat 73 = .ok (.bipush 8, 2) := by decide +kernel
theorem dX10_beat_75 : decode cX10_beat 75 = .ok (.iaload, 1) := by decide +kernel
theorem dX10_beat_76 : decode cX10_beat 76 = .ok (.if_icmp .gt 6, 3) := by decide +kernel
theorem dX10_beat_79 : decode cX10_beat 79 = .ok (.bipush (-5), 2) := by decide +kernel
theorem dX10_beat_81 : decode cX10_beat 81 = .ok (.ireturn, 1) := by decide +kernel
theorem dX10_beat_82 : decode cX10_beat 82 = .ok (.aload_n 0, 1) := by decide +kernel
theorem dX10_beat_83 : decode cX10_beat 83 = .ok (.invokevirtual 108, 3) := by decide +kernel
theorem dX10_beat_86 : decode cX10_beat 86 = .ok (.aload_n 0, 1) := by decide +kernel
theorem dX10_beat_87 : decode cX10_beat 87 = .ok (.iload_n 3, 1) := by decide +kernel
theorem dX10_beat_88 : decode cX10_beat 88 = .ok (.iload 4, 2) := by decide +kernel
theorem dX10_beat_90 : decode cX10_beat 90 = .ok (.invokevirtual 118, 3) := by decide +kernel
theorem dX10_beat_93 : decode cX10_beat 93 = .ok (.aload_n 0, 1) := by decide +kernel
theorem dX10_beat_94 : decode cX10_beat 94 = .ok (.getfield 7, 3) := by decide +kernel
theorem dX10_beat_97 : decode cX10_beat 97 = .ok (.bipush 22, 2) := by decide +kernel
theorem dX10_beat_99 : decode cX10_beat 99 = .ok (.iaload, 1) := by decide +kernel
theorem dX10_beat_100 : decode cX10_beat 100 = .ok (.ireturn, 1) := by decide +kernel
set_option maxRecDepth 20000 in
theorem ggX10_cut_X10_in : GoodIn wsX10_cut wsX10_in := goodIn_r _ [5] (by decide +kernel) (by decide +kernel)
set_option maxRecDepth 20000 in
theorem gX10_cut_X10_in : GoodIn wsX10_cut (va_wsS RX10 98 yX10_in wsX10_in) := goodIn_app (goodIn_of _ (by decide +kernel)) ggX10_cut_X10_in
set_option maxRecDepth 20000 in
theorem ggX10_cut_X10_keep : GoodIn wsX10_cut wsX10_keep := goodIn_r _ [9, 10, 11, 12, 1, 13, 14, 15, 16, 17, 18, 19, 20, 21, 22, 23, 24, 25, 26, 27, 28, 29, 30] (by decide +kernel) (by decide +kernel)
set_option maxRecDepth 20000 in
theorem gX10_cut_X10_keep : GoodIn wsX10_cut (wsV RX10 108 RX10 yX10_keep wsX10_keep) := goodIn_app (goodIn_of _ (by decide +kernel)) ggX10_cut_X10_keep
theorem dX10_cut_0 : decode cX10_cut 0 = .ok (.iload_n 1, 1) := by decide +kernel
theorem dX10_cut_1 : decode cX10_cut 1 = .ok (.iconst 1, 1) := by decide +kernel
theorem dX10_cut_2 : decode cX10_cut 2 = .ok (.bipush 64, 2) := by decide +kernel
theorem dX10_cut_4 : decode cX10_cut 4 = .ok (.invokestatic 98, 3) := by decide +kernel
theorem dX10_cut_7 : decode cX10_cut 7 = .ok (.ifCond .ne 6, 3) := by decide +kernel
theorem dX10_cut_10 : decode cX10_cut 10 = .ok (.bipush (-2), 2) := by decide +kernel
theorem dX10_cut_12 : decode cX10_cut 12 = .ok (.ireturn, 1) := by decide +kernel
theorem dX10_cut_13 : decode cX10_cut 13 = .ok (.iload_n 1, 1) := by decide +kernel
theorem dX10_cut_14 : decode cX10_cut 14 = .ok (.aload_n 0, 1) := by decide +kernel
theorem dX10_cut_15 : decode cX10_cut 15 = .ok (.getfield 7, 3) := by decide +kernel
theorem dX10_cut_18 : decode cX10_cut 18 = .ok (.bipush 22, 2) := by decide +kernel
theorem dX10_cut_20 : decode cX10_cut 20 = .ok (.iaload, 1) := by decide +kernel
theorem dX10_cut_21 : decode cX10_cut 21 = .ok (.aload_n 0, 1) := by decide +kernel
theorem dX10_cut_22 : decode cX10_cut 22 = .ok (.getfield 7, 3) := by decide +kernel
theorem dX10_cut_25 : decode cX10_cut 25 = .ok (.bipush 14, 2) := by decide +kernel
theorem dX10_cut_27 : decode cX10_cut 27 = .ok (.iaload, 1) := by decide +kernel
theorem dX10_cut_28 : decode cX10_cut 28 = .ok (.isub, 1) := by decide +kernel
theorem dX10_cut_29 : decode cX10_cut 29 = .ok (.if_icmp .le 6, 3) := by decide +kernel
theorem dX10_cut_32 : decode cX10_cut 32 = .ok (.bipush (-5), 2) := by decide +kernel
theorem dX10_cut_34 : decode cX10_cut 34 = .ok (.ireturn, 1) := by decide +kernel
theorem dX10_cut_35 : decode cX10_cut 35 = .ok (.aload_n 0, 1) := by decide +kernel
theorem dX10_cut_36 : decode cX10_cut 36 = .ok (.invokevirtual 108, 3) := by decide +kernel
theorem dX10_cut_39 : decode cX10_cut 39 = .ok (.aload_n 0, 1) := by decide +kernel
theorem dX10_cut_40 : decode cX10_cut 40 = .ok (.getfield 7, 3) := by decide +kernel
theorem dX10_cut_43 : decode cX10_cut 43 = .ok (.bipush 22, 2) := by decide +kernel
theorem dX10_cut_45 : decode cX10_cut 45 = .ok (.dup2, 1) := by decide +kernel
theorem dX10_cut_46 : decode cX10_cut 46 = .ok (.iaload, 1) := by decide +kernel
theorem dX10_cut_47 : decode cX10_cut 47 = .ok (.iload_n 1, 1) := by decide +kernel
theorem dX10_cut_48 : decode cX10_cut 48 = .ok (.isub, 1) := by decide +kernel
theorem dX10_cut_49 : decode cX10_cut 49 = .ok (.iastore, 1) := by decide +kernel
theorem dX10_cut_50 : decode cX10_cut 50 = .ok (.aload_n 0, 1) := by decide +kernel
theorem dX10_cut_51 : decode cX10_cut 51 = .ok (.getfield 7, 3) := by decide +kernel
theorem dX10_cut_54 : decode cX10_cut 54 = .ok (.bipush 22, 2) := by decide +kernel
theorem dX10_cut_56 : decode cX10_cut 56 = .ok (.iaload, 1) := by decide +kernel
theorem dX10_cut_57 : decode cX10_cut 57 = .ok (.ireturn, 1) := by decide +kernel
set_option maxRecDepth 20000 in
theorem ggX10_pass_X10_in : GoodIn wsX10_pass wsX10_in := goodIn_r _ [6] (by decide +kernel) (by decide +kernel)
set_option maxRecDepth 20000 in
theorem gX10_pass_X10_in : GoodIn wsX10_pass (va_wsS RX10 98 yX10_in wsX10_in) := goodIn_app (goodIn_of _ (by decide +kernel)) ggX10_pass_X10_in
set_option maxRecDepth 20000 in
theorem ggX10_pass_X10_keep : GoodIn wsX10_pass wsX10_keep := goodIn_r _ [10, 11, 12, 13, 1, 77, 78, 79, 80, 81, 82, 83, 84, 85, 86, 87, 88, 89, 90, 91, 92, 93, 94] (by decide +kernel) (by decide +kernel)
set_option maxRecDepth 20000 in
theorem gX10_pass_X10_keep : GoodIn wsX10_pass (wsV RX10 108 RX10 yX10_keep wsX10_keep) := goodIn_app (goodIn_of _ (by decide +kernel)) ggX10_pass_X10_keep
set_option maxRecDepth 20000 in
theorem ggX10_pass_X10_happenUpTo : GoodIn wsX10_pass wsX10_happenUpTo := goodIn_r _ [17, 1, 18, 19, 20, 21, 5, 22, 23, 24, 25, 26, 27, 28, 29, 30, 31, 32, 33, 34, 35, 36, 37, 38, 39, 40, 41, 42, 43, 44, 45, 46, 47, 48, 49, 50, 51, 52, 53, 54, 55, 56, 57, 58, 59, 60, 61, 62, 63, 64, 65, 66, 67, 68, 69, 70, 71, 72, 73, 74, 75, 76, 77, 78, 79, 80, 81, 82, 83, 84, 85, 86, 87, 88, 89, 90, 91, 92, 93, 94] (by decide +kernel) (by decide +kernel)
set_option maxRecDepth 20000 in
theorem gX10_pass_X10_happenUpTo : GoodIn wsX10_pass (wsV RX10 122 RX10 yX10_happenUpTo wsX10_happenUpTo) := goodIn_app (goodIn_of _ (by decide +kernel)) ggX10_pass_X10_happenUpTo
theorem dX10_pass_0 : decode cX10_pass 0 = .ok (.iload_n 1, 1) := by decide +kernel
theorem dX10_pass_1 : decode cX10_pass 1 = .ok (.iconst 1, 1) := by decide +kernel
theorem dX10_pass_2 : decode cX10_pass 2 = .ok (.sipush 10000, 3) := by decide +kernel
theorem dX10_pass_5 : decode cX10_pass 5 = .ok (.invokestatic 98, 3) := by decide +kernel
theorem dX10_pass_8 : decode cX10_pass 8 = .ok (.ifCond .ne 6, 3) := by decide +kernel
theorem dX10_pass_11 : decode cX10_pass 11 = .ok (.bipush (-2), 2) := by decide +kernel
theorem dX10_pass_13 : decode cX10_pass 13 = .ok (.ireturn, 1) := by decide +kernel
theorem dX10_pass_14 : decode cX10_pass 14 = .ok (.aload_n 0, 1) := by decide +kernel
theorem dX10_pass_15 : decode cX10_pass 15 = .ok (.getfield 7, 3) := by decide +kernel
theorem dX10_pass_18 : decode cX10_pass 18 = .ok (.bipush 8, 2) := by decide +kernel
theorem dX10_pass_20 : decode cX10_pass 20 = .ok (.iaload, 1) := by decide +kernel
theorem dX10_pass_21 : decode cX10_pass 21 = .ok (.iload_n 1, 1) := by decide +kernel
theorem dX10_pass_22 : decode cX10_pass 22 = .ok (.iadd, 1) := by decide +kernel
theorem dX10_pass_23 : decode cX10_pass 23 = .ok (.ldc 121, 2) := by decide +kernel
theorem dX10_pass_25 : decode cX10_pass 25 = .ok (.if_icmp .le 6, 3) := by decide +kernel
theorem dX10_pass_28 : decode cX10_pass 28 = .ok (.bipush (-4), 2) := by decide +kernel
theorem dX10_pass_30 : decode cX10_pass 30 = .ok (.ireturn, 1) := by decide +kernel
theorem dX10_pass_31 : decode cX10_pass 31 = .ok (.aload_n 0, 1) := by decide +kernel
theorem dX10_pass_32 : decode cX10_pass 32 = .ok (.invokevirtual 108, 3) := by decide +kernel
theorem dX10_pass_35 : decode cX10_pass 35 = .ok (.aload_n 0, 1) := by decide +kernel
theorem dX10_pass_36 : decode cX10_pass 36 = .ok (.getfield 7, 3) := by decide +kernel
theorem dX10_pass_39 : decode cX10_pass 39 = .ok (.bipush 8, 2) := by decide +kernel
theorem dX10_pass_41 : decode cX10_pass 41 = .ok (.dup2, 1) := by decide +kernel
theorem dX10_pass_42 : decode cX10_pass 42 = .ok (.iaload, 1) := by decide +kernel
theorem dX10_pass_43 : decode cX10_pass 43 = .ok (.iload_n 1, 1) := by decide +kernel
theorem dX10_pass_44 : decode cX10_pass 44 = .ok (.iadd, 1) := by decide +kernel
theorem dX10_pass_45 : decode cX10_pass 45 = .ok (.iastore, 1) := by decide +kernel
theorem dX10_pass_46 : decode cX10_pass 46 = .ok (.aload_n 0, 1) := by decide +kernel
theorem dX10_pass_47 : decode cX10_pass 47 = .ok (.iconst 4, 1) := by decide +kernel
theorem dX10_pass_48 : decode cX10_pass 48 = .ok (.aload_n 0, 1) := by decide +kernel
theorem dX10_pass_49 : decode cX10_pass 49 = .ok (.getfield 7, 3) := by decide +kernel
theorem dX10_pass_52 : decode cX10_pass 52 = .ok (.bipush 8, 2) := by decide +kernel
theorem dX10_pass_54 : decode cX10_pass 54 = .ok (.iaload, 1) := by decide +kernel
theorem dX10_pass_55 : decode cX10_pass 55 = .ok (.imul, 1) := by decide +kernel
theorem dX10_pass_56 : decode cX10_pass 56 = .ok (.invokevirtual 122, 3) := by decide +kernel
theorem dX10_pass_59 : decode cX10_pass 59 = .ok (.aload_n 0, 1) := by decide +kernel
theorem dX10_pass_60 : decode cX10_pass 60 = .ok (.getfield 7, 3) := by decide +kernel
theorem dX10_pass_63 : decode cX10_pass 63 = .ok (.bipush 8, 2) := by decide +kernel
theorem dX10_pass_65 : decode cX10_pass 65 = .ok (.iaload, 1) := by decide +kernel
theorem dX10_pass_66 : decode cX10_pass 66 = .ok (.ireturn, 1) := by decide +kernel
set_option maxRecDepth 20000 in
theorem ggX10_beginAnew_X10_become : GoodIn wsX10_beginAnew wsX10_become := goodIn_r _ [6, 7, 8, 9, 5, 10, 1, 11, 12, 13, 14, 15, 16, 17, 18, 19, 20, 21, 22, 23, 24, 25, 26, 27, 28] (by decide +kernel) (by decide +kernel)
set_option maxRecDepth 20000 in
theorem gX10_beginAnew_X10_become : GoodIn wsX10_beginAnew (wsV RX10 59 RX10 yX10_become wsX10_become) := goodIn_app (goodIn_of _ (by decide +kernel)) ggX10_beginAnew_X10_become
theorem dX10_beginAnew_0 : decode cX10_beginAnew 0 = .ok (.aload_n 0, 1) := by decide +kernel
theorem dX10_beginAnew_1 : decode cX10_beginAnew 1 = .ok (.getfield 7, 3) := by decide +kernel
theorem dX10_beginAnew_4 : decode cX10_beginAnew 4 = .ok (.bipush 22, 2) := by decide +kernel
theorem dX10_beginAnew_6 : decode cX10_beginAnew 6 = .ok (.iaload, 1) := by decide +kernel
theorem dX10_beginAnew_7 : decode cX10_beginAnew 7 = .ok (.istore_n 1, 1) := by decide +kernel
theorem dX10_beginAnew_8 : decode cX10_beginAnew 8 = .ok (.bipush 8, 2) := by decide +kernel
theorem dX10_beginAnew_10 : decode cX10_beginAnew 10 = .ok (.istore_n 2, 1) := by decide +kernel
theorem dX10_beginAnew_11 : decode cX10_beginAnew 11 = .ok (.iload_n 2, 1) := by decide +kernel
theorem dX10_beginAnew_12 : decode cX10_beginAnew 12 = .ok (.bipush 32, 2) := by decide +kernel
theorem dX10_beginAnew_14 : decode cX10_beginAnew 14 = .ok (.if_icmp .ge 16, 3) := by decide +kernel
theorem dX10_beginAnew_17 : decode cX10_beginAnew 17 = .ok (.aload_n 0, 1) := by decide +kernel
theorem dX10_beginAnew_18 : decode cX10_beginAnew 18 = .ok (.getfield 7, 3) := by decide +kernel
theorem dX10_beginAnew_21 : decode cX10_beginAnew 21 = .ok (.iload_n 2, 1) := by decide +kernel
theorem dX10_beginAnew_22 : decode cX10_beginAnew 22 = .ok (.iconst 0, 1) := by decide +kernel
theorem dX10_beginAnew_23 : decode cX10_beginAnew 23 = .ok (.iastore, 1) := by decide +kernel
theorem dX10_beginAnew_24 : decode cX10_beginAnew 24 = .ok (.iinc 2 1, 3) := by decide +kernel
theorem dX10_beginAnew_27 : decode cX10_beginAnew 27 = .ok (.goto (-16), 3) := by decide +kernel
theorem dX10_beginAnew_30 : decode cX10_beginAnew 30 = .ok (.aload_n 0, 1) := by decide +kernel
theorem dX10_beginAnew_31 : decode cX10_beginAnew 31 = .ok (.getfield 7, 3) := by decide +kernel
theorem dX10_beginAnew_34 : decode cX10_beginAnew 34 = .ok (.bipush 22, 2) := by decide +kernel
theorem dX10_beginAnew_36 : decode cX10_beginAnew 36 = .ok (.iload_n 1, 1) := by decide +kernel
theorem dX10_beginAnew_37 : decode cX10_beginAnew 37 = .ok (.iastore, 1) := by decide +kernel
theorem dX10_beginAnew_38 : decode cX10_beginAnew 38 = .ok (.aload_n 0, 1) := by decide +kernel
theorem dX10_beginAnew_39 : decode cX10_beginAnew 39 = .ok (.getfield 7, 3) := by decide +kernel
theorem dX10_beginAnew_42 : decode cX10_beginAnew 42 = .ok (.bipush 10, 2) := by decide +kernel
theorem dX10_beginAnew_44 : decode cX10_beginAnew 44 = .ok (.iconst 4, 1) := by decide +kernel
theorem dX10_beginAnew_45 : decode cX10_beginAnew 45 = .ok (.aload_n 0, 1) := by decide +kernel
theorem dX10_beginAnew_46 : decode cX10_beginAnew 46 = .ok (.getfield 7, 3) := by decide +kernel
theorem dX10_beginAnew_49 : decode cX10_beginAnew 49 = .ok (.iconst 0, 1) := by decide +kernel
theorem dX10_beginAnew_50 : decode cX10_beginAnew 50 = .ok (.iaload, 1) := by decide +kernel
theorem dX10_beginAnew_51 : decode cX10_beginAnew 51 = .ok (.imul, 1) := by decide +kernel
theorem dX10_beginAnew_52 : decode cX10_beginAnew 52 = .ok (.iastore, 1) := by decide +kernel
theorem dX10_beginAnew_53 : decode cX10_beginAnew 53 = .ok (.aload_n 0, 1) := by decide +kernel
theorem dX10_beginAnew_54 : decode cX10_beginAnew 54 = .ok (.getfield 7, 3) := by decide +kernel
theorem dX10_beginAnew_57 : decode cX10_beginAnew 57 = .ok (.bipush 11, 2) := by decide +kernel
theorem dX10_beginAnew_59 : decode cX10_beginAnew 59 = .ok (.bipush (-6), 2) := by decide +kernel
theorem dX10_beginAnew_61 : decode cX10_beginAnew 61 = .ok (.iastore, 1) := by decide +kernel
theorem dX10_beginAnew_62 : decode cX10_beginAnew 62 = .ok (.iconst 0, 1) := by decide +kernel
theorem dX10_beginAnew_63 : decode cX10_beginAnew 63 = .ok (.istore_n 2, 1) := by decide +kernel
theorem dX10_beginAnew_64 : decode cX10_beginAnew 64 = .ok (.iload_n 2, 1) := by decide +kernel
theorem dX10_beginAnew_65 : decode cX10_beginAnew 65 = .ok (.iload_n 1, 1) := by decide +kernel
theorem dX10_beginAnew_66 : decode cX10_beginAnew 66 = .ok (.if_icmp .ge 21, 3) := by decide +kernel
theorem dX10_beginAnew_69 : decode cX10_beginAnew 69 = .ok (.aload_n 0, 1) := by decide +kernel
theorem dX10_beginAnew_70 : decode cX10_beginAnew 70 = .ok (.iload_n 2, 1) := by decide +kernel
theorem dX10_beginAnew_71 : decode cX10_beginAnew 71 = .ok (.iconst 0, 1) := by decide +kernel
theorem dX10_beginAnew_72 : decode cX10_beginAnew 72 = .ok (.bipush (-6), 2) := by decide +kernel
theorem dX10_beginAnew_74 : decode cX10_beginAnew 74 = .ok (.bipush (-6), 2) := by decide +kernel
theorem dX10_beginAnew_76 : decode cX10_beginAnew 76 = .ok (.bipush (-6), 2) := by decide +kernel
theorem dX10_beginAnew_78 : decode cX10_beginAnew 78 = .ok (.invokevirtual 59, 3) := by decide +kernel
theorem dX10_beginAnew_81 : decode cX10_beginAnew 81 = .ok (.iinc 2 1, 3) := by decide +kernel
theorem dX10_beginAnew_84 : decode cX10_beginAnew 84 = .ok (.goto (-20), 3) := by decide +kernel
theorem dX10_beginAnew_87 : decode cX10_beginAnew 87 = .ok (.return_, 1) := by decide +kernel
set_option maxRecDepth 20000 in
theorem ggX10_anew_X10_keep : GoodIn wsX10_anew wsX10_keep := goodIn_r _ [6, 7, 8, 9, 1, 22, 23, 24, 25, 26, 27, 28, 29, 30, 31, 32, 33, 34, 35, 36, 37, 38, 39] (by decide +kernel) (by decide +kernel)
set_option maxRecDepth 20000 in
theorem gX10_anew_X10_keep : GoodIn wsX10_anew (wsV RX10 108 RX10 yX10_keep wsX10_keep) := goodIn_app (goodIn_of _ (by decide +kernel)) ggX10_anew_X10_keep
set_option maxRecDepth 20000 in
theorem ggX10_anew_X10_beginAnew : GoodIn wsX10_anew wsX10_beginAnew := goodIn_r _ [13, 1, 14, 15, 16, 5, 17, 18, 19, 20, 21, 22, 23, 24, 25, 26, 27, 28, 29, 30, 31, 32, 33, 34, 35, 36, 37, 38, 39] (by decide +kernel) (by decide +kernel)
set_option maxRecDepth 20000 in
theorem gX10_anew_X10_beginAnew : GoodIn wsX10_anew (wsV RX10 125 RX10 yX10_beginAnew wsX10_beginAnew) := goodIn_app (goodIn_of _ (by decide +kernel)) ggX10_anew_X10_beginAnew
theorem dX10_anew_0 : decode cX10_anew 0 = .ok (.aload_n 0, 1) := by decide +kernel
theorem dX10_anew_1 : decode cX10_anew 1 = .ok (.invokevirtual 108, 3) := by decide +kernel
theorem dX10_anew_4 : decode cX10_anew 4 = .ok (.aload_n 0, 1) := by decide +kernel
theorem dX10_anew_5 : decode cX10_anew 5 = .ok (.invokevirtual 125, 3) := by decide +kernel
theorem dX10_anew_8 : decode cX10_anew 8 = .ok (.aload_n 0, 1) := by decide +kernel
theorem dX10_anew_9 : decode cX10_anew 9 = .ok (.getfield 7, 3) := by decide +kernel
theorem dX10_anew_12 : decode cX10_anew 12 = .ok (.bipush 22, 2) := by decide +kernel
theorem dX10_anew_14 : decode cX10_anew 14 = .ok (.iaload, 1) := by decide +kernel
theorem dX10_anew_15 : decode cX10_anew 15 = .ok (.ireturn, 1) := by decide +kernel
set_option maxRecDepth 20000 in
theorem ggX10_ofBeat_X10_in : GoodIn wsX10_ofBeat wsX10_in := goodIn_r _ [6] (by decide +kernel) (by decide +kernel)
set_option maxRecDepth 20000 in
theorem gX10_ofBeat_X10_in : GoodIn wsX10_ofBeat (va_wsS RX10 98 yX10_in wsX10_in) := goodIn_app (goodIn_of _ (by decide +kernel)) ggX10_ofBeat_X10_in
set_option maxRecDepth 20000 in
theorem ggX10_ofBeat_X10_ofB : GoodIn wsX10_ofBeat wsX10_ofB := goodIn_r _ [10, 1, 11, 12, 13, 14, 15, 16, 17, 18, 19, 20, 21, 22, 23, 24, 25, 26, 27, 28] (by decide +kernel) (by decide +kernel)
set_option maxRecDepth 20000 in
theorem gX10_ofBeat_X10_ofB : GoodIn wsX10_ofBeat (wsV RX10 52 RX10 yX10_ofB wsX10_ofB) := goodIn_app (goodIn_of _ (by decide +kernel)) ggX10_ofBeat_X10_ofB
theorem dX10_ofBeat_0 : decode cX10_ofBeat 0 = .ok (.iload_n 1, 1) := by decide +kernel
theorem dX10_ofBeat_1 : decode cX10_ofBeat 1 = .ok (.iconst 0, 1) := by decide +kernel
theorem dX10_ofBeat_2 : decode cX10_ofBeat 2 = .ok (.aload_n 0, 1) := by decide +kernel
theorem dX10_ofBeat_3 : decode cX10_ofBeat 3 = .ok (.getfield 7, 3) := by decide +kernel
theorem dX10_ofBeat_6 : decode cX10_ofBeat 6 = .ok (.bipush 22, 2) := by decide +kernel
theorem dX10_ofBeat_8 : decode cX10_ofBeat 8 = .ok (.iaload, 1) := by decide +kernel
theorem dX10_ofBeat_9 : decode cX10_ofBeat 9 = .ok (.iconst 1, 1) := by decide +kernel
theorem dX10_ofBeat_10 : decode cX10_ofBeat 10 = .ok (.isub, 1) := by decide +kernel
theorem dX10_ofBeat_11 : decode cX10_ofBeat 11 = .ok (.invokestatic 98, 3) := by decide +kernel
theorem dX10_ofBeat_14 : decode cX10_ofBeat 14 = .ok (.ifCond .ne 5, 3) := by decide +kernel
theorem dX10_ofBeat_17 : decode cX10_ofBeat 17 = .ok (.iconst (-1), 1) := by decide +kernel
theorem dX10_ofBeat_18 : decode cX10_ofBeat 18 = .ok (.ireturn, 1) := by decide +kernel
theorem dX10_ofBeat_19 : decode cX10_ofBeat 19 = .ok (.iload_n 2, 1) := by decide +kernel
theorem dX10_ofBeat_20 : decode cX10_ofBeat 20 = .ok (.iconst 0, 1) := by decide +kernel
theorem dX10_ofBeat_21 : decode cX10_ofBeat 21 = .ok (.iconst 5, 1) := by decide +kernel
theorem dX10_ofBeat_22 : decode cX10_ofBeat 22 = .ok (.invokestatic 98, 3) := by decide +kernel
theorem dX10_ofBeat_25 : decode cX10_ofBeat 25 = .ok (.ifCond .ne 6, 3) := by decide +kernel
theorem dX10_ofBeat_28 : decode cX10_ofBeat 28 = .ok (.bipush (-2), 2) := by decide +kernel
theorem dX10_ofBeat_30 : decode cX10_ofBeat 30 = .ok (.ireturn, 1) := by decide +kernel
theorem dX10_ofBeat_31 : decode cX10_ofBeat 31 = .ok (.aload_n 0, 1) := by decide +kernel
theorem dX10_ofBeat_32 : decode cX10_ofBeat 32 = .ok (.iload_n 1, 1) := by decide +kernel
theorem dX10_ofBeat_33 : decode cX10_ofBeat 33 = .ok (.iload_n 2, 1) := by decide +kernel
theorem dX10_ofBeat_34 : decode cX10_ofBeat 34 = .ok (.invokevirtual 52, 3) := by decide +kernel
theorem dX10_ofBeat_37 : decode cX10_ofBeat 37 = .ok (.istore_n 3, 1) := by decide +kernel
theorem dX10_ofBeat_38 : decode cX10_ofBeat 38 = .ok (.aload_n 0, 1) := by decide +kernel
theorem dX10_ofBeat_39 : decode cX10_ofBeat 39 = .ok (.iload_n 1, 1) := by decide +kernel
theorem dX10_ofBeat_40 : decode cX10_ofBeat 40 = .ok (.iconst 2, 1) := by decide +kernel
theorem dX10_ofBeat_41 : decode cX10_ofBeat 41 = .ok (.invokevirtual 52, 3) := by decide +kernel
theorem dX10_ofBeat_44 : decode cX10_ofBeat 44 = .ok (.istore 4, 2) := by decide +kernel
theorem dX10_ofBeat_46 : decode cX10_ofBeat 46 = .ok (.iload_n 2, 1) := by decide +kernel
theorem dX10_ofBeat_47 : decode cX10_ofBeat 47 = .ok (.iconst 4, 1) := by decide +kernel
theorem dX10_ofBeat_48 : decode cX10_ofBeat 48 = .ok (.if_icmp .ne 25, 3) := by decide +kernel
theorem dX10_ofBeat_51 : decode cX10_ofBeat 51 = .ok (.iload 4, 2) := by decide +kernel
theorem dX10_ofBeat_53 : decode cX10_ofBeat 53 = .ok (.iconst 1, 1) := by decide +kernel
theorem dX10_ofBeat_54 : decode cX10_ofBeat 54 = .ok (.if_icmp .eq 9, 3) := by decide +kernel
theorem dX10_ofBeat_57 : decode cX10_ofBeat 57 = .ok (.iload 4, 2) := by decide +kernel
theorem dX10_ofBeat_59 : decode cX10_ofBeat 59 = .ok (.iconst 2, 1) := by decide +kernel
theorem dX10_ofBeat_60 : decode cX10_ofBeat 60 = .ok (.if_icmp .ne 10, 3) := by decide +kernel
theorem dX10_ofBeat_63 : decode cX10_ofBeat 63 = .ok (.ldc 117, 2) := by decide +kernel
theorem dX10_ofBeat_65 : decode cX10_ofBeat 65 = .ok (.iload_n 3, 1) := by decide +kernel
theorem dX10_ofBeat_66 : decode cX10_ofBeat 66 = .ok (.iadd, 1) := by decide +kernel
theorem dX10_ofBeat_67 : decode cX10_ofBeat 67 = .ok (.goto 5, 3) := by decide +kernel
theorem dX10_ofBeat_70 : decode cX10_ofBeat 70 = .ok (.bipush (-6), 2) := by decide +kernel
theorem dX10_ofBeat_72 : decode cX10_ofBeat 72 = .ok (.ireturn, 1) := by decide +kernel
theorem dX10_ofBeat_73 : decode cX10_ofBeat 73 = .ok (.iload_n 2, 1) := by decide +kernel
theorem dX10_ofBeat_74 : decode cX10_ofBeat 74 = .ok (.iconst 5, 1) := by decide +kernel
theorem dX10_ofBeat_75 : decode cX10_ofBeat 75 = .ok (.if_icmp .ne 22, 3) := by decide +kernel
theorem dX10_ofBeat_78 : decode cX10_ofBeat 78 = .ok (.iload 4, 2) := by decide +kernel
theorem dX10_ofBeat_80 : decode cX10_ofBeat 80 = .ok (.iconst 2, 1) := by decide +kernel
theorem dX10_ofBeat_81 : decode cX10_ofBeat 81 = .ok (.if_icmp .lt 11, 3) := by decide +kernel
theorem dX10_ofBeat_84 : decode cX10_ofBeat 84 = .ok (.sipush 1000, 3) := by decide +kernel
theorem dX10_ofBeat_87 : decode cX10_ofBeat 87 = .ok (.iload_n 3, 1) := by decide +kernel
theorem dX10_ofBeat_88 : decode cX10_ofBeat 88 = .ok (.iadd, 1) := by decide +kernel
theorem dX10_ofBeat_89 : decode cX10_ofBeat 89 = .ok (.goto 9, 3) := by decide +kernel
theorem dX10_ofBeat_92 : decode cX10_ofBeat 92 = .ok (.bipush (-6), 2) := by decide +kernel
theorem dX10_ofBeat_94 : decode cX10_ofBeat 94 = .ok (.goto 4, 3) := by decide +kernel
theorem dX10_ofBeat_97 : decode cX10_ofBeat 97 = .ok (.iload_n 3, 1) := by decide +kernel
theorem dX10_ofBeat_98 : decode cX10_ofBeat 98 = .ok (.ireturn, 1) := by decide +kernel
set_option maxRecDepth 20000 in
theorem ggX10_ofBlow_X10_in : GoodIn wsX10_ofBlow wsX10_in := goodIn_r _ [5] (by decide +kernel) (by decide +kernel)
set_option maxRecDepth 20000 in
theorem gX10_ofBlow_X10_in : GoodIn wsX10_ofBlow (va_wsS RX10 98 yX10_in wsX10_in) := goodIn_app (goodIn_of _ (by decide +kernel)) ggX10_ofBlow_X10_in
theorem dX10_ofBlow_0 : decode cX10_ofBlow 0 = .ok (.iload_n 1, 1) := by decide +kernel
theorem dX10_ofBlow_1 : decode cX10_ofBlow 1 = .ok (.ifCond .lt 29, 3) := by decide +kernel
theorem dX10_ofBlow_4 : decode cX10_ofBlow 4 = .ok (.iload_n 1, 1) := by decide +kernel
theorem dX10_ofBlow_5 : decode cX10_ofBlow 5 = .ok (.aload_n 0, 1) := by decide +kernel
theorem dX10_ofBlow_6 : decode cX10_ofBlow 6 = .ok (.getfield 7, 3) := by decide +kernel
theorem dX10_ofBlow_9 : decode cX10_ofBlow 9 = .ok (.bipush 12, 2) := by decide +kernel
theorem dX10_ofBlow_11 : decode cX10_ofBlow 11 = .ok (.iaload, 1) := by decide +kernel
theorem dX10_ofBlow_12 : decode cX10_ofBlow 12 = .ok (.bipush 64, 2) := by decide +kernel
theorem dX10_ofBlow_14 : decode cX10_ofBlow 14 = .ok (.isub, 1) := by decide +kernel
theorem dX10_ofBlow_15 : decode cX10_ofBlow 15 = .ok (.aload_n 0, 1) := by decide +kernel
theorem dX10_ofBlow_16 : decode cX10_ofBlow 16 = .ok (.getfield 7, 3) := by decide +kernel
theorem dX10_ofBlow_19 : decode cX10_ofBlow 19 = .ok (.bipush 12, 2) := by decide +kernel
theorem dX10_ofBlow_21 : decode cX10_ofBlow 21 = .ok (.iaload, 1) := by decide +kernel
theorem dX10_ofBlow_22 : decode cX10_ofBlow 22 = .ok (.iconst 1, 1) := by decide +kernel
theorem dX10_ofBlow_23 : decode cX10_ofBlow 23 = .ok (.isub, 1) := by decide +kernel
theorem dX10_ofBlow_24 : decode cX10_ofBlow 24 = .ok (.invokestatic 98, 3) := by decide +kernel
theorem dX10_ofBlow_27 : decode cX10_ofBlow 27 = .ok (.ifCond .ne 5, 3) := by decide +kernel
theorem dX10_ofBlow_30 : decode cX10_ofBlow 30 = .ok (.iconst (-1), 1) := by decide +kernel
theorem dX10_ofBlow_31 : decode cX10_ofBlow 31 = .ok (.ireturn, 1) := by decide +kernel
theorem dX10_ofBlow_32 : decode cX10_ofBlow 32 = .ok (.iload_n 2, 1) := by decide +kernel
theorem dX10_ofBlow_33 : decode cX10_ofBlow 33 = .ok (.iconst 0, 1) := by decide +kernel
theorem dX10_ofBlow_34 : decode cX10_ofBlow 34 = .ok (.iconst 3, 1) := by decide +kernel
theorem dX10_ofBlow_35 : decode cX10_ofBlow 35 = .ok (.invokestatic 98, 3) := by decide +kernel
theorem dX10_ofBlow_38 : decode cX10_ofBlow 38 = .ok (.ifCond .eq 23, 3) := by decide +kernel
theorem dX10_ofBlow_41 : decode cX10_ofBlow 41 = .ok (.aload_n 0, 1) := by decide +kernel
theorem dX10_ofBlow_42 : decode cX10_ofBlow 42 = .ok (.getfield 7, 3) := by decide +kernel
theorem dX10_ofBlow_45 : decode cX10_ofBlow 45 = .ok (.sipush 416, 3) := by decide +kernel
theorem dX10_ofBlow_48 : decode cX10_ofBlow 48 = .ok (.iconst 4, 1) := by decide +kernel
theorem dX10_ofBlow_49 : decode cX10_ofBlow 49 = .ok (.iload_n 1, 1) := by decide +kernel
theorem dX10_ofBlow_50 : decode cX10_ofBlow 50 = .ok (.bipush 64, 2) := by decide +kernel
theorem dX10_ofBlow_52 : decode cX10_ofBlow 52 = .ok (.irem, 1) := by decide +kernel
theorem dX10_ofBlow_53 : decode cX10_ofBlow 53 = .ok (.imul, 1) := by decide +kernel
theorem dX10_ofBlow_54 : decode cX10_ofBlow 54 = .ok (.iadd, 1) := by decide +kernel
theorem dX10_ofBlow_55 : decode cX10_ofBlow 55 = .ok (.iload_n 2, 1) := by decide +kernel
theorem dX10_ofBlow_56 : decode cX10_ofBlow 56 = .ok (.iadd, 1) := by decide +kernel
theorem dX10_ofBlow_57 : decode cX10_ofBlow 57 = .ok (.iaload, 1) := by decide +kernel
theorem dX10_ofBlow_58 : decode cX10_ofBlow 58 = .ok (.goto 5, 3) := by decide +kernel
theorem dX10_ofBlow_61 : decode cX10_ofBlow 61 = .ok (.bipush (-2), 2) := by decide +kernel
theorem dX10_ofBlow_63 : decode cX10_ofBlow 63 = .ok (.ireturn, 1) := by decide +kernel
set_option maxRecDepth 20000 in
theorem ggX10_count_X10_in : GoodIn wsX10_count wsX10_in := goodIn_r _ [7] (by decide +kernel) (by decide +kernel)
set_option maxRecDepth 20000 in
theorem gX10_count_X10_in : GoodIn wsX10_count (va_wsS RX10 98 yX10_in wsX10_in) := goodIn_app (goodIn_of _ (by decide +kernel)) ggX10_count_X10_in
theorem dX10_count_0 : decode cX10_count 0 = .ok (.iload_n 1, 1) := by decide +kernel
theorem dX10_count_1 : decode cX10_count 1 = .ok (.iconst 0, 1) := by decide +kernel
theorem dX10_count_2 : decode cX10_count 2 = .ok (.bipush 15, 2) := by decide +kernel
theorem dX10_count_4 : decode cX10_count 4 = .ok (.invokestatic 98, 3) := by decide +kernel
theorem dX10_count_7 : decode cX10_count 7 = .ok (.ifCond .eq 13, 3) := by decide +kernel
theorem dX10_count_10 : decode cX10_count 10 = .ok (.aload_n 0, 1) := by decide +kernel
theorem dX10_count_11 : decode cX10_count 11 = .ok (.getfield 7, 3) := by decide +kernel
theorem dX10_count_14 : decode cX10_count 14 = .ok (.bipush 8, 2) := by decide +kernel
theorem dX10_count_16 : decode cX10_count 16 = .ok (.iload_n 1, 1) := by decide +kernel
theorem dX10_count_17 : decode cX10_count 17 = .ok (.iadd, 1) := by decide +kernel
theorem dX10_count_18 : decode cX10_count 18 = .ok (.iaload, 1) := by decide +kernel
theorem dX10_count_19 : decode cX10_count 19 = .ok (.ireturn, 1) := by decide +kernel
theorem dX10_count_20 : decode cX10_count 20 = .ok (.iload_n 1, 1) := by decide +kernel
theorem dX10_count_21 : decode cX10_count 21 = .ok (.bipush 16, 2) := by decide +kernel
theorem dX10_count_23 : decode cX10_count 23 = .ok (.bipush 23, 2) := by decide +kernel
theorem dX10_count_25 : decode cX10_count 25 = .ok (.invokestatic 98, 3) := by decide +kernel
theorem dX10_count_28 : decode cX10_count 28 = .ok (.ifCond .eq 15, 3) := by decide +kernel
theorem dX10_count_31 : decode cX10_count 31 = .ok (.aload_n 0, 1) := by decide +kernel
theorem dX10_count_32 : decode cX10_count 32 = .ok (.getfield 7, 3) := by decide +kernel
theorem dX10_count_35 : decode cX10_count 35 = .ok (.iload_n 1, 1) := by decide +kernel
theorem dX10_count_36 : decode cX10_count 36 = .ok (.bipush 16, 2) := by decide +kernel
theorem dX10_count_38 : decode cX10_count 38 = .ok (.isub, 1) := by decide +kernel
theorem dX10_count_39 : decode cX10_count 39 = .ok (.iaload, 1) := by decide +kernel
theorem dX10_count_40 : decode cX10_count 40 = .ok (.goto 31, 3) := by decide +kernel
theorem dX10_count_43 : decode cX10_count 43 = .ok (.iload_n 1, 1) := by decide +kernel
theorem dX10_count_44 : decode cX10_count 44 = .ok (.bipush 24, 2) := by decide +kernel
theorem dX10_count_46 : decode cX10_count 46 = .ok (.if_icmp .ne 10, 3) := by decide +kernel
theorem dX10_count_49 : decode cX10_count 49 = .ok (.aload_n 0, 1) := by decide +kernel
theorem dX10_count_50 : decode cX10_count 50 = .ok (.getfield 128, 3) := by decide +kernel
theorem dX10_count_53 : decode cX10_count 53 = .ok (.goto 18, 3) := by decide +kernel
theorem dX10_count_56 : decode cX10_count 56 = .ok (.iload_n 1, 1) := by decide +kernel
theorem dX10_count_57 : decode cX10_count 57 = .ok (.bipush 25, 2) := by decide +kernel
theorem dX10_count_59 : decode cX10_count 59 = .ok (.if_icmp .ne 10, 3) := by decide +kernel
theorem dX10_count_62 : decode cX10_count 62 = .ok (.aload_n 0, 1) := by decide +kernel
theorem dX10_count_63 : decode cX10_count 63 = .ok (.getfield 39, 3) := by decide +kernel
theorem dX10_count_66 : decode cX10_count 66 = .ok (.goto 5, 3) := by decide +kernel
theorem dX10_count_69 : decode cX10_count 69 = .ok (.bipush (-2), 2) := by decide +kernel
theorem dX10_count_71 : decode cX10_count 71 = .ok (.ireturn, 1) := by decide +kernel
theorem dX10_slips_0 : decode cX10_slips 0 = .ok (.ldc 117, 2) := by decide +kernel
theorem dX10_slips_2 : decode cX10_slips 2 = .ok (.aload_n 0, 1) := by decide +kernel
theorem dX10_slips_3 : decode cX10_slips 3 = .ok (.getfield 7, 3) := by decide +kernel
theorem dX10_slips_6 : decode cX10_slips 6 = .ok (.bipush 24, 2) := by decide +kernel
theorem dX10_slips_8 : decode cX10_slips 8 = .ok (.iaload, 1) := by decide +kernel
theorem dX10_slips_9 : decode cX10_slips 9 = .ok (.iadd, 1) := by decide +kernel
theorem dX10_slips_10 : decode cX10_slips 10 = .ok (.ireturn, 1) := by decide +kernel
set_option maxRecDepth 20000 in
theorem ggX10_nextBlow_X10_in : GoodIn wsX10_nextBlow wsX10_in := goodIn_r _ [5] (by decide +kernel) (by decide +kernel)
set_option maxRecDepth 20000 in
theorem gX10_nextBlow_X10_in : GoodIn wsX10_nextBlow (va_wsS RX10 98 yX10_in wsX10_in) := goodIn_app (goodIn_of _ (by decide +kernel)) ggX10_nextBlow_X10_in
theorem dX10_nextBlow_0 : decode cX10_nextBlow 0 = .ok (.iload_n 1, 1) := by decide +kernel
theorem dX10_nextBlow_1 : decode cX10_nextBlow 1 = .ok (.iconst 1, 1) := by decide +kernel
theorem dX10_nextBlow_2 : decode cX10_nextBlow 2 = .ok (.bipush 20, 2) := by decide +kernel
theorem dX10_nextBlow_4 : decode cX10_nextBlow 4 = .ok (.invokestatic 98, 3) := by decide +kernel
theorem dX10_nextBlow_7 : decode cX10_nextBlow 7 = .ok (.ifCond .ne 6, 3) := by decide +kernel
theorem dX10_nextBlow_10 : decode cX10_nextBlow 10 = .ok (.bipush (-2), 2) := by decide +kernel
theorem dX10_nextBlow_12 : decode cX10_nextBlow 12 = .ok (.ireturn, 1) := by decide +kernel
theorem dX10_nextBlow_13 : decode cX10_nextBlow 13 = .ok (.aload_n 0, 1) := by decide +kernel
theorem dX10_nextBlow_14 : decode cX10_nextBlow 14 = .ok (.getfield 7, 3) := by decide +kernel
theorem dX10_nextBlow_17 : decode cX10_nextBlow 17 = .ok (.bipush 11, 2) := by decide +kernel
theorem dX10_nextBlow_19 : decode cX10_nextBlow 19 = .ok (.iaload, 1) := by decide +kernel
theorem dX10_nextBlow_20 : decode cX10_nextBlow 20 = .ok (.ifCond .lt 28, 3) := by decide +kernel
theorem dX10_nextBlow_23 : decode cX10_nextBlow 23 = .ok (.aload_n 0, 1) := by decide +kernel
theorem dX10_nextBlow_24 : decode cX10_nextBlow 24 = .ok (.getfield 7, 3) := by decide +kernel
theorem dX10_nextBlow_27 : decode cX10_nextBlow 27 = .ok (.bipush 21, 2) := by decide +kernel
theorem dX10_nextBlow_29 : decode cX10_nextBlow 29 = .ok (.iaload, 1) := by decide +kernel
theorem dX10_nextBlow_30 : decode cX10_nextBlow 30 = .ok (.iload_n 1, 1) := by decide +kernel
theorem dX10_nextBlow_31 : decode cX10_nextBlow 31 = .ok (.iadd, 1) := by decide +kernel
theorem dX10_nextBlow_32 : decode cX10_nextBlow 32 = .ok (.iconst 1, 1) := by decide +kernel
theorem dX10_nextBlow_33 : decode cX10_nextBlow 33 = .ok (.isub, 1) := by decide +kernel
theorem dX10_nextBlow_34 : decode cX10_nextBlow 34 = .ok (.aload_n 0, 1) := by decide +kernel
theorem dX10_nextBlow_35 : decode cX10_nextBlow 35 = .ok (.getfield 7, 3) := by decide +kernel
theorem dX10_nextBlow_38 : decode cX10_nextBlow 38 = .ok (.bipush 7, 2) := by decide +kernel
theorem dX10_nextBlow_40 : decode cX10_nextBlow 40 = .ok (.iaload, 1) := by decide +kernel
theorem dX10_nextBlow_41 : decode cX10_nextBlow 41 = .ok (.if_icmp .ge 7, 3) := by decide +kernel
theorem dX10_nextBlow_44 : decode cX10_nextBlow 44 = .ok (.iconst 1, 1) := by decide +kernel
theorem dX10_nextBlow_45 : decode cX10_nextBlow 45 = .ok (.goto 4, 3) := by decide +kernel
theorem dX10_nextBlow_48 : decode cX10_nextBlow 48 = .ok (.iconst 0, 1) := by decide +kernel
theorem dX10_nextBlow_49 : decode cX10_nextBlow 49 = .ok (.istore_n 2, 1) := by decide +kernel
theorem dX10_nextBlow_50 : decode cX10_nextBlow 50 = .ok (.iload_n 2, 1) := by decide +kernel
theorem dX10_nextBlow_51 : decode cX10_nextBlow 51 = .ok (.ifCond .ne 18, 3) := by decide +kernel
theorem dX10_nextBlow_54 : decode cX10_nextBlow 54 = .ok (.aload_n 0, 1) := by decide +kernel
theorem dX10_nextBlow_55 : decode cX10_nextBlow 55 = .ok (.getfield 7, 3) := by decide +kernel
theorem dX10_nextBlow_58 : decode cX10_nextBlow 58 = .ok (.bipush 11, 2) := by decide +kernel
theorem dX10_nextBlow_60 : decode cX10_nextBlow 60 = .ok (.iaload, 1) := by decide +kernel
theorem dX10_nextBlow_61 : decode cX10_nextBlow 61 = .ok (.ifCond .lt 30, 3) := by decide +kernel
theorem dX10_nextBlow_64 : decode cX10_nextBlow 64 = .ok (.iload_n 1, 1) := by decide +kernel
theorem dX10_nextBlow_65 : decode cX10_nextBlow 65 = .ok (.iconst 1, 1) := by decide +kernel
theorem dX10_nextBlow_66 : decode cX10_nextBlow 66 = .ok (.if_icmp .ne 25, 3) := by decide +kernel
theorem dX10_nextBlow_69 : decode cX10_nextBlow 69 = .ok (.aload_n 0, 1) := by decide +kernel
theorem dX10_nextBlow_70 : decode cX10_nextBlow 70 = .ok (.getfield 7, 3) := by decide +kernel
theorem dX10_nextBlow_73 : decode cX10_nextBlow 73 = .ok (.bipush 11, 2) := by decide +kernel
theorem dX10_nextBlow_75 : decode cX10_nextBlow 75 = .ok (.iaload, 1) := by decide +kernel
theorem dX10_nextBlow_76 : decode cX10_nextBlow 76 = .ok (.iload_n 1, 1) := by decide +kernel
theorem dX10_nextBlow_77 : decode cX10_nextBlow 77 = .ok (.iconst 1, 1) := by decide +kernel
theorem dX10_nextBlow_78 : decode cX10_nextBlow 78 = .ok (.isub, 1) := by decide +kernel
theorem dX10_nextBlow_79 : decode cX10_nextBlow 79 = .ok (.aload_n 0, 1) := by decide +kernel
theorem dX10_nextBlow_80 : decode cX10_nextBlow 80 = .ok (.getfield 7, 3) := by decide +kernel
theorem dX10_nextBlow_83 : decode cX10_nextBlow 83 = .ok (.bipush 10, 2) := by decide +kernel
theorem dX10_nextBlow_85 : decode cX10_nextBlow 85 = .ok (.iaload, 1) := by decide +kernel
theorem dX10_nextBlow_86 : decode cX10_nextBlow 86 = .ok (.imul, 1) := by decide +kernel
theorem dX10_nextBlow_87 : decode cX10_nextBlow 87 = .ok (.iadd, 1) := by decide +kernel
theorem dX10_nextBlow_88 : decode cX10_nextBlow 88 = .ok (.goto 5, 3) := by decide +kernel
theorem dX10_nextBlow_91 : decode cX10_nextBlow 91 = .ok (.bipush (-6), 2) := by decide +kernel
theorem dX10_nextBlow_93 : decode cX10_nextBlow 93 = .ok (.ireturn, 1) := by decide +kernel
set_option maxRecDepth 20000 in
theorem ggX10_ifHeard_X10_in : GoodIn wsX10_ifHeard wsX10_in := goodIn_r _ [5] (by decide +kernel) (by decide +kernel)
set_option maxRecDepth 20000 in
theorem gX10_ifHeard_X10_in : GoodIn wsX10_ifHeard (va_wsS RX10 98 yX10_in wsX10_in) := goodIn_app (goodIn_of _ (by decide +kernel)) ggX10_ifHeard_X10_in
set_option maxRecDepth 20000 in
theorem ggX10_ifHeard_X10_layAside : GoodIn wsX10_ifHeard wsX10_layAside := goodIn_r _ [9, 10, 1, 43, 44, 45, 46, 47, 48, 49, 50, 51, 52, 53, 54, 55, 56, 57, 58, 59, 60] (by decide +kernel) (by decide +kernel)
set_option maxRecDepth 20000 in
theorem gX10_ifHeard_X10_layAside : GoodIn wsX10_ifHeard (wsV RX10 131 RX10 yX10_layAside wsX10_layAside) := goodIn_app (goodIn_of _ (by decide +kernel)) ggX10_ifHeard_X10_layAside
set_option maxRecDepth 20000 in
theorem ggX10_ifHeard_X10_holdUpTo : GoodIn wsX10_ifHeard wsX10_holdUpTo := goodIn_r _ [14, 1, 15, 16, 17, 4, 18, 19, 20, 21, 22, 23, 24, 25, 26, 27, 28, 29, 30, 31, 32, 33, 34, 35, 36, 37, 38, 43, 44, 45, 46, 47, 48, 49, 50, 51, 52, 53, 54, 55, 56, 57, 58, 59, 60] (by decide +kernel) (by decide +kernel)
set_option maxRecDepth 20000 in
theorem gX10_ifHeard_X10_holdUpTo : GoodIn wsX10_ifHeard (wsV RX10 92 RX10 yX10_holdUpTo wsX10_holdUpTo) := goodIn_app (goodIn_of _ (by decide +kernel)) ggX10_ifHeard_X10_holdUpTo
set_option maxRecDepth 20000 in
theorem ggX10_ifHeard_X10_halfWindow : GoodIn wsX10_ifHeard wsX10_halfWindow := goodIn_r _ [18, 1, 43, 44, 45, 46, 47, 48, 49, 50, 51, 52, 53, 54, 55, 56, 57, 58, 59, 60] (by decide +kernel) (by decide +kernel)
set_option maxRecDepth 20000 in
theorem gX10_ifHeard_X10_halfWindow : GoodIn wsX10_ifHeard (wsV RX10 81 RX10 yX10_halfWindow wsX10_halfWindow) := goodIn_app (goodIn_of _ (by decide +kernel)) ggX10_ifHeard_X10_halfWindow
set_option maxRecDepth 20000 in
theorem ggX10_ifHeard_X10_layBack : GoodIn wsX10_ifHeard wsX10_layBack := goodIn_r _ [42, 1, 10, 43, 44, 45, 46, 47, 48, 49, 50, 51, 52, 53, 54, 55, 56, 57, 58, 59, 60] (by decide +kernel) (by decide +kernel)
set_option maxRecDepth 20000 in
theorem gX10_ifHeard_X10_layBack : GoodIn wsX10_ifHeard (wsV RX10 134 RX10 yX10_layBack wsX10_layBack) := goodIn_app (goodIn_of _ (by decide +kernel)) ggX10_ifHeard_X10_layBack
theorem dX10_ifHeard_0 : decode cX10_ifHeard 0 = .ok (.iload_n 1, 1) := by decide +kernel
theorem dX10_ifHeard_1 : decode cX10_ifHeard 1 = .ok (.iconst 1, 1) := by decide +kernel
theorem dX10_ifHeard_2 : decode cX10_ifHeard 2 = .ok (.sipush 9999, 3) := by decide +kernel
theorem dX10_ifHeard_5 : decode cX10_ifHeard 5 = .ok (.invokestatic 98, 3) := by decide +kernel
theorem dX10_ifHeard_8 : decode cX10_ifHeard 8 = .ok (.ifCond .ne 6, 3) := by decide +kernel
theorem dX10_ifHeard_11 : decode cX10_ifHeard 11 = .ok (.bipush (-2), 2) := by decide +kernel
theorem dX10_ifHeard_13 : decode cX10_ifHeard 13 = .ok (.ireturn, 1) := by decide +kernel
theorem dX10_ifHeard_14 : decode cX10_ifHeard 14 = .ok (.aload_n 0, 1) := by decide +kernel
theorem dX10_ifHeard_15 : decode cX10_ifHeard 15 = .ok (.invokevirtual 131, 3) := by decide +kernel
theorem dX10_ifHeard_18 : decode cX10_ifHeard 18 = .ok (.iconst 4, 1) := by decide +kernel
theorem dX10_ifHeard_19 : decode cX10_ifHeard 19 = .ok (.aload_n 0, 1) := by decide +kernel
theorem dX10_ifHeard_20 : decode cX10_ifHeard 20 = .ok (.getfield 7, 3) := by decide +kernel
theorem dX10_ifHeard_23 : decode cX10_ifHeard 23 = .ok (.bipush 8, 2) := by decide +kernel
theorem dX10_ifHeard_25 : decode cX10_ifHeard 25 = .ok (.iaload, 1) := by decide +kernel
theorem dX10_ifHeard_26 : decode cX10_ifHeard 26 = .ok (.iload_n 1, 1) := by decide +kernel
theorem dX10_ifHeard_27 : decode cX10_ifHeard 27 = .ok (.iadd, 1) := by decide +kernel
theorem dX10_ifHeard_28 : decode cX10_ifHeard 28 = .ok (.imul, 1) := by decide +kernel
theorem dX10_ifHeard_29 : decode cX10_ifHeard 29 = .ok (.istore_n 2, 1) := by decide +kernel
theorem dX10_ifHeard_30 : decode cX10_ifHeard 30 = .ok (.aload_n 0, 1) := by decide +kernel
theorem dX10_ifHeard_31 : decode cX10_ifHeard 31 = .ok (.iload_n 2, 1) := by decide +kernel
theorem dX10_ifHeard_32 : decode cX10_ifHeard 32 = .ok (.invokevirtual 92, 3) := by decide +kernel
theorem dX10_ifHeard_35 : decode cX10_ifHeard 35 = .ok (.aload_n 0, 1) := by decide +kernel
theorem dX10_ifHeard_36 : decode cX10_ifHeard 36 = .ok (.getfield 7, 3) := by decide +kernel
theorem dX10_ifHeard_39 : decode cX10_ifHeard 39 = .ok (.bipush 11, 2) := by decide +kernel
theorem dX10_ifHeard_41 : decode cX10_ifHeard 41 = .ok (.iaload, 1) := by decide +kernel
theorem dX10_ifHeard_42 : decode cX10_ifHeard 42 = .ok (.ifCond .ge 7, 3) := by decide +kernel
theorem dX10_ifHeard_45 : decode cX10_ifHeard 45 = .ok (.iconst 3, 1) := by decide +kernel
theorem dX10_ifHeard_46 : decode cX10_ifHeard 46 = .ok (.goto 25, 3) := by decide +kernel
theorem dX10_ifHeard_49 : decode cX10_ifHeard 49 = .ok (.iload_n 2, 1) := by decide +kernel
theorem dX10_ifHeard_50 : decode cX10_ifHeard 50 = .ok (.aload_n 0, 1) := by decide +kernel
theorem dX10_ifHeard_51 : decode cX10_ifHeard 51 = .ok (.getfield 7, 3) := by decide +kernel
theorem dX10_ifHeard_54 : decode cX10_ifHeard 54 = .ok (.bipush 11, 2) := by decide +kernel
theorem dX10_ifHeard_56 : decode cX10_ifHeard 56 = .ok (.iaload, 1) := by decide +kernel
theorem dX10_ifHeard_57 : decode cX10_ifHeard 57 = .ok (.isub, 1) := by decide +kernel
theorem dX10_ifHeard_58 : decode cX10_ifHeard 58 = .ok (.aload_n 0, 1) := by decide +kernel
theorem dX10_ifHeard_59 : decode cX10_ifHeard 59 = .ok (.invokevirtual 81, 3) := by decide +kernel
theorem dX10_ifHeard_62 : decode cX10_ifHeard 62 = .ok (.ineg, 1) := by decide +kernel
theorem dX10_ifHeard_63 : decode cX10_ifHeard 63 = .ok (.if_icmp .ge 7, 3) := by decide +kernel
theorem dX10_ifHeard_66 : decode cX10_ifHeard 66 = .ok (.iconst 1, 1) := by decide +kernel
theorem dX10_ifHeard_67 : decode cX10_ifHeard 67 = .ok (.goto 4, 3) := by decide +kernel
theorem dX10_ifHeard_70 : decode cX10_ifHeard 70 = .ok (.iconst 2, 1) := by decide +kernel
theorem dX10_ifHeard_71 : decode cX10_ifHeard 71 = .ok (.istore_n 3, 1) := by decide +kernel
theorem dX10_ifHeard_72 : decode cX10_ifHeard 72 = .ok (.aload_n 0, 1) := by decide +kernel
theorem dX10_ifHeard_73 : decode cX10_ifHeard 73 = .ok (.invokevirtual 134, 3) := by decide +kernel
theorem dX10_ifHeard_76 : decode cX10_ifHeard 76 = .ok (.iload_n 3, 1) := by decide +kernel
theorem dX10_ifHeard_77 : decode cX10_ifHeard 77 = .ok (.ireturn, 1) := by decide +kernel
set_option maxRecDepth 20000 in
theorem ggX10_playAll_X10_beginAnew : GoodIn wsX10_playAll wsX10_beginAnew := goodIn_r _ [7, 1, 8, 9, 10, 6, 11, 12, 13, 14, 15, 66, 67, 68, 69, 70, 71, 72, 73, 74, 75, 76, 77, 78, 79, 80, 81, 82, 83] (by decide +kernel) (by decide +kernel)
set_option maxRecDepth 20000 in
theorem gX10_playAll_X10_beginAnew : GoodIn wsX10_playAll (wsV RX10 125 RX10 yX10_beginAnew wsX10_beginAnew) := goodIn_app (goodIn_of _ (by decide +kernel)) ggX10_playAll_X10_beginAnew
set_option maxRecDepth 20000 in
theorem ggX10_playAll_X10_ofB : GoodIn wsX10_playAll wsX10_ofB := goodIn_r _ [19, 1, 66, 67, 68, 69, 70, 71, 72, 73, 74, 75, 76, 77, 78, 79, 80, 81, 82, 83] (by decide +kernel) (by decide +kernel)
set_option maxRecDepth 20000 in
theorem gX10_playAll_X10_ofB : GoodIn wsX10_playAll (wsV RX10 52 RX10 yX10_ofB wsX10_ofB) := goodIn_app (goodIn_of _ (by decide +kernel)) ggX10_playAll_X10_ofB
set_option maxRecDepth 20000 in
theorem ggX10_playAll_X10_holdUpTo : GoodIn wsX10_playAll wsX10_holdUpTo := goodIn_r _ [23, 1, 24, 25, 26, 6, 27, 28, 29, 30, 31, 32, 33, 34, 35, 36, 37, 38, 39, 40, 41, 42, 43, 44, 45, 46, 47, 66, 67, 68, 69, 70, 71, 72, 73, 74, 75, 76, 77, 78, 79, 80, 81, 82, 83] (by decide +kernel) (by decide +kernel)
set_option maxRecDepth 20000 in
theorem gX10_playAll_X10_holdUpTo : GoodIn wsX10_playAll (wsV RX10 92 RX10 yX10_holdUpTo wsX10_holdUpTo) := goodIn_app (goodIn_of _ (by decide +kernel)) ggX10_playAll_X10_holdUpTo
set_option maxRecDepth 20000 in
theorem ggX10_playAll_X10_hear : GoodIn wsX10_playAll wsX10_hear := goodIn_r _ [51, 1, 2, 52, 53, 54, 6, 55, 16, 17, 18, 19, 32, 33, 34, 35, 8, 9, 10, 11, 12, 13, 14, 15, 44, 45, 46, 47, 24, 25, 26, 27, 36, 37, 38, 39, 40, 41, 42, 43, 56, 57, 58, 59, 60, 61, 62, 63, 64, 65, 66, 67, 68, 69, 70, 71, 72, 73, 74, 75, 76, 77, 78, 79, 80, 81, 82, 83] (by decide +kernel) (by decide +kernel)
set_option maxRecDepth 20000 in
theorem gX10_playAll_X10_hear : GoodIn wsX10_playAll (wsV RX10 95 RX10 yX10_hear wsX10_hear) := goodIn_app (goodIn_of _ (by decide +kernel)) ggX10_playAll_X10_hear
theorem dX10_playAll_0 : decode cX10_playAll 0 = .ok (.aload_n 0, 1) := by decide +kernel
theorem dX10_playAll_1 : decode cX10_playAll 1 = .ok (.invokevirtual 125, 3) := by decide +kernel
theorem dX10_playAll_4 : decode cX10_playAll 4 = .ok (.aload_n 0, 1) := by decide +kernel
theorem dX10_playAll_5 : decode cX10_playAll 5 = .ok (.getfield 7, 3) := by decide +kernel
theorem dX10_playAll_8 : decode cX10_playAll 8 = .ok (.iconst 2, 1) := by decide +kernel
theorem dX10_playAll_9 : decode cX10_playAll 9 = .ok (.iload_n 1, 1) := by decide +kernel
theorem dX10_playAll_10 : decode cX10_playAll 10 = .ok (.iastore, 1) := by decide +kernel
theorem dX10_playAll_11 : decode cX10_playAll 11 = .ok (.aload_n 0, 1) := by decide +kernel
theorem dX10_playAll_12 : decode cX10_playAll 12 = .ok (.getfield 7, 3) := by decide +kernel
theorem dX10_playAll_15 : decode cX10_playAll 15 = .ok (.iconst 3, 1) := by decide +kernel
theorem dX10_playAll_16 : decode cX10_playAll 16 = .ok (.iload_n 2, 1) := by decide +kernel
theorem dX10_playAll_17 : decode cX10_playAll 17 = .ok (.iastore, 1) := by decide +kernel
theorem dX10_playAll_18 : decode cX10_playAll 18 = .ok (.aload_n 0, 1) := by decide +kernel
theorem dX10_playAll_19 : decode cX10_playAll 19 = .ok (.getfield 7, 3) := by decide +kernel
theorem dX10_playAll_22 : decode cX10_playAll 22 = .ok (.bipush 14, 2) := by decide +kernel
theorem dX10_playAll_24 : decode cX10_playAll 24 = .ok (.iaload, 1) := by decide +kernel
theorem dX10_playAll_25 : decode cX10_playAll 25 = .ok (.aload_n 0, 1) := by decide +kernel
theorem dX10_playAll_26 : decode cX10_playAll 26 = .ok (.getfield 7, 3) := by decide +kernel
theorem dX10_playAll_29 : decode cX10_playAll 29 = .ok (.bipush 22, 2) := by decide +kernel
theorem dX10_playAll_31 : decode cX10_playAll 31 = .ok (.iaload, 1) := by decide +kernel
theorem dX10_playAll_32 : decode cX10_playAll 32 = .ok (.if_icmp .ge 47, 3) := by decide +kernel
theorem dX10_playAll_35 : decode cX10_playAll 35 = .ok (.aload_n 0, 1) := by decide +kernel
theorem dX10_playAll_36 : decode cX10_playAll 36 = .ok (.aload_n 0, 1) := by decide +kernel
theorem dX10_playAll_37 : decode cX10_playAll 37 = .ok (.getfield 7, 3) := by decide +kernel
theorem dX10_playAll_40 : decode cX10_playAll 40 = .ok (.bipush 14, 2) := by decide +kernel
theorem dX10_playAll_42 : decode cX10_playAll 42 = .ok (.iaload, 1) := by decide +kernel
theorem dX10_playAll_43 : decode cX10_playAll 43 = .ok (.aload_n 0, 1) := by decide +kernel
theorem dX10_playAll_44 : decode cX10_playAll 44 = .ok (.getfield 26, 3) := by decide +kernel
theorem dX10_playAll_47 : decode cX10_playAll 47 = .ok (.if_icmp .ne 8, 3) := by decide +kernel
theorem dX10_playAll_50 : decode cX10_playAll 50 = .ok (.bipush (-6), 2) := by decide +kernel
theorem dX10_playAll_52 : decode cX10_playAll 52 = .ok (.goto 17, 3) := by decide +kernel
theorem dX10_playAll_55 : decode cX10_playAll 55 = .ok (.iconst 4, 1) := by decide +kernel
theorem dX10_playAll_56 : decode cX10_playAll 56 = .ok (.aload_n 0, 1) := by decide +kernel
theorem dX10_playAll_57 : decode cX10_playAll 57 = .ok (.aload_n 0, 1) := by decide +kernel
theorem dX10_playAll_58 : decode cX10_playAll 58 = .ok (.getfield 7, 3) := by decide +kernel
theorem dX10_playAll_61 : decode cX10_playAll 61 = .ok (.bipush 14, 2) := by decide +kernel
theorem dX10_playAll_63 : decode cX10_playAll 63 = .ok (.iaload, 1) := by decide +kernel
theorem dX10_playAll_64 : decode cX10_playAll 64 = .ok (.iconst 0, 1) := by decide +kernel
theorem dX10_playAll_65 : decode cX10_playAll 65 = .ok (.invokevirtual 52, 3) := by decide +kernel
theorem dX10_playAll_68 : decode cX10_playAll 68 = .ok (.imul, 1) := by decide +kernel
theorem dX10_playAll_69 : decode cX10_playAll 69 = .ok (.invokevirtual 92, 3) := by decide +kernel
theorem dX10_playAll_72 : decode cX10_playAll 72 = .ok (.aload_n 0, 1) := by decide +kernel
theorem dX10_playAll_73 : decode cX10_playAll 73 = .ok (.invokevirtual 95, 3) := by decide +kernel
theorem dX10_playAll_76 : decode cX10_playAll 76 = .ok (.goto (-58), 3) := by decide +kernel
theorem dX10_playAll_79 : decode cX10_playAll 79 = .ok (.return_, 1) := by decide +kernel
theorem dX10_ended_0 : decode cX10_ended 0 = .ok (.iload_n 1, 1) := by decide +kernel
theorem dX10_ended_1 : decode cX10_ended 1 = .ok (.tableswitch 63 0 3 #[31, 39, 47, 55], 31) := by decide +kernel
theorem dX10_ended_32 : decode cX10_ended 32 = .ok (.aload_n 0, 1) := by decide +kernel
theorem dX10_ended_33 : decode cX10_ended 33 = .ok (.getfield 7, 3) := by decide +kernel
theorem dX10_ended_36 : decode cX10_ended 36 = .ok (.bipush 26, 2) := by decide +kernel
theorem dX10_ended_38 : decode cX10_ended 38 = .ok (.iaload, 1) := by decide +kernel
theorem dX10_ended_39 : decode cX10_ended 39 = .ok (.ireturn, 1) := by decide +kernel
theorem dX10_ended_40 : decode cX10_ended 40 = .ok (.aload_n 0, 1) := by decide +kernel
theorem dX10_ended_41 : decode cX10_ended 41 = .ok (.getfield 7, 3) := by decide +kernel
theorem dX10_ended_44 : decode cX10_ended 44 = .ok (.bipush 15, 2) := by decide +kernel
theorem dX10_ended_46 : decode cX10_ended 46 = .ok (.iaload, 1) := by decide +kernel
theorem dX10_ended_47 : decode cX10_ended 47 = .ok (.ireturn, 1) := by decide +kernel
theorem dX10_ended_48 : decode cX10_ended 48 = .ok (.aload_n 0, 1) := by decide +kernel
theorem dX10_ended_49 : decode cX10_ended 49 = .ok (.getfield 7, 3) := by decide +kernel
theorem dX10_ended_52 : decode cX10_ended 52 = .ok (.bipush 13, 2) := by decide +kernel
theorem dX10_ended_54 : decode cX10_ended 54 = .ok (.iaload, 1) := by decide +kernel
theorem dX10_ended_55 : decode cX10_ended 55 = .ok (.ireturn, 1) := by decide +kernel
theorem dX10_ended_56 : decode cX10_ended 56 = .ok (.aload_n 0, 1) := by decide +kernel
theorem dX10_ended_57 : decode cX10_ended 57 = .ok (.getfield 7, 3) := by decide +kernel
theorem dX10_ended_60 : decode cX10_ended 60 = .ok (.bipush 18, 2) := by decide +kernel
theorem dX10_ended_62 : decode cX10_ended 62 = .ok (.iaload, 1) := by decide +kernel
theorem dX10_ended_63 : decode cX10_ended 63 = .ok (.ireturn, 1) := by decide +kernel
theorem dX10_ended_64 : decode cX10_ended 64 = .ok (.aload_n 0, 1) := by decide +kernel
theorem dX10_ended_65 : decode cX10_ended 65 = .ok (.getfield 7, 3) := by decide +kernel
theorem dX10_ended_68 : decode cX10_ended 68 = .ok (.bipush 27, 2) := by decide +kernel
theorem dX10_ended_70 : decode cX10_ended 70 = .ok (.iaload, 1) := by decide +kernel
theorem dX10_ended_71 : decode cX10_ended 71 = .ok (.ireturn, 1) := by decide +kernel
set_option maxRecDepth 20000 in
theorem ggX10_endWith_X10_in : GoodIn wsX10_endWith wsX10_in := goodIn_r _ [4] (by decide +kernel) (by decide +kernel)
set_option maxRecDepth 20000 in
theorem gX10_endWith_X10_in : GoodIn wsX10_endWith (va_wsS RX10 98 yX10_in wsX10_in) := goodIn_app (goodIn_of _ (by decide +kernel)) ggX10_endWith_X10_in
set_option maxRecDepth 20000 in
theorem ggX10_endWith_X10_layAside : GoodIn wsX10_endWith wsX10_layAside := goodIn_r _ [8, 9, 10, 86, 87, 88, 89, 90, 91, 92, 93, 94, 95, 96, 97, 98, 99, 100, 101, 102, 103] (by decide +kernel) (by decide +kernel)
set_option maxRecDepth 20000 in
theorem gX10_endWith_X10_layAside : GoodIn wsX10_endWith (wsV RX10 131 RX10 yX10_layAside wsX10_layAside) := goodIn_app (goodIn_of _ (by decide +kernel)) ggX10_endWith_X10_layAside
set_option maxRecDepth 20000 in
theorem ggX10_endWith_X10_playAll : GoodIn wsX10_endWith wsX10_playAll := goodIn_r _ [14, 10, 15, 16, 17, 18, 3, 19, 20, 21, 22, 23, 24, 25, 26, 27, 28, 29, 30, 31, 32, 33, 34, 35, 36, 37, 38, 39, 40, 41, 42, 43, 44, 45, 46, 47, 48, 49, 50, 51, 52, 53, 54, 55, 56, 57, 58, 59, 60, 61, 62, 63, 64, 65, 66, 67, 68, 69, 70, 71, 72, 73, 74, 75, 76, 77, 86, 87, 88, 89, 90, 91, 92, 93, 94, 95, 96, 97, 98, 99, 100, 101, 102, 103] (by decide +kernel) (by decide +kernel)
set_option maxRecDepth 20000 in
theorem gX10_endWith_X10_playAll : GoodIn wsX10_endWith (wsV RX10 137 RX10 yX10_playAll wsX10_playAll) := goodIn_app (goodIn_of _ (by decide +kernel)) ggX10_endWith_X10_playAll
set_option maxRecDepth 20000 in
theorem ggX10_endWith_X10_ended : GoodIn wsX10_endWith wsX10_ended := goodIn_r _ [81, 10, 86, 87, 88, 89, 90, 91, 92, 93, 94, 95, 96, 97, 98, 99, 100, 101, 102, 103] (by decide +kernel) (by decide +kernel)
set_option maxRecDepth 20000 in
theorem gX10_endWith_X10_ended : GoodIn wsX10_endWith (wsV RX10 140 RX10 yX10_ended wsX10_ended) := goodIn_app (goodIn_of _ (by decide +kernel)) ggX10_endWith_X10_ended
set_option maxRecDepth 20000 in
theorem ggX10_endWith_X10_layBack : GoodIn wsX10_endWith wsX10_layBack := goodIn_r _ [85, 10, 9, 86, 87, 88, 89, 90, 91, 92, 93, 94, 95, 96, 97, 98, 99, 100, 101, 102, 103] (by decide +kernel) (by decide +kernel)
set_option maxRecDepth 20000 in
theorem gX10_endWith_X10_layBack : GoodIn wsX10_endWith (wsV RX10 134 RX10 yX10_layBack wsX10_layBack) := goodIn_app (goodIn_of _ (by decide +kernel)) ggX10_endWith_X10_layBack
theorem dX10_endWith_0 : decode cX10_endWith 0 = .ok (.iload_n 1, 1) := by decide +kernel
theorem dX10_endWith_1 : decode cX10_endWith 1 = .ok (.iconst 0, 1) := by decide +kernel
theorem dX10_endWith_2 : decode cX10_endWith 2 = .ok (.bipush 16, 2) := by decide +kernel
theorem dX10_endWith_4 : decode cX10_endWith 4 = .ok (.invokestatic 98, 3) := by decide +kernel
theorem dX10_endWith_7 : decode cX10_endWith 7 = .ok (.ifCond .eq 22, 3) := by decide +kernel
theorem dX10_endWith_10 : decode cX10_endWith 10 = .ok (.iload_n 2, 1) := by decide +kernel
theorem dX10_endWith_11 : decode cX10_endWith 11 = .ok (.iconst 0, 1) := by decide +kernel
theorem dX10_endWith_12 : decode cX10_endWith 12 = .ok (.bipush 16, 2) := by decide +kernel
theorem dX10_endWith_14 : decode cX10_endWith 14 = .ok (.invokestatic 98, 3) := by decide +kernel
theorem dX10_endWith_17 : decode cX10_endWith 17 = .ok (.ifCond .eq 12, 3) := by decide +kernel
theorem dX10_endWith_20 : decode cX10_endWith 20 = .ok (.iload_n 3, 1) := by decide +kernel
theorem dX10_endWith_21 : decode cX10_endWith 21 = .ok (.iconst 0, 1) := by decide +kernel
theorem dX10_endWith_22 : decode cX10_endWith 22 = .ok (.iconst 4, 1) := by decide +kernel
theorem dX10_endWith_23 : decode cX10_endWith 23 = .ok (.invokestatic 98, 3) := by decide +kernel
theorem dX10_endWith_26 : decode cX10_endWith 26 = .ok (.ifCond .ne 6, 3) := by decide +kernel
theorem dX10_endWith_29 : decode cX10_endWith 29 = .ok (.bipush (-2), 2) := by decide +kernel
theorem dX10_endWith_31 : decode cX10_endWith 31 = .ok (.ireturn, 1) := by decide +kernel
theorem dX10_endWith_32 : decode cX10_endWith 32 = .ok (.aload_n 0, 1) := by decide +kernel
theorem dX10_endWith_33 : decode cX10_endWith 33 = .ok (.invokevirtual 131, 3) := by decide +kernel
theorem dX10_endWith_36 : decode cX10_endWith 36 = .ok (.aload_n 0, 1) := by decide +kernel
theorem dX10_endWith_37 : decode cX10_endWith 37 = .ok (.iload_n 1, 1) := by decide +kernel
theorem dX10_endWith_38 : decode cX10_endWith 38 = .ok (.iload_n 2, 1) := by decide +kernel
theorem dX10_endWith_39 : decode cX10_endWith 39 = .ok (.invokevirtual 137, 3) := by decide +kernel
theorem dX10_endWith_42 : decode cX10_endWith 42 = .ok (.aload_n 0, 1) := by decide +kernel
theorem dX10_endWith_43 : decode cX10_endWith 43 = .ok (.iload_n 3, 1) := by decide +kernel
theorem dX10_endWith_44 : decode cX10_endWith 44 = .ok (.invokevirtual 140, 3) := by decide +kernel
theorem dX10_endWith_47 : decode cX10_endWith 47 = .ok (.istore 4, 2) := by decide +kernel
theorem dX10_endWith_49 : decode cX10_endWith 49 = .ok (.aload_n 0, 1) := by decide +kernel
theorem dX10_endWith_50 : decode cX10_endWith 50 = .ok (.invokevirtual 134, 3) := by decide +kernel
theorem dX10_endWith_53 : decode cX10_endWith 53 = .ok (.iload 4, 2) := by decide +kernel
theorem dX10_endWith_55 : decode cX10_endWith 55 = .ok (.ireturn, 1) := by decide +kernel
set_option maxRecDepth 20000 in
theorem ggX10_bestNudge_X10_in : GoodIn wsX10_bestNudge wsX10_in := goodIn_r _ [5] (by decide +kernel) (by decide +kernel)
set_option maxRecDepth 20000 in
theorem gX10_bestNudge_X10_in : GoodIn wsX10_bestNudge (va_wsS RX10 98 yX10_in wsX10_in) := goodIn_app (goodIn_of _ (by decide +kernel)) ggX10_bestNudge_X10_in
set_option maxRecDepth 20000 in
theorem ggX10_bestNudge_X10_layAside : GoodIn wsX10_bestNudge wsX10_layAside := goodIn_r _ [9, 10, 1, 82, 83, 84, 85, 86, 87, 88, 89, 90, 91, 92, 93, 94, 95, 96, 97, 98, 99] (by decide +kernel) (by decide +kernel)
set_option maxRecDepth 20000 in
theorem gX10_bestNudge_X10_layAside : GoodIn wsX10_bestNudge (wsV RX10 131 RX10 yX10_layAside wsX10_layAside) := goodIn_app (goodIn_of _ (by decide +kernel)) ggX10_bestNudge_X10_layAside
set_option maxRecDepth 20000 in
theorem ggX10_bestNudge_X10_playAll : GoodIn wsX10_bestNudge wsX10_playAll := goodIn_r _ [14, 1, 15, 16, 17, 18, 4, 19, 20, 21, 22, 23, 24, 25, 26, 27, 28, 29, 30, 31, 32, 33, 34, 35, 36, 37, 38, 39, 40, 41, 42, 43, 44, 45, 46, 47, 48, 49, 50, 51, 52, 53, 54, 55, 56, 57, 58, 59, 60, 61, 62, 63, 64, 65, 66, 67, 68, 69, 70, 71, 72, 73, 74, 75, 76, 77, 82, 83, 84, 85, 86, 87, 88, 89, 90, 91, 92, 93, 94, 95, 96, 97, 98, 99] (by decide +kernel) (by decide +kernel)
set_option maxRecDepth 20000 in
theorem gX10_bestNudge_X10_playAll : GoodIn wsX10_bestNudge (wsV RX10 137 RX10 yX10_playAll wsX10_playAll) := goodIn_app (goodIn_of _ (by decide +kernel)) ggX10_bestNudge_X10_playAll
set_option maxRecDepth 20000 in
theorem ggX10_bestNudge_X10_layBack : GoodIn wsX10_bestNudge wsX10_layBack := goodIn_r _ [81, 1, 10, 82, 83, 84, 85, 86, 87, 88, 89, 90, 91, 92, 93, 94, 95, 96, 97, 98, 99] (by decide +kernel) (by decide +kernel)
set_option maxRecDepth 20000 in
theorem gX10_bestNudge_X10_layBack : GoodIn wsX10_bestNudge (wsV RX10 134 RX10 yX10_layBack wsX10_layBack) := goodIn_app (goodIn_of _ (by decide +kernel)) ggX10_bestNudge_X10_layBack
theorem dX10_bestNudge_0 : decode cX10_bestNudge 0 = .ok (.iload_n 1, 1) := by decide +kernel
theorem dX10_bestNudge_1 : decode cX10_bestNudge 1 = .ok (.iconst 2, 1) := by decide +kernel
theorem dX10_bestNudge_2 : decode cX10_bestNudge 2 = .ok (.iconst 3, 1) := by decide +kernel
theorem dX10_bestNudge_3 : decode cX10_bestNudge 3 = .ok (.invokestatic 98, 3) := by decide +kernel
theorem dX10_bestNudge_6 : decode cX10_bestNudge 6 = .ok (.ifCond .ne 6, 3) := by decide +kernel
theorem dX10_bestNudge_9 : decode cX10_bestNudge 9 = .ok (.bipush (-2), 2) := by decide +kernel
theorem dX10_bestNudge_11 : decode cX10_bestNudge 11 = .ok (.ireturn, 1) := by decide +kernel
theorem dX10_bestNudge_12 : decode cX10_bestNudge 12 = .ok (.bipush (-6), 2) := by decide +kernel
theorem dX10_bestNudge_14 : decode cX10_bestNudge 14 = .ok (.istore_n 2, 1) := by decide +kernel
theorem dX10_bestNudge_15 : decode cX10_bestNudge 15 = .ok (.iconst 0, 1) := by decide +kernel
theorem dX10_bestNudge_16 : decode cX10_bestNudge 16 = .ok (.istore_n 3, 1) := by decide +kernel
theorem dX10_bestNudge_17 : decode cX10_bestNudge 17 = .ok (.iconst 0, 1) := by decide +kernel
theorem dX10_bestNudge_18 : decode cX10_bestNudge 18 = .ok (.istore 4, 2) := by decide +kernel
theorem dX10_bestNudge_20 : decode cX10_bestNudge 20 = .ok (.iconst 0, 1) := by decide +kernel
theorem dX10_bestNudge_21 : decode cX10_bestNudge 21 = .ok (.istore 5, 2) := by decide +kernel
theorem dX10_bestNudge_23 : decode cX10_bestNudge 23 = .ok (.iload 5, 2) := by decide +kernel
theorem dX10_bestNudge_25 : decode cX10_bestNudge 25 = .ok (.bipush 16, 2) := by decide +kernel
theorem dX10_bestNudge_27 : decode cX10_bestNudge 27 = .ok (.if_icmp .gt 114, 3) := by decide +kernel
theorem dX10_bestNudge_30 : decode cX10_bestNudge 30 = .ok (.aload_n 0, 1) := by decide +kernel
theorem dX10_bestNudge_31 : decode cX10_bestNudge 31 = .ok (.getfield 7, 3) := by decide +kernel
theorem dX10_bestNudge_34 : decode cX10_bestNudge 34 = .ok (.bipush 22, 2) := by decide +kernel
theorem dX10_bestNudge_36 : decode cX10_bestNudge 36 = .ok (.iaload, 1) := by decide +kernel
theorem dX10_bestNudge_37 : decode cX10_bestNudge 37 = .ok (.ifCond .le 104, 3) := by decide +kernel
theorem dX10_bestNudge_40 : decode cX10_bestNudge 40 = .ok (.aload_n 0, 1) := by decide +kernel
theorem dX10_bestNudge_41 : decode cX10_bestNudge 41 = .ok (.invokevirtual 131, 3) := by decide +kernel
theorem dX10_bestNudge_44 : decode cX10_bestNudge 44 = .ok (.aload_n 0, 1) := by decide +kernel
theorem dX10_bestNudge_45 : decode cX10_bestNudge 45 = .ok (.iload_n 1, 1) := by decide +kernel
theorem dX10_bestNudge_46 : decode cX10_bestNudge 46 = .ok (.iconst 2, 1) := by decide +kernel
theorem dX10_bestNudge_47 : decode cX10_bestNudge 47 = .ok (.if_icmp .ne 8, 3) := by decide +kernel
theorem dX10_bestNudge_50 : decode cX10_bestNudge 50 = .ok (.iload 5, 2) := by decide +kernel
theorem dX10_bestNudge_52 : decode cX10_bestNudge 52 = .ok (.goto 9, 3) := by decide +kernel
theorem dX10_bestNudge_55 : decode cX10_bestNudge 55 = .ok (.aload_n 0, 1) := by decide +kernel
theorem dX10_bestNudge_56 : decode cX10_bestNudge 56 = .ok (.getfield 7, 3) := by decide +kernel
theorem dX10_bestNudge_59 : decode cX10_bestNudge 59 = .ok (.iconst 2, 1) := by decide +kernel
theorem dX10_bestNudge_60 : decode cX10_bestNudge 60 = .ok (.iaload, 1) := by decide +kernel
theorem dX10_bestNudge_61 : decode cX10_bestNudge 61 = .ok (.iload_n 1, 1) := by decide +kernel
theorem dX10_bestNudge_62 : decode cX10_bestNudge 62 = .ok (.iconst 3, 1) := by decide +kernel
theorem dX10_bestNudge_63 : decode cX10_bestNudge 63 = .ok (.if_icmp .ne 8, 3) := by decide +kernel
theorem dX10_bestNudge_66 : decode cX10_bestNudge 66 = .ok (.iload 5, 2) := by decide +kernel
theorem dX10_bestNudge_68 : decode cX10_bestNudge 68 = .ok (.goto 9, 3) := by decide +kernel
theorem dX10_bestNudge_71 : decode cX10_bestNudge 71 = .ok (.aload_n 0, 1) := by decide +kernel
theorem dX10_bestNudge_72 : decode cX10_bestNudge 72 = .ok (.getfield 7, 3) := by decide +kernel
theorem dX10_bestNudge_75 : decode cX10_bestNudge 75 = .ok (.iconst 3, 1) := by decide +kernel
theorem dX10_bestNudge_76 : decode cX10_bestNudge 76 = .ok (.iaload, 1) := by decide +kernel
theorem dX10_bestNudge_77 : decode cX10_bestNudge 77 = .ok (.invokevirtual 137, 3) := by decide +kernel
theorem dX10_bestNudge_80 : decode cX10_bestNudge 80 = .ok (.aload_n 0, 1) := by decide +kernel
theorem dX10_bestNudge_81 : decode cX10_bestNudge 81 = .ok (.getfield 7, 3) := by decide +kernel
theorem dX10_bestNudge_84 : decode cX10_bestNudge 84 = .ok (.bipush 18, 2) := by decide +kernel
theorem dX10_bestNudge_86 : decode cX10_bestNudge 86 = .ok (.iaload, 1) := by decide +kernel
theorem dX10_bestNudge_87 : decode cX10_bestNudge 87 = .ok (.istore 6, 2) := by decide +kernel
theorem dX10_bestNudge_89 : decode cX10_bestNudge 89 = .ok (.aload_n 0, 1) := by decide +kernel
theorem dX10_bestNudge_90 : decode cX10_bestNudge 90 = .ok (.getfield 7, 3) := by decide +kernel
theorem dX10_bestNudge_93 : decode cX10_bestNudge 93 = .ok (.bipush 26, 2) := by decide +kernel
theorem dX10_bestNudge_95 : decode cX10_bestNudge 95 = .ok (.iaload, 1) := by decide +kernel
theorem dX10_bestNudge_96 : decode cX10_bestNudge 96 = .ok (.istore 7, 2) := by decide +kernel
theorem dX10_bestNudge_98 : decode cX10_bestNudge 98 = .ok (.aload_n 0, 1) := by decide +kernel
theorem dX10_bestNudge_99 : decode cX10_bestNudge 99 = .ok (.invokevirtual 134, 3) := by decide +kernel
theorem dX10_bestNudge_102 : decode cX10_bestNudge 102 = .ok (.iload_n 2, 1) := by decide +kernel
theorem dX10_bestNudge_103 : decode cX10_bestNudge 103 = .ok (.ifCond .lt 22, 3) := by decide +kernel
theorem dX10_bestNudge_106 : decode cX10_bestNudge 106 = .ok (.iload 6, 2) := by decide +kernel
theorem dX10_bestNudge_108 : decode cX10_bestNudge 108 = .ok (.iload_n 3, 1) := by decide +kernel
theorem dX10_bestNudge_109 : decode cX10_bestNudge 109 = .ok (.if_icmp .lt 16, 3) := by decide +kernel
theorem dX10_bestNudge_112 : decode cX10_bestNudge 112 = .ok (.iload 6, 2) := by decide +kernel
theorem dX10_bestNudge_114 : decode cX10_bestNudge 114 = .ok (.iload_n 3, 1) := by decide +kernel
theorem dX10_bestNudge_115 : decode cX10_bestNudge 115 = .ok (.if_icmp .ne 20, 3) := by decide +kernel
theorem dX10_bestNudge_118 : decode cX10_bestNudge 118 = .ok (.iload 7, 2) := by decide +kernel
theorem dX10_bestNudge_120 : decode cX10_bestNudge 120 = .ok (.iload 4, 2) := by decide +kernel
theorem dX10_bestNudge_122 : decode cX10_bestNudge 122 = .ok (.if_icmp .ge 13, 3) := by decide +kernel
theorem dX10_bestNudge_125 : decode cX10_bestNudge 125 = .ok (.iload 5, 2) := by decide +kernel
theorem dX10_bestNudge_127 : decode cX10_bestNudge 127 = .ok (.istore_n 2, 1) := by decide +kernel
theorem dX10_bestNudge_128 : decode cX10_bestNudge 128 = .ok (.iload 6, 2) := by decide +kernel
theorem dX10_bestNudge_130 : decode cX10_bestNudge 130 = .ok (.istore_n 3, 1) := by decide +kernel
theorem dX10_bestNudge_131 : decode cX10_bestNudge 131 = .ok (.iload 7, 2) := by decide +kernel
theorem dX10_bestNudge_133 : decode cX10_bestNudge 133 = .ok (.istore 4, 2) := by decide +kernel
theorem dX10_bestNudge_135 : decode cX10_bestNudge 135 = .ok (.iinc 5 1, 3) := by decide +kernel
theorem dX10_bestNudge_138 : decode cX10_bestNudge 138 = .ok (.goto (-115), 3) := by decide +kernel
theorem dX10_bestNudge_141 : decode cX10_bestNudge 141 = .ok (.iload_n 2, 1) := by decide +kernel
theorem dX10_bestNudge_142 : decode cX10_bestNudge 142 = .ok (.ireturn, 1) := by decide +kernel
set_option maxRecDepth 20000 in
theorem ggX10_worstBeat_X10_in : GoodIn wsX10_worstBeat wsX10_in := goodIn_r _ [6] (by decide +kernel) (by decide +kernel)
set_option maxRecDepth 20000 in
theorem gX10_worstBeat_X10_in : GoodIn wsX10_worstBeat (va_wsS RX10 98 yX10_in wsX10_in) := goodIn_app (goodIn_of _ (by decide +kernel)) ggX10_worstBeat_X10_in
set_option maxRecDepth 20000 in
theorem ggX10_worstBeat_X10_layAside : GoodIn wsX10_worstBeat wsX10_layAside := goodIn_r _ [10, 11, 1, 82, 83, 84, 85, 86, 87, 88, 89, 90, 91, 92, 93, 94, 95, 96, 97, 98, 99] (by decide +kernel) (by decide +kernel)
set_option maxRecDepth 20000 in
theorem gX10_worstBeat_X10_layAside : GoodIn wsX10_worstBeat (wsV RX10 131 RX10 yX10_layAside wsX10_layAside) := goodIn_app (goodIn_of _ (by decide +kernel)) ggX10_worstBeat_X10_layAside
set_option maxRecDepth 20000 in
theorem ggX10_worstBeat_X10_playAll : GoodIn wsX10_worstBeat wsX10_playAll := goodIn_r _ [15, 1, 2, 16, 17, 18, 5, 19, 20, 21, 22, 23, 24, 25, 26, 27, 28, 29, 30, 31, 32, 33, 34, 35, 36, 37, 38, 39, 40, 41, 42, 43, 44, 45, 46, 47, 48, 49, 50, 51, 52, 53, 54, 55, 56, 57, 58, 59, 60, 61, 62, 63, 64, 65, 66, 67, 68, 69, 70, 71, 72, 73, 74, 75, 76, 77, 82, 83, 84, 85, 86, 87, 88, 89, 90, 91, 92, 93, 94, 95, 96, 97, 98, 99] (by decide +kernel) (by decide +kernel)
set_option maxRecDepth 20000 in
theorem gX10_worstBeat_X10_playAll : GoodIn wsX10_worstBeat (wsV RX10 137 RX10 yX10_playAll wsX10_playAll) := goodIn_app (goodIn_of _ (by decide +kernel)) ggX10_worstBeat_X10_playAll
set_option maxRecDepth 20000 in
theorem ggX10_worstBeat_X10_layBack : GoodIn wsX10_worstBeat wsX10_layBack := goodIn_r _ [81, 1, 11, 82, 83, 84, 85, 86, 87, 88, 89, 90, 91, 92, 93, 94, 95, 96, 97, 98, 99] (by decide +kernel) (by decide +kernel)
set_option maxRecDepth 20000 in
theorem gX10_worstBeat_X10_layBack : GoodIn wsX10_worstBeat (wsV RX10 134 RX10 yX10_layBack wsX10_layBack) := goodIn_app (goodIn_of _ (by decide +kernel)) ggX10_worstBeat_X10_layBack
theorem dX10_worstBeat_0 : decode cX10_worstBeat 0 = .ok (.iload_n 1, 1) := by decide +kernel
theorem dX10_worstBeat_1 : decode cX10_worstBeat 1 = .ok (.iconst 0, 1) := by decide +kernel
theorem dX10_worstBeat_2 : decode cX10_worstBeat 2 = .ok (.iconst 1, 1) := by decide +kernel
theorem dX10_worstBeat_3 : decode cX10_worstBeat 3 = .ok (.invokestatic 98, 3) := by decide +kernel
theorem dX10_worstBeat_6 : decode cX10_worstBeat 6 = .ok (.ifCond .ne 6, 3) := by decide +kernel
theorem dX10_worstBeat_9 : decode cX10_worstBeat 9 = .ok (.bipush (-2), 2) := by decide +kernel
theorem dX10_worstBeat_11 : decode cX10_worstBeat 11 = .ok (.ireturn, 1) := by decide +kernel
theorem dX10_worstBeat_12 : decode cX10_worstBeat 12 = .ok (.bipush (-6), 2) := by decide +kernel
theorem dX10_worstBeat_14 : decode cX10_worstBeat 14 = .ok (.istore_n 2, 1) := by decide +kernel
theorem dX10_worstBeat_15 : decode cX10_worstBeat 15 = .ok (.bipush (-6), 2) := by decide +kernel
theorem dX10_worstBeat_17 : decode cX10_worstBeat 17 = .ok (.istore_n 3, 1) := by decide +kernel
theorem dX10_worstBeat_18 : decode cX10_worstBeat 18 = .ok (.iconst 0, 1) := by decide +kernel
theorem dX10_worstBeat_19 : decode cX10_worstBeat 19 = .ok (.istore 4, 2) := by decide +kernel
theorem dX10_worstBeat_21 : decode cX10_worstBeat 21 = .ok (.iload 4, 2) := by decide +kernel
theorem dX10_worstBeat_23 : decode cX10_worstBeat 23 = .ok (.aload_n 0, 1) := by decide +kernel
theorem dX10_worstBeat_24 : decode cX10_worstBeat 24 = .ok (.getfield 7, 3) := by decide +kernel
theorem dX10_worstBeat_27 : decode cX10_worstBeat 27 = .ok (.bipush 22, 2) := by decide +kernel
theorem dX10_worstBeat_29 : decode cX10_worstBeat 29 = .ok (.iaload, 1) := by decide +kernel
theorem dX10_worstBeat_30 : decode cX10_worstBeat 30 = .ok (.if_icmp .ge 70, 3) := by decide +kernel
theorem dX10_worstBeat_33 : decode cX10_worstBeat 33 = .ok (.aload_n 0, 1) := by decide +kernel
theorem dX10_worstBeat_34 : decode cX10_worstBeat 34 = .ok (.invokevirtual 131, 3) := by decide +kernel
theorem dX10_worstBeat_37 : decode cX10_worstBeat 37 = .ok (.aload_n 0, 1) := by decide +kernel
theorem dX10_worstBeat_38 : decode cX10_worstBeat 38 = .ok (.iload 4, 2) := by decide +kernel
theorem dX10_worstBeat_40 : decode cX10_worstBeat 40 = .ok (.putfield 26, 3) := by decide +kernel
theorem dX10_worstBeat_43 : decode cX10_worstBeat 43 = .ok (.aload_n 0, 1) := by decide +kernel
theorem dX10_worstBeat_44 : decode cX10_worstBeat 44 = .ok (.aload_n 0, 1) := by decide +kernel
theorem dX10_worstBeat_45 : decode cX10_worstBeat 45 = .ok (.getfield 7, 3) := by decide +kernel
theorem dX10_worstBeat_48 : decode cX10_worstBeat 48 = .ok (.iconst 2, 1) := by decide +kernel
theorem dX10_worstBeat_49 : decode cX10_worstBeat 49 = .ok (.iaload, 1) := by decide +kernel
theorem dX10_worstBeat_50 : decode cX10_worstBeat 50 = .ok (.aload_n 0, 1) := by decide +kernel
theorem dX10_worstBeat_51 : decode cX10_worstBeat 51 = .ok (.getfield 7, 3) := by decide +kernel
theorem dX10_worstBeat_54 : decode cX10_worstBeat 54 = .ok (.iconst 3, 1) := by decide +kernel
theorem dX10_worstBeat_55 : decode cX10_worstBeat 55 = .ok (.iaload, 1) := by decide +kernel
theorem dX10_worstBeat_56 : decode cX10_worstBeat 56 = .ok (.invokevirtual 137, 3) := by decide +kernel
theorem dX10_worstBeat_59 : decode cX10_worstBeat 59 = .ok (.aload_n 0, 1) := by decide +kernel
theorem dX10_worstBeat_60 : decode cX10_worstBeat 60 = .ok (.bipush (-6), 2) := by decide +kernel
theorem dX10_worstBeat_62 : decode cX10_worstBeat 62 = .ok (.putfield 26, 3) := by decide +kernel
theorem dX10_worstBeat_65 : decode cX10_worstBeat 65 = .ok (.aload_n 0, 1) := by decide +kernel
theorem dX10_worstBeat_66 : decode cX10_worstBeat 66 = .ok (.getfield 7, 3) := by decide +kernel
theorem dX10_worstBeat_69 : decode cX10_worstBeat 69 = .ok (.bipush 18, 2) := by decide +kernel
theorem dX10_worstBeat_71 : decode cX10_worstBeat 71 = .ok (.iaload, 1) := by decide +kernel
theorem dX10_worstBeat_72 : decode cX10_worstBeat 72 = .ok (.istore 5, 2) := by decide +kernel
theorem dX10_worstBeat_74 : decode cX10_worstBeat 74 = .ok (.aload_n 0, 1) := by decide +kernel
theorem dX10_worstBeat_75 : decode cX10_worstBeat 75 = .ok (.invokevirtual 134, 3) := by decide +kernel
theorem dX10_worstBeat_78 : decode cX10_worstBeat 78 = .ok (.iload_n 2, 1) := by decide +kernel
theorem dX10_worstBeat_79 : decode cX10_worstBeat 79 = .ok (.ifCond .lt 9, 3) := by decide +kernel
theorem dX10_worstBeat_82 : decode cX10_worstBeat 82 = .ok (.iload 5, 2) := by decide +kernel
theorem dX10_worstBeat_84 : decode cX10_worstBeat 84 = .ok (.iload_n 3, 1) := by decide +kernel
theorem dX10_worstBeat_85 : decode cX10_worstBeat 85 = .ok (.if_icmp .ge 9, 3) := by decide +kernel
theorem dX10_worstBeat_88 : decode cX10_worstBeat 88 = .ok (.iload 4, 2) := by decide +kernel
theorem dX10_worstBeat_90 : decode cX10_worstBeat 90 = .ok (.istore_n 2, 1) := by decide +kernel
theorem dX10_worstBeat_91 : decode cX10_worstBeat 91 = .ok (.iload 5, 2) := by decide +kernel
theorem dX10_worstBeat_93 : decode cX10_worstBeat 93 = .ok (.istore_n 3, 1) := by decide +kernel
theorem dX10_worstBeat_94 : decode cX10_worstBeat 94 = .ok (.iinc 4 1, 3) := by decide +kernel
theorem dX10_worstBeat_97 : decode cX10_worstBeat 97 = .ok (.goto (-76), 3) := by decide +kernel
theorem dX10_worstBeat_100 : decode cX10_worstBeat 100 = .ok (.iload_n 1, 1) := by decide +kernel
theorem dX10_worstBeat_101 : decode cX10_worstBeat 101 = .ok (.ifCond .ne 7, 3) := by decide +kernel
theorem dX10_worstBeat_104 : decode cX10_worstBeat 104 = .ok (.iload_n 2, 1) := by decide +kernel
theorem dX10_worstBeat_105 : decode cX10_worstBeat 105 = .ok (.goto 4, 3) := by decide +kernel
theorem dX10_worstBeat_108 : decode cX10_worstBeat 108 = .ok (.iload_n 3, 1) := by decide +kernel
theorem dX10_worstBeat_109 : decode cX10_worstBeat 109 = .ok (.ireturn, 1) := by decide +kernel
set_option maxRecDepth 20000 in
theorem ggX10_put_X10_in : GoodIn wsX10_put wsX10_in := goodIn_r _ [7] (by decide +kernel) (by decide +kernel)
set_option maxRecDepth 20000 in
theorem gX10_put_X10_in : GoodIn wsX10_put (va_wsS RX10 98 yX10_in wsX10_in) := goodIn_app (goodIn_of _ (by decide +kernel)) ggX10_put_X10_in
theorem dX10_put_0 : decode cX10_put 0 = .ok (.iconst 0, 1) := by decide +kernel
theorem dX10_put_1 : decode cX10_put 1 = .ok (.istore_n 3, 1) := by decide +kernel
theorem dX10_put_2 : decode cX10_put 2 = .ok (.lload_n 1, 1) := by decide +kernel
theorem dX10_put_3 : decode cX10_put 3 = .ok (.lstore 4, 2) := by decide +kernel
theorem dX10_put_5 : decode cX10_put 5 = .ok (.iload_n 3, 1) := by decide +kernel
theorem dX10_put_6 : decode cX10_put 6 = .ok (.bipush 8, 2) := by decide +kernel
theorem dX10_put_8 : decode cX10_put 8 = .ok (.if_icmp .ge 47, 3) := by decide +kernel
theorem dX10_put_11 : decode cX10_put 11 = .ok (.lload 4, 2) := by decide +kernel
theorem dX10_put_13 : decode cX10_put 13 = .ok (.ldc2_w 143, 3) := by decide +kernel
theorem dX10_put_16 : decode cX10_put 16 = .ok (.land, 1) := by decide +kernel
theorem dX10_put_17 : decode cX10_put 17 = .ok (.lconst 0, 1) := by decide +kernel
theorem dX10_put_18 : decode cX10_put 18 = .ok (.lcmp, 1) := by decide +kernel
theorem dX10_put_19 : decode cX10_put 19 = .ok (.ifCond .eq 36, 3) := by decide +kernel
theorem dX10_put_22 : decode cX10_put 22 = .ok (.lload 4, 2) := by decide +kernel
theorem dX10_put_24 : decode cX10_put 24 = .ok (.ldc2_w 143, 3) := by decide +kernel
theorem dX10_put_27 : decode cX10_put 27 = .ok (.land, 1) := by decide +kernel
theorem dX10_put_28 : decode cX10_put 28 = .ok (.l2i, 1) := by decide +kernel
theorem dX10_put_29 : decode cX10_put 29 = .ok (.bipush 33, 2) := by decide +kernel
theorem dX10_put_31 : decode cX10_put 31 = .ok (.bipush 126, 2) := by decide +kernel
theorem dX10_put_33 : decode cX10_put 33 = .ok (.invokestatic 98, 3) := by decide +kernel
theorem dX10_put_36 : decode cX10_put 36 = .ok (.ifCond .ne 6, 3) := by decide +kernel
theorem dX10_put_39 : decode cX10_put 39 = .ok (.bipush (-2), 2) := by decide +kernel
theorem dX10_put_41 : decode cX10_put 41 = .ok (.ireturn, 1) := by decide +kernel
theorem dX10_put_42 : decode cX10_put 42 = .ok (.iinc 3 1, 3) := by decide +kernel
theorem dX10_put_45 : decode cX10_put 45 = .ok (.lload 4, 2) := by decide +kernel
theorem dX10_put_47 : decode cX10_put 47 = .ok (.bipush 8, 2) := by decide +kernel
theorem dX10_put_49 : decode cX10_put 49 = .ok (.lushr, 1) := by decide +kernel
theorem dX10_put_50 : decode cX10_put 50 = .ok (.lstore 4, 2) := by decide +kernel
theorem dX10_put_52 : decode cX10_put 52 = .ok (.goto (-47), 3) := by decide +kernel
theorem dX10_put_55 : decode cX10_put 55 = .ok (.iload_n 3, 1) := by decide +kernel
theorem dX10_put_56 : decode cX10_put 56 = .ok (.ifCond .eq 10, 3) := by decide +kernel
theorem dX10_put_59 : decode cX10_put 59 = .ok (.lload 4, 2) := by decide +kernel
theorem dX10_put_61 : decode cX10_put 61 = .ok (.lconst 0, 1) := by decide +kernel
theorem dX10_put_62 : decode cX10_put 62 = .ok (.lcmp, 1) := by decide +kernel
theorem dX10_put_63 : decode cX10_put 63 = .ok (.ifCond .eq 6, 3) := by decide +kernel
theorem dX10_put_66 : decode cX10_put 66 = .ok (.bipush (-2), 2) := by decide +kernel
theorem dX10_put_68 : decode cX10_put 68 = .ok (.ireturn, 1) := by decide +kernel
theorem dX10_put_69 : decode cX10_put 69 = .ok (.aload_n 0, 1) := by decide +kernel
theorem dX10_put_70 : decode cX10_put 70 = .ok (.getfield 128, 3) := by decide +kernel
theorem dX10_put_73 : decode cX10_put 73 = .ok (.iload_n 3, 1) := by decide +kernel
theorem dX10_put_74 : decode cX10_put 74 = .ok (.iadd, 1) := by decide +kernel
theorem dX10_put_75 : decode cX10_put 75 = .ok (.bipush 80, 2) := by decide +kernel
theorem dX10_put_77 : decode cX10_put 77 = .ok (.if_icmp .le 6, 3) := by decide +kernel
theorem dX10_put_80 : decode cX10_put 80 = .ok (.bipush (-4), 2) := by decide +kernel
theorem dX10_put_82 : decode cX10_put 82 = .ok (.ireturn, 1) := by decide +kernel
theorem dX10_put_83 : decode cX10_put 83 = .ok (.iconst 0, 1) := by decide +kernel
theorem dX10_put_84 : decode cX10_put 84 = .ok (.istore 6, 2) := by decide +kernel
theorem dX10_put_86 : decode cX10_put 86 = .ok (.iload 6, 2) := by decide +kernel
theorem dX10_put_88 : decode cX10_put 88 = .ok (.iload_n 3, 1) := by decide +kernel
theorem dX10_put_89 : decode cX10_put 89 = .ok (.if_icmp .ge 37, 3) := by decide +kernel
theorem dX10_put_92 : decode cX10_put 92 = .ok (.aload_n 0, 1) := by decide +kernel
theorem dX10_put_93 : decode cX10_put 93 = .ok (.getfield 30, 3) := by decide +kernel
theorem dX10_put_96 : decode cX10_put 96 = .ok (.aload_n 0, 1) := by decide +kernel
theorem dX10_put_97 : decode cX10_put 97 = .ok (.getfield 128, 3) := by decide +kernel
theorem dX10_put_100 : decode cX10_put 100 = .ok (.iload 6, 2) := by decide +kernel
theorem dX10_put_102 : decode cX10_put 102 = .ok (.iadd, 1) := by decide +kernel
theorem dX10_put_103 : decode cX10_put 103 = .ok (.lload_n 1, 1) := by decide +kernel
theorem dX10_put_104 : decode cX10_put 104 = .ok (.bipush 8, 2) := by decide +kernel
theorem dX10_put_106 : decode cX10_put 106 = .ok (.iload_n 3, 1) := by decide +kernel
theorem dX10_put_107 : decode cX10_put 107 = .ok (.iconst 1, 1) := by decide +kernel
theorem dX10_put_108 : decode cX10_put 108 = .ok (.isub, 1) := by decide +kernel
theorem dX10_put_109 : decode cX10_put 109 = .ok (.iload 6, 2) := by decide +kernel
theorem dX10_put_111 : decode cX10_put 111 = .ok (.isub, 1) := by decide +kernel
theorem dX10_put_112 : decode cX10_put 112 = .ok (.imul, 1) := by decide +kernel
theorem dX10_put_113 : decode cX10_put 113 = .ok (.lshr, 1) := by decide +kernel
theorem dX10_put_114 : decode cX10_put 114 = .ok (.ldc2_w 143, 3) := by decide +kernel
theorem dX10_put_117 : decode cX10_put 117 = .ok (.land, 1) := by decide +kernel
theorem dX10_put_118 : decode cX10_put 118 = .ok (.l2i, 1) := by decide +kernel
theorem dX10_put_119 : decode cX10_put 119 = .ok (.iastore, 1) := by decide +kernel
theorem dX10_put_120 : decode cX10_put 120 = .ok (.iinc 6 1, 3) := by decide +kernel
theorem dX10_put_123 : decode cX10_put 123 = .ok (.goto (-37), 3) := by decide +kernel
theorem dX10_put_126 : decode cX10_put 126 = .ok (.aload_n 0, 1) := by decide +kernel
theorem dX10_put_127 : decode cX10_put 127 = .ok (.dup, 1) := by decide +kernel
theorem dX10_put_128 : decode cX10_put 128 = .ok (.getfield 128, 3) := by decide +kernel
theorem dX10_put_131 : decode cX10_put 131 = .ok (.iload_n 3, 1) := by decide +kernel
theorem dX10_put_132 : decode cX10_put 132 = .ok (.iadd, 1) := by decide +kernel
theorem dX10_put_133 : decode cX10_put 133 = .ok (.putfield 128, 3) := by decide +kernel
theorem dX10_put_136 : decode cX10_put 136 = .ok (.aload_n 0, 1) := by decide +kernel
theorem dX10_put_137 : decode cX10_put 137 = .ok (.getfield 128, 3) := by decide +kernel
theorem dX10_put_140 : decode cX10_put 140 = .ok (.ireturn, 1) := by decide +kernel
theorem dX10_wipe_0 : decode cX10_wipe 0 = .ok (.aload_n 0, 1) := by decide +kernel
theorem dX10_wipe_1 : decode cX10_wipe 1 = .ok (.getfield 128, 3) := by decide +kernel
theorem dX10_wipe_4 : decode cX10_wipe 4 = .ok (.istore_n 1, 1) := by decide +kernel
theorem dX10_wipe_5 : decode cX10_wipe 5 = .ok (.aload_n 0, 1) := by decide +kernel
theorem dX10_wipe_6 : decode cX10_wipe 6 = .ok (.iconst 0, 1) := by decide +kernel
theorem dX10_wipe_7 : decode cX10_wipe 7 = .ok (.putfield 128, 3) := by decide +kernel
theorem dX10_wipe_10 : decode cX10_wipe 10 = .ok (.iload_n 1, 1) := by decide +kernel
theorem dX10_wipe_11 : decode cX10_wipe 11 = .ok (.ireturn, 1) := by decide +kernel
theorem dX10_next_0 : decode cX10_next 0 = .ok (.aload_n 0, 1) := by decide +kernel
theorem dX10_next_1 : decode cX10_next 1 = .ok (.getfield 145, 3) := by decide +kernel
theorem dX10_next_4 : decode cX10_next 4 = .ok (.aload_n 0, 1) := by decide +kernel
theorem dX10_next_5 : decode cX10_next 5 = .ok (.getfield 128, 3) := by decide +kernel
theorem dX10_next_8 : decode cX10_next 8 = .ok (.if_icmp .ge 15, 3) := by decide +kernel
theorem dX10_next_11 : decode cX10_next 11 = .ok (.aload_n 0, 1) := by decide +kernel
theorem dX10_next_12 : decode cX10_next 12 = .ok (.getfield 30, 3) := by decide +kernel
theorem dX10_next_15 : decode cX10_next 15 = .ok (.aload_n 0, 1) := by decide +kernel
theorem dX10_next_16 : decode cX10_next 16 = .ok (.getfield 145, 3) := by decide +kernel
theorem dX10_next_19 : decode cX10_next 19 = .ok (.iaload, 1) := by decide +kernel
theorem dX10_next_20 : decode cX10_next 20 = .ok (.goto 4, 3) := by decide +kernel
theorem dX10_next_23 : decode cX10_next 23 = .ok (.iconst 0, 1) := by decide +kernel
theorem dX10_next_24 : decode cX10_next 24 = .ok (.ireturn, 1) := by decide +kernel
set_option maxRecDepth 20000 in
theorem ggX10_takeSign_X10_next : GoodIn wsX10_takeSign wsX10_next := goodIn_r _ [7, 2, 8, 9, 10, 11, 12, 13, 14, 15, 16, 17, 18, 19, 20, 21, 22, 23, 24, 25, 26, 27] (by decide +kernel) (by decide +kernel)
set_option maxRecDepth 20000 in
theorem gX10_takeSign_X10_next : GoodIn wsX10_takeSign (wsV RX10 152 RX10 yX10_next wsX10_next) := goodIn_app (goodIn_of _ (by decide +kernel)) ggX10_takeSign_X10_next
theorem dX10_takeSign_0 : decode cX10_takeSign 0 = .ok (.aload_n 0, 1) := by decide +kernel
theorem dX10_takeSign_1 : decode cX10_takeSign 1 = .ok (.aload_n 0, 1) := by decide +kernel
theorem dX10_takeSign_2 : decode cX10_takeSign 2 = .ok (.getfield 148, 3) := by decide +kernel
theorem dX10_takeSign_5 : decode cX10_takeSign 5 = .ok (.ifCond .ne 11, 3) := by decide +kernel
theorem dX10_takeSign_8 : decode cX10_takeSign 8 = .ok (.aload_n 0, 1) := by decide +kernel
theorem dX10_takeSign_9 : decode cX10_takeSign 9 = .ok (.invokevirtual 152, 3) := by decide +kernel
theorem dX10_takeSign_12 : decode cX10_takeSign 12 = .ok (.iload_n 1, 1) := by decide +kernel
theorem dX10_takeSign_13 : decode cX10_takeSign 13 = .ok (.if_icmp .eq 7, 3) := by decide +kernel
theorem dX10_takeSign_16 : decode cX10_takeSign 16 = .ok (.iconst 1, 1) := by decide +kernel
theorem dX10_takeSign_17 : decode cX10_takeSign 17 = .ok (.goto 4, 3) := by decide +kernel
theorem dX10_takeSign_20 : decode cX10_takeSign 20 = .ok (.iconst 0, 1) := by decide +kernel
theorem dX10_takeSign_21 : decode cX10_takeSign 21 = .ok (.putfield 148, 3) := by decide +kernel
theorem dX10_takeSign_24 : decode cX10_takeSign 24 = .ok (.aload_n 0, 1) := by decide +kernel
theorem dX10_takeSign_25 : decode cX10_takeSign 25 = .ok (.dup, 1) := by decide +kernel
theorem dX10_takeSign_26 : decode cX10_takeSign 26 = .ok (.getfield 145, 3) := by decide +kernel
theorem dX10_takeSign_29 : decode cX10_takeSign 29 = .ok (.aload_n 0, 1) := by decide +kernel
theorem dX10_takeSign_30 : decode cX10_takeSign 30 = .ok (.getfield 148, 3) := by decide +kernel
theorem dX10_takeSign_33 : decode cX10_takeSign 33 = .ok (.ifCond .eq 7, 3) := by decide +kernel
theorem dX10_takeSign_36 : decode cX10_takeSign 36 = .ok (.iconst 0, 1) := by decide +kernel
theorem dX10_takeSign_37 : decode cX10_takeSign 37 = .ok (.goto 4, 3) := by decide +kernel
theorem dX10_takeSign_40 : decode cX10_takeSign 40 = .ok (.iconst 1, 1) := by decide +kernel
theorem dX10_takeSign_41 : decode cX10_takeSign 41 = .ok (.iadd, 1) := by decide +kernel
theorem dX10_takeSign_42 : decode cX10_takeSign 42 = .ok (.putfield 145, 3) := by decide +kernel
theorem dX10_takeSign_45 : decode cX10_takeSign 45 = .ok (.return_, 1) := by decide +kernel
set_option maxRecDepth 20000 in
theorem ggX10_takeNumber_X10_next : GoodIn wsX10_takeNumber wsX10_next := goodIn_r _ [8, 3, 9, 10, 14, 15, 16, 17, 18, 19, 20, 21, 22, 23, 24, 25, 26, 27, 28, 29, 30, 31] (by decide +kernel) (by decide +kernel)
set_option maxRecDepth 20000 in
theorem gX10_takeNumber_X10_next : GoodIn wsX10_takeNumber (wsV RX10 152 RX10 yX10_next wsX10_next) := goodIn_app (goodIn_of _ (by decide +kernel)) ggX10_takeNumber_X10_next
set_option maxRecDepth 20000 in
theorem ggX10_takeNumber_X10_in : GoodIn wsX10_takeNumber wsX10_in := goodIn_r _ [13] (by decide +kernel) (by decide +kernel)
set_option maxRecDepth 20000 in
theorem gX10_takeNumber_X10_in : GoodIn wsX10_takeNumber (va_wsS RX10 98 yX10_in wsX10_in) := goodIn_app (goodIn_of _ (by decide +kernel)) ggX10_takeNumber_X10_in
theorem dX10_takeNumber_0 : decode cX10_takeNumber 0 = .ok (.aload_n 0, 1) := by decide +kernel
theorem dX10_takeNumber_1 : decode cX10_takeNumber 1 = .ok (.aload_n 0, 1) := by decide +kernel
theorem dX10_takeNumber_2 : decode cX10_takeNumber 2 = .ok (.getfield 148, 3) := by decide +kernel
theorem dX10_takeNumber_5 : decode cX10_takeNumber 5 = .ok (.ifCond .ne 17, 3) := by decide +kernel
theorem dX10_takeNumber_8 : decode cX10_takeNumber 8 = .ok (.aload_n 0, 1) := by decide +kernel
theorem dX10_takeNumber_9 : decode cX10_takeNumber 9 = .ok (.invokevirtual 152, 3) := by decide +kernel
theorem dX10_takeNumber_12 : decode cX10_takeNumber 12 = .ok (.bipush 48, 2) := by decide +kernel
theorem dX10_takeNumber_14 : decode cX10_takeNumber 14 = .ok (.bipush 57, 2) := by decide +kernel
theorem dX10_takeNumber_16 : decode cX10_takeNumber 16 = .ok (.invokestatic 98, 3) := by decide +kernel
theorem dX10_takeNumber_19 : decode cX10_takeNumber 19 = .ok (.ifCond .ne 7, 3) := by decide +kernel
theorem dX10_takeNumber_22 : decode cX10_takeNumber 22 = .ok (.iconst 1, 1) := by decide +kernel
theorem dX10_takeNumber_23 : decode cX10_takeNumber 23 = .ok (.goto 4, 3) := by decide +kernel
theorem dX10_takeNumber_26 : decode cX10_takeNumber 26 = .ok (.iconst 0, 1) := by decide +kernel
theorem dX10_takeNumber_27 : decode cX10_takeNumber 27 = .ok (.putfield 148, 3) := by decide +kernel
theorem dX10_takeNumber_30 : decode cX10_takeNumber 30 = .ok (.aload_n 0, 1) := by decide +kernel
theorem dX10_takeNumber_31 : decode cX10_takeNumber 31 = .ok (.getfield 148, 3) := by decide +kernel
theorem dX10_takeNumber_34 : decode cX10_takeNumber 34 = .ok (.ifCond .eq 4, 3) := by decide +kernel
theorem dX10_takeNumber_37 : decode cX10_takeNumber 37 = .ok (.return_, 1) := by decide +kernel
theorem dX10_takeNumber_38 : decode cX10_takeNumber 38 = .ok (.aload_n 0, 1) := by decide +kernel
theorem dX10_takeNumber_39 : decode cX10_takeNumber 39 = .ok (.aload_n 0, 1) := by decide +kernel
theorem dX10_takeNumber_40 : decode cX10_takeNumber 40 = .ok (.invokevirtual 152, 3) := by decide +kernel
theorem dX10_takeNumber_43 : decode cX10_takeNumber 43 = .ok (.bipush 48, 2) := by decide +kernel
theorem dX10_takeNumber_45 : decode cX10_takeNumber 45 = .ok (.isub, 1) := by decide +kernel
theorem dX10_takeNumber_46 : decode cX10_takeNumber 46 = .ok (.putfield 155, 3) := by decide +kernel
theorem dX10_takeNumber_49 : decode cX10_takeNumber 49 = .ok (.aload_n 0, 1) := by decide +kernel
theorem dX10_takeNumber_50 : decode cX10_takeNumber 50 = .ok (.dup, 1) := by decide +kernel
theorem dX10_takeNumber_51 : decode cX10_takeNumber 51 = .ok (.getfield 145, 3) := by decide +kernel
theorem dX10_takeNumber_54 : decode cX10_takeNumber 54 = .ok (.iconst 1, 1) := by decide +kernel
theorem dX10_takeNumber_55 : decode cX10_takeNumber 55 = .ok (.iadd, 1) := by decide +kernel
theorem dX10_takeNumber_56 : decode cX10_takeNumber 56 = .ok (.putfield 145, 3) := by decide +kernel
theorem dX10_takeNumber_59 : decode cX10_takeNumber 59 = .ok (.aload_n 0, 1) := by decide +kernel
theorem dX10_takeNumber_60 : decode cX10_takeNumber 60 = .ok (.getfield 148, 3) := by decide +kernel
theorem dX10_takeNumber_63 : decode cX10_takeNumber 63 = .ok (.ifCond .ne 109, 3) := by decide +kernel
theorem dX10_takeNumber_66 : decode cX10_takeNumber 66 = .ok (.aload_n 0, 1) := by decide +kernel
theorem dX10_takeNumber_67 : decode cX10_takeNumber 67 = .ok (.getfield 155, 3) := by decide +kernel
theorem dX10_takeNumber_70 : decode cX10_takeNumber 70 = .ok (.ifCond .le 102, 3) := by decide +kernel
theorem dX10_takeNumber_73 : decode cX10_takeNumber 73 = .ok (.aload_n 0, 1) := by decide +kernel
theorem dX10_takeNumber_74 : decode cX10_takeNumber 74 = .ok (.invokevirtual 152, 3) := by decide +kernel
theorem dX10_takeNumber_77 : decode cX10_takeNumber 77 = .ok (.bipush 48, 2) := by decide +kernel
theorem dX10_takeNumber_79 : decode cX10_takeNumber 79 = .ok (.bipush 57, 2) := by decide +kernel
theorem dX10_takeNumber_81 : decode cX10_takeNumber 81 = .ok (.invokestatic 98, 3) := by decide +kernel
theorem dX10_takeNumber_84 : decode cX10_takeNumber 84 = .ok (.ifCond .eq 88, 3) := by decide +kernel
theorem dX10_takeNumber_87 : decode cX10_takeNumber 87 = .ok (.aload_n 0, 1) := by decide +kernel
theorem dX10_takeNumber_88 : decode cX10_takeNumber 88 = .ok (.bipush 10, 2) := by decide +kernel
theorem dX10_takeNumber_90 : decode cX10_takeNumber 90 = .ok (.aload_n 0, 1) := by decide +kernel
theorem dX10_takeNumber_91 : decode cX10_takeNumber 91 = .ok (.getfield 155, 3) := by decide +kernel
theorem dX10_takeNumber_94 : decode cX10_takeNumber 94 = .ok (.imul, 1) := by decide +kernel
theorem dX10_takeNumber_95 : decode cX10_takeNumber 95 = .ok (.aload_n 0, 1) := by decide +kernel
theorem dX10_takeNumber_96 : decode cX10_takeNumber 96 = .ok (.invokevirtual 152, 3) := by decide +kernel
theorem dX10_takeNumber_99 : decode cX10_takeNumber 99 = .ok (.iadd, 1) := by decide +kernel
theorem dX10_takeNumber_100 : decode cX10_takeNumber 100 = .ok (.bipush 48, 2) := by decide +kernel
theorem dX10_takeNumber_102 : decode cX10_takeNumber 102 = .ok (.isub, 1) := by decide +kernel
theorem dX10_takeNumber_103 : decode cX10_takeNumber 103 = .ok (.iload_n 2, 1) := by decide +kernel
theorem dX10_takeNumber_104 : decode cX10_takeNumber 104 = .ok (.if_icmp .le 7, 3) := by decide +kernel
theorem dX10_takeNumber_107 : decode cX10_takeNumber 107 = .ok (.iconst 1, 1) := by decide +kernel
theorem dX10_takeNumber_108 : decode cX10_takeNumber 108 = .ok (.goto 4, 3) := by decide +kernel
theorem dX10_takeNumber_111 : decode cX10_takeNumber 111 = .ok (.iconst 0, 1) := by decide +kernel
theorem dX10_takeNumber_112 : decode cX10_takeNumber 112 = .ok (.putfield 148, 3) := by decide +kernel
theorem dX10_takeNumber_115 : decode cX10_takeNumber 115 = .ok (.aload_n 0, 1) := by decide +kernel
theorem dX10_takeNumber_116 : decode cX10_takeNumber 116 = .ok (.aload_n 0, 1) := by decide +kernel
theorem dX10_takeNumber_117 : decode cX10_takeNumber 117 = .ok (.getfield 148, 3) := by decide +kernel
theorem dX10_takeNumber_120 : decode cX10_takeNumber 120 = .ok (.ifCond .eq 10, 3) := by decide +kernel
theorem dX10_takeNumber_123 : decode cX10_takeNumber 123 = .ok (.aload_n 0, 1) := by decide +kernel
theorem dX10_takeNumber_124 : decode cX10_takeNumber 124 = .ok (.getfield 155, 3) := by decide +kernel
theorem dX10_takeNumber_127 : decode cX10_takeNumber 127 = .ok (.goto 18, 3) := by decide +kernel
theorem dX10_takeNumber_130 : decode cX10_takeNumber 130 = .ok (.bipush 10, 2) := by decide +kernel
theorem dX10_takeNumber_132 : decode cX10_takeNumber 132 = .ok (.aload_n 0, 1) := by decide +kernel
theorem dX10_takeNumber_133 : decode cX10_takeNumber 133 = .ok (.getfield 155, 3) := by decide +kernel
theorem dX10_takeNumber_136 : decode cX10_takeNumber 136 = .ok (.imul, 1) := by decide +kernel
theorem dX10_takeNumber_137 : decode cX10_takeNumber 137 = .ok (.aload_n 0, 1) := by decide +kernel
theorem dX10_takeNumber_138 : decode cX10_takeNumber 138 = .ok (.invokevirtual 152, 3) := by decide +kernel
theorem dX10_takeNumber_141 : decode cX10_takeNumber 141 = .ok (.iadd, 1) := by decide +kernel
theorem dX10_takeNumber_142 : decode cX10_takeNumber 142 = .ok (.bipush 48, 2) := by decide +kernel
theorem dX10_takeNumber_144 : decode cX10_takeNumber 144 = .ok (.isub, 1) := by decide +kernel
theorem dX10_takeNumber_145 : decode cX10_takeNumber 145 = .ok (.putfield 155, 3) := by decide +kernel
theorem dX10_takeNumber_148 : decode cX10_takeNumber 148 = .ok (.aload_n 0, 1) := by decide +kernel
theorem dX10_takeNumber_149 : decode cX10_takeNumber 149 = .ok (.dup, 1) := by decide +kernel
theorem dX10_takeNumber_150 : decode cX10_takeNumber 150 = .ok (.getfield 145, 3) := by decide +kernel
theorem dX10_takeNumber_153 : decode cX10_takeNumber 153 = .ok (.aload_n 0, 1) := by decide +kernel
theorem dX10_takeNumber_154 : decode cX10_takeNumber 154 = .ok (.getfield 148, 3) := by decide +kernel
theorem dX10_takeNumber_157 : decode cX10_takeNumber 157 = .ok (.ifCond .eq 7, 3) := by decide +kernel
theorem dX10_takeNumber_160 : decode cX10_takeNumber 160 = .ok (.iconst 0, 1) := by decide +kernel
theorem dX10_takeNumber_161 : decode cX10_takeNumber 161 = .ok (.goto 4, 3) := by decide +kernel
theorem dX10_takeNumber_164 : decode cX10_takeNumber 164 = .ok (.iconst 1, 1) := by decide +kernel
theorem dX10_takeNumber_165 : decode cX10_takeNumber 165 = .ok (.iadd, 1) := by decide +kernel
theorem dX10_takeNumber_166 : decode cX10_takeNumber 166 = .ok (.putfield 145, 3) := by decide +kernel
theorem dX10_takeNumber_169 : decode cX10_takeNumber 169 = .ok (.goto (-110), 3) := by decide +kernel
theorem dX10_takeNumber_172 : decode cX10_takeNumber 172 = .ok (.aload_n 0, 1) := by decide +kernel
theorem dX10_takeNumber_173 : decode cX10_takeNumber 173 = .ok (.aload_n 0, 1) := by decide +kernel
theorem dX10_takeNumber_174 : decode cX10_takeNumber 174 = .ok (.getfield 148, 3) := by decide +kernel
theorem dX10_takeNumber_177 : decode cX10_takeNumber 177 = .ok (.ifCond .ne 11, 3) := by decide +kernel
theorem dX10_takeNumber_180 : decode cX10_takeNumber 180 = .ok (.aload_n 0, 1) := by decide +kernel
theorem dX10_takeNumber_181 : decode cX10_takeNumber 181 = .ok (.getfield 155, 3) := by decide +kernel
theorem dX10_takeNumber_184 : decode cX10_takeNumber 184 = .ok (.iload_n 1, 1) := by decide +kernel
theorem dX10_takeNumber_185 : decode cX10_takeNumber 185 = .ok (.if_icmp .ge 7, 3) := by decide +kernel
theorem dX10_takeNumber_188 : decode cX10_takeNumber 188 = .ok (.iconst 1, 1) := by decide +kernel
theorem dX10_takeNumber_189 : decode cX10_takeNumber 189 = .ok (.goto 4, 3) := by decide +kernel
theorem dX10_takeNumber_192 : decode cX10_takeNumber 192 = .ok (.iconst 0, 1) := by decide +kernel
theorem dX10_takeNumber_193 : decode cX10_takeNumber 193 = .ok (.putfield 148, 3) := by decide +kernel
theorem dX10_takeNumber_196 : decode cX10_takeNumber 196 = .ok (.return_, 1) := by decide +kernel
theorem dX10_enterBeat_0 : decode cX10_enterBeat 0 = .ok (.aload_n 0, 1) := by decide +kernel
theorem dX10_enterBeat_1 : decode cX10_enterBeat 1 = .ok (.getfield 158, 3) := by decide +kernel
theorem dX10_enterBeat_4 : decode cX10_enterBeat 4 = .ok (.bipush 65, 2) := by decide +kernel
theorem dX10_enterBeat_6 : decode cX10_enterBeat 6 = .ok (.if_icmp .ge 31, 3) := by decide +kernel
theorem dX10_enterBeat_9 : decode cX10_enterBeat 9 = .ok (.aload_n 0, 1) := by decide +kernel
theorem dX10_enterBeat_10 : decode cX10_enterBeat 10 = .ok (.getfield 33, 3) := by decide +kernel
theorem dX10_enterBeat_13 : decode cX10_enterBeat 13 = .ok (.aload_n 0, 1) := by decide +kernel
theorem dX10_enterBeat_14 : decode cX10_enterBeat 14 = .ok (.getfield 158, 3) := by decide +kernel
theorem dX10_enterBeat_17 : decode cX10_enterBeat 17 = .ok (.iload_n 1, 1) := by decide +kernel
theorem dX10_enterBeat_18 : decode cX10_enterBeat 18 = .ok (.aload_n 0, 1) := by decide +kernel
theorem dX10_enterBeat_19 : decode cX10_enterBeat 19 = .ok (.getfield 161, 3) := by decide +kernel
theorem dX10_enterBeat_22 : decode cX10_enterBeat 22 = .ok (.iadd, 1) := by decide +kernel
theorem dX10_enterBeat_23 : decode cX10_enterBeat 23 = .ok (.iastore, 1) := by decide +kernel
theorem dX10_enterBeat_24 : decode cX10_enterBeat 24 = .ok (.aload_n 0, 1) := by decide +kernel
theorem dX10_enterBeat_25 : decode cX10_enterBeat 25 = .ok (.getfield 36, 3) := by decide +kernel
theorem dX10_enterBeat_28 : decode cX10_enterBeat 28 = .ok (.aload_n 0, 1) := by decide +kernel
theorem dX10_enterBeat_29 : decode cX10_enterBeat 29 = .ok (.getfield 158, 3) := by decide +kernel
theorem dX10_enterBeat_32 : decode cX10_enterBeat 32 = .ok (.aload_n 0, 1) := by decide +kernel
theorem dX10_enterBeat_33 : decode cX10_enterBeat 33 = .ok (.getfield 164, 3) := by decide +kernel
theorem dX10_enterBeat_36 : decode cX10_enterBeat 36 = .ok (.iastore, 1) := by decide +kernel
theorem dX10_enterBeat_37 : decode cX10_enterBeat 37 = .ok (.aload_n 0, 1) := by decide +kernel
theorem dX10_enterBeat_38 : decode cX10_enterBeat 38 = .ok (.dup, 1) := by decide +kernel
theorem dX10_enterBeat_39 : decode cX10_enterBeat 39 = .ok (.getfield 158, 3) := by decide +kernel
theorem dX10_enterBeat_42 : decode cX10_enterBeat 42 = .ok (.iconst 1, 1) := by decide +kernel
theorem dX10_enterBeat_43 : decode cX10_enterBeat 43 = .ok (.iadd, 1) := by decide +kernel
theorem dX10_enterBeat_44 : decode cX10_enterBeat 44 = .ok (.putfield 158, 3) := by decide +kernel
theorem dX10_enterBeat_47 : decode cX10_enterBeat 47 = .ok (.aload_n 0, 1) := by decide +kernel
theorem dX10_enterBeat_48 : decode cX10_enterBeat 48 = .ok (.iconst 0, 1) := by decide +kernel
theorem dX10_enterBeat_49 : decode cX10_enterBeat 49 = .ok (.putfield 161, 3) := by decide +kernel
theorem dX10_enterBeat_52 : decode cX10_enterBeat 52 = .ok (.aload_n 0, 1) := by decide +kernel
theorem dX10_enterBeat_53 : decode cX10_enterBeat 53 = .ok (.iconst 0, 1) := by decide +kernel
theorem dX10_enterBeat_54 : decode cX10_enterBeat 54 = .ok (.putfield 164, 3) := by decide +kernel
theorem dX10_enterBeat_57 : decode cX10_enterBeat 57 = .ok (.return_, 1) := by decide +kernel
set_option maxRecDepth 20000 in
theorem ggX10_takeBeats_X10_takeNumber : GoodIn wsX10_takeBeats wsX10_takeNumber := goodIn_r _ [8, 2, 1, 3, 9, 10, 11, 7, 12, 13, 14, 15, 16, 17, 27, 28, 29, 30, 31, 32, 33, 34, 35, 36, 37, 38, 39, 40, 41, 42, 43, 44] (by decide +kernel) (by decide +kernel)
set_option maxRecDepth 20000 in
theorem gX10_takeBeats_X10_takeNumber : GoodIn wsX10_takeBeats (wsV RX10 167 RX10 yX10_takeNumber wsX10_takeNumber) := goodIn_app (goodIn_of _ (by decide +kernel)) ggX10_takeBeats_X10_takeNumber
set_option maxRecDepth 20000 in
theorem ggX10_takeBeats_X10_enterBeat : GoodIn wsX10_takeBeats wsX10_enterBeat := goodIn_r _ [21, 22, 23, 24, 25, 26, 27, 28, 29, 30, 31, 32, 33, 34, 35, 36, 37, 38, 39, 40, 41, 42, 43, 44] (by decide +kernel) (by decide +kernel)
set_option maxRecDepth 20000 in
theorem gX10_takeBeats_X10_enterBeat : GoodIn wsX10_takeBeats (wsV RX10 170 RX10 yX10_enterBeat wsX10_enterBeat) := goodIn_app (goodIn_of _ (by decide +kernel)) ggX10_takeBeats_X10_enterBeat
set_option maxRecDepth 20000 in
theorem ggX10_takeBeats_X10_next : GoodIn wsX10_takeBeats wsX10_next := goodIn_r _ [12, 3, 13, 14, 27, 28, 29, 30, 31, 32, 33, 34, 35, 36, 37, 38, 39, 40, 41, 42, 43, 44] (by decide +kernel) (by decide +kernel)
set_option maxRecDepth 20000 in
theorem gX10_takeBeats_X10_next : GoodIn wsX10_takeBeats (wsV RX10 152 RX10 yX10_next wsX10_next) := goodIn_app (goodIn_of _ (by decide +kernel)) ggX10_takeBeats_X10_next
theorem dX10_takeBeats_0 : decode cX10_takeBeats 0 = .ok (.aload_n 0, 1) := by decide +kernel
theorem dX10_takeBeats_1 : decode cX10_takeBeats 1 = .ok (.iconst 1, 1) := by decide +kernel
theorem dX10_takeBeats_2 : decode cX10_takeBeats 2 = .ok (.sipush 999, 3) := by decide +kernel
theorem dX10_takeBeats_5 : decode cX10_takeBeats 5 = .ok (.invokevirtual 167, 3) := by decide +kernel
theorem dX10_takeBeats_8 : decode cX10_takeBeats 8 = .ok (.aload_n 0, 1) := by decide +kernel
theorem dX10_takeBeats_9 : decode cX10_takeBeats 9 = .ok (.aload_n 0, 1) := by decide +kernel
theorem dX10_takeBeats_10 : decode cX10_takeBeats 10 = .ok (.getfield 155, 3) := by decide +kernel
theorem dX10_takeBeats_13 : decode cX10_takeBeats 13 = .ok (.invokevirtual 170, 3) := by decide +kernel
theorem dX10_takeBeats_16 : decode cX10_takeBeats 16 = .ok (.aload_n 0, 1) := by decide +kernel
theorem dX10_takeBeats_17 : decode cX10_takeBeats 17 = .ok (.getfield 148, 3) := by decide +kernel
theorem dX10_takeBeats_20 : decode cX10_takeBeats 20 = .ok (.ifCond .ne 41, 3) := by decide +kernel
theorem dX10_takeBeats_23 : decode cX10_takeBeats 23 = .ok (.aload_n 0, 1) := by decide +kernel
theorem dX10_takeBeats_24 : decode cX10_takeBeats 24 = .ok (.invokevirtual 152, 3) := by decide +kernel
theorem dX10_takeBeats_27 : decode cX10_takeBeats 27 = .ok (.bipush 44, 2) := by decide +kernel
theorem dX10_takeBeats_29 : decode cX10_takeBeats 29 = .ok (.if_icmp .ne 32, 3) := by decide +kernel
theorem dX10_takeBeats_32 : decode cX10_takeBeats 32 = .ok (.aload_n 0, 1) := by decide +kernel
theorem dX10_takeBeats_33 : decode cX10_takeBeats 33 = .ok (.dup, 1) := by decide +kernel
theorem dX10_takeBeats_34 : decode cX10_takeBeats 34 = .ok (.getfield 145, 3) := by decide +kernel
theorem dX10_takeBeats_37 : decode cX10_takeBeats 37 = .ok (.iconst 1, 1) := by decide +kernel
theorem dX10_takeBeats_38 : decode cX10_takeBeats 38 = .ok (.iadd, 1) := by decide +kernel
theorem dX10_takeBeats_39 : decode cX10_takeBeats 39 = .ok (.putfield 145, 3) := by decide +kernel
theorem dX10_takeBeats_42 : decode cX10_takeBeats 42 = .ok (.aload_n 0, 1) := by decide +kernel
theorem dX10_takeBeats_43 : decode cX10_takeBeats 43 = .ok (.iconst 1, 1) := by decide +kernel
theorem dX10_takeBeats_44 : decode cX10_takeBeats 44 = .ok (.sipush 999, 3) := by decide +kernel
theorem dX10_takeBeats_47 : decode cX10_takeBeats 47 = .ok (.invokevirtual 167, 3) := by decide +kernel
theorem dX10_takeBeats_50 : decode cX10_takeBeats 50 = .ok (.aload_n 0, 1) := by decide +kernel
theorem dX10_takeBeats_51 : decode cX10_takeBeats 51 = .ok (.aload_n 0, 1) := by decide +kernel
theorem dX10_takeBeats_52 : decode cX10_takeBeats 52 = .ok (.getfield 155, 3) := by decide +kernel
theorem dX10_takeBeats_55 : decode cX10_takeBeats 55 = .ok (.invokevirtual 170, 3) := by decide +kernel
theorem dX10_takeBeats_58 : decode cX10_takeBeats 58 = .ok (.goto (-42), 3) := by decide +kernel
theorem dX10_takeBeats_61 : decode cX10_takeBeats 61 = .ok (.return_, 1) := by decide +kernel
set_option maxRecDepth 20000 in
theorem ggX10_takeRow_X10_takeNumber : GoodIn wsX10_takeRow wsX10_takeNumber := goodIn_r _ [7, 2, 1, 8, 9, 10, 11, 6, 12, 13, 14, 15, 16, 17, 31, 32, 33, 34, 35, 36, 37, 38, 39, 40, 41, 42, 43, 44, 45, 46, 47, 48] (by decide +kernel) (by decide +kernel)
set_option maxRecDepth 20000 in
theorem gX10_takeRow_X10_takeNumber : GoodIn wsX10_takeRow (wsV RX10 167 RX10 yX10_takeNumber wsX10_takeNumber) := goodIn_app (goodIn_of _ (by decide +kernel)) ggX10_takeRow_X10_takeNumber
set_option maxRecDepth 20000 in
theorem ggX10_takeRow_X10_takeSign : GoodIn wsX10_takeRow wsX10_takeSign := goodIn_r _ [21, 2, 8, 9, 10, 11, 6, 12, 13, 14, 31, 32, 33, 34, 35, 36, 37, 38, 39, 40, 41, 42, 43, 44, 45, 46, 47, 48] (by decide +kernel) (by decide +kernel)
set_option maxRecDepth 20000 in
theorem gX10_takeRow_X10_takeSign : GoodIn wsX10_takeRow (wsV RX10 173 RX10 yX10_takeSign wsX10_takeSign) := goodIn_app (goodIn_of _ (by decide +kernel)) ggX10_takeRow_X10_takeSign
set_option maxRecDepth 20000 in
theorem ggX10_takeRow_X10_enterBeat : GoodIn wsX10_takeRow wsX10_enterBeat := goodIn_r _ [25, 26, 27, 28, 29, 30, 31, 32, 33, 34, 35, 36, 37, 38, 39, 40, 41, 42, 43, 44, 45, 46, 47, 48] (by decide +kernel) (by decide +kernel)
set_option maxRecDepth 20000 in
theorem gX10_takeRow_X10_enterBeat : GoodIn wsX10_takeRow (wsV RX10 170 RX10 yX10_enterBeat wsX10_enterBeat) := goodIn_app (goodIn_of _ (by decide +kernel)) ggX10_takeRow_X10_enterBeat
theorem dX10_takeRow_0 : decode cX10_takeRow 0 = .ok (.aload_n 0, 1) := by decide +kernel
theorem dX10_takeRow_1 : decode cX10_takeRow 1 = .ok (.iconst 1, 1) := by decide +kernel
theorem dX10_takeRow_2 : decode cX10_takeRow 2 = .ok (.sipush 999, 3) := by decide +kernel
theorem dX10_takeRow_5 : decode cX10_takeRow 5 = .ok (.invokevirtual 167, 3) := by decide +kernel
theorem dX10_takeRow_8 : decode cX10_takeRow 8 = .ok (.aload_n 0, 1) := by decide +kernel
theorem dX10_takeRow_9 : decode cX10_takeRow 9 = .ok (.getfield 155, 3) := by decide +kernel
theorem dX10_takeRow_12 : decode cX10_takeRow 12 = .ok (.istore_n 1, 1) := by decide +kernel
theorem dX10_takeRow_13 : decode cX10_takeRow 13 = .ok (.aload_n 0, 1) := by decide +kernel
theorem dX10_takeRow_14 : decode cX10_takeRow 14 = .ok (.bipush 42, 2) := by decide +kernel
theorem dX10_takeRow_16 : decode cX10_takeRow 16 = .ok (.invokevirtual 173, 3) := by decide +kernel
theorem dX10_takeRow_19 : decode cX10_takeRow 19 = .ok (.aload_n 0, 1) := by decide +kernel
theorem dX10_takeRow_20 : decode cX10_takeRow 20 = .ok (.iconst 2, 1) := by decide +kernel
theorem dX10_takeRow_21 : decode cX10_takeRow 21 = .ok (.bipush 40, 2) := by decide +kernel
theorem dX10_takeRow_23 : decode cX10_takeRow 23 = .ok (.invokevirtual 167, 3) := by decide +kernel
theorem dX10_takeRow_26 : decode cX10_takeRow 26 = .ok (.iconst 0, 1) := by decide +kernel
theorem dX10_takeRow_27 : decode cX10_takeRow 27 = .ok (.istore_n 2, 1) := by decide +kernel
theorem dX10_takeRow_28 : decode cX10_takeRow 28 = .ok (.iload_n 2, 1) := by decide +kernel
theorem dX10_takeRow_29 : decode cX10_takeRow 29 = .ok (.aload_n 0, 1) := by decide +kernel
theorem dX10_takeRow_30 : decode cX10_takeRow 30 = .ok (.getfield 155, 3) := by decide +kernel
theorem dX10_takeRow_33 : decode cX10_takeRow 33 = .ok (.if_icmp .ge 21, 3) := by decide +kernel
theorem dX10_takeRow_36 : decode cX10_takeRow 36 = .ok (.aload_n 0, 1) := by decide +kernel
theorem dX10_takeRow_37 : decode cX10_takeRow 37 = .ok (.getfield 148, 3) := by decide +kernel
theorem dX10_takeRow_40 : decode cX10_takeRow 40 = .ok (.ifCond .ne 14, 3) := by decide +kernel
theorem dX10_takeRow_43 : decode cX10_takeRow 43 = .ok (.aload_n 0, 1) := by decide +kernel
theorem dX10_takeRow_44 : decode cX10_takeRow 44 = .ok (.iload_n 1, 1) := by decide +kernel
theorem dX10_takeRow_45 : decode cX10_takeRow 45 = .ok (.invokevirtual 170, 3) := by decide +kernel
theorem dX10_takeRow_48 : decode cX10_takeRow 48 = .ok (.iinc 2 1, 3) := by decide +kernel
theorem dX10_takeRow_51 : decode cX10_takeRow 51 = .ok (.goto (-23), 3) := by decide +kernel
theorem dX10_takeRow_54 : decode cX10_takeRow 54 = .ok (.return_, 1) := by decide +kernel
set_option maxRecDepth 20000 in
theorem ggX10_takePart_X10_next : GoodIn wsX10_takePart wsX10_next := goodIn_r _ [10, 1, 11, 12, 39, 40, 41, 42, 43, 44, 45, 46, 47, 48, 49, 50, 51, 52, 53, 54, 55, 56] (by decide +kernel) (by decide +kernel)
set_option maxRecDepth 20000 in
theorem gX10_takePart_X10_next : GoodIn wsX10_takePart (wsV RX10 152 RX10 yX10_next wsX10_next) := goodIn_app (goodIn_of _ (by decide +kernel)) ggX10_takePart_X10_next
set_option maxRecDepth 20000 in
theorem ggX10_takePart_X10_takeBeats : GoodIn wsX10_takePart wsX10_takeBeats := goodIn_r _ [16, 3, 5, 1, 17, 18, 19, 9, 20, 6, 7, 8, 10, 11, 12, 21, 22, 23, 24, 25, 26, 27, 28, 29, 4, 30, 2, 39, 40, 41, 42, 43, 44, 45, 46, 47, 48, 49, 50, 51, 52, 53, 54, 55, 56] (by decide +kernel) (by decide +kernel)
set_option maxRecDepth 20000 in
theorem gX10_takePart_X10_takeBeats : GoodIn wsX10_takePart (wsV RX10 176 RX10 yX10_takeBeats wsX10_takeBeats) := goodIn_app (goodIn_of _ (by decide +kernel)) ggX10_takePart_X10_takeBeats
set_option maxRecDepth 20000 in
theorem ggX10_takePart_X10_takeRow : GoodIn wsX10_takePart wsX10_takeRow := goodIn_r _ [34, 3, 5, 17, 18, 19, 9, 20, 1, 6, 7, 8, 10, 11, 12, 21, 22, 23, 35, 36, 37, 38, 24, 25, 26, 27, 28, 29, 4, 30, 2, 39, 40, 41, 42, 43, 44, 45, 46, 47, 48, 49, 50, 51, 52, 53, 54, 55, 56] (by decide +kernel) (by decide +kernel)
set_option maxRecDepth 20000 in
theorem gX10_takePart_X10_takeRow : GoodIn wsX10_takePart (wsV RX10 179 RX10 yX10_takeRow wsX10_takeRow) := goodIn_app (goodIn_of _ (by decide +kernel)) ggX10_takePart_X10_takeRow
set_option maxRecDepth 20000 in
theorem ggX10_takePart_X10_takeNumber : GoodIn wsX10_takePart wsX10_takeNumber := goodIn_r _ [20, 5, 3, 1, 6, 7, 8, 9, 10, 11, 12, 21, 22, 23, 39, 40, 41, 42, 43, 44, 45, 46, 47, 48, 49, 50, 51, 52, 53, 54, 55, 56] (by decide +kernel) (by decide +kernel)
set_option maxRecDepth 20000 in
theorem gX10_takePart_X10_takeNumber : GoodIn wsX10_takePart (wsV RX10 167 RX10 yX10_takeNumber wsX10_takeNumber) := goodIn_app (goodIn_of _ (by decide +kernel)) ggX10_takePart_X10_takeNumber
theorem dX10_takePart_0 : decode cX10_takePart 0 = .ok (.aload_n 0, 1) := by decide +kernel
theorem dX10_takePart_1 : decode cX10_takePart 1 = .ok (.invokevirtual 152, 3) := by decide +kernel
theorem dX10_takePart_4 : decode cX10_takePart 4 = .ok (.istore_n 1, 1) := by decide +kernel
theorem dX10_takePart_5 : decode cX10_takePart 5 = .ok (.aload_n 0, 1) := by decide +kernel
theorem dX10_takePart_6 : decode cX10_takePart 6 = .ok (.dup, 1) := by decide +kernel
theorem dX10_takePart_7 : decode cX10_takePart 7 = .ok (.getfield 145, 3) := by decide +kernel
theorem dX10_takePart_10 : decode cX10_takePart 10 = .ok (.iconst 1, 1) := by decide +kernel
theorem dX10_takePart_11 : decode cX10_takePart 11 = .ok (.iadd, 1) := by decide +kernel
theorem dX10_takePart_12 : decode cX10_takePart 12 = .ok (.putfield 145, 3) := by decide +kernel
theorem dX10_takePart_15 : decode cX10_takePart 15 = .ok (.iload_n 1, 1) := by decide +kernel
theorem dX10_takePart_16 : decode cX10_takePart 16 = .ok (.lookupswitch 105 #[(98, 44), (101, 51), (108, 81), (109, 58)], 44) := by decide +kernel
theorem dX10_takePart_60 : decode cX10_takePart 60 = .ok (.aload_n 0, 1) := by decide +kernel
theorem dX10_takePart_61 : decode cX10_takePart 61 = .ok (.invokevirtual 176, 3) := by decide +kernel
theorem dX10_takePart_64 : decode cX10_takePart 64 = .ok (.goto 72, 3) := by decide +kernel
theorem dX10_takePart_67 : decode cX10_takePart 67 = .ok (.aload_n 0, 1) := by decide +kernel
theorem dX10_takePart_68 : decode cX10_takePart 68 = .ok (.invokevirtual 179, 3) := by decide +kernel
theorem dX10_takePart_71 : decode cX10_takePart 71 = .ok (.goto 65, 3) := by decide +kernel
theorem dX10_takePart_74 : decode cX10_takePart 74 = .ok (.aload_n 0, 1) := by decide +kernel
theorem dX10_takePart_75 : decode cX10_takePart 75 = .ok (.iconst 1, 1) := by decide +kernel
theorem dX10_takePart_76 : decode cX10_takePart 76 = .ok (.bipush 99, 2) := by decide +kernel
theorem dX10_takePart_78 : decode cX10_takePart 78 = .ok (.invokevirtual 167, 3) := by decide +kernel
theorem dX10_takePart_81 : decode cX10_takePart 81 = .ok (.aload_n 0, 1) := by decide +kernel
theorem dX10_takePart_82 : decode cX10_takePart 82 = .ok (.dup, 1) := by decide +kernel
theorem dX10_takePart_83 : decode cX10_takePart 83 = .ok (.getfield 164, 3) := by decide +kernel
theorem dX10_takePart_86 : decode cX10_takePart 86 = .ok (.aload_n 0, 1) := by decide +kernel
theorem dX10_takePart_87 : decode cX10_takePart 87 = .ok (.getfield 155, 3) := by decide +kernel
theorem dX10_takePart_90 : decode cX10_takePart 90 = .ok (.iadd, 1) := by decide +kernel
theorem dX10_takePart_91 : decode cX10_takePart 91 = .ok (.putfield 164, 3) := by decide +kernel
theorem dX10_takePart_94 : decode cX10_takePart 94 = .ok (.goto 42, 3) := by decide +kernel
theorem dX10_takePart_97 : decode cX10_takePart 97 = .ok (.aload_n 0, 1) := by decide +kernel
theorem dX10_takePart_98 : decode cX10_takePart 98 = .ok (.iconst 1, 1) := by decide +kernel
theorem dX10_takePart_99 : decode cX10_takePart 99 = .ok (.sipush 9999, 3) := by decide +kernel
theorem dX10_takePart_102 : decode cX10_takePart 102 = .ok (.invokevirtual 167, 3) := by decide +kernel
theorem dX10_takePart_105 : decode cX10_takePart 105 = .ok (.aload_n 0, 1) := by decide +kernel
theorem dX10_takePart_106 : decode cX10_takePart 106 = .ok (.dup, 1) := by decide +kernel
theorem dX10_takePart_107 : decode cX10_takePart 107 = .ok (.getfield 161, 3) := by decide +kernel
theorem dX10_takePart_110 : decode cX10_takePart 110 = .ok (.aload_n 0, 1) := by decide +kernel
theorem dX10_takePart_111 : decode cX10_takePart 111 = .ok (.getfield 155, 3) := by decide +kernel
theorem dX10_takePart_114 : decode cX10_takePart 114 = .ok (.iadd, 1) := by decide +kernel
theorem dX10_takePart_115 : decode cX10_takePart 115 = .ok (.putfield 161, 3) := by decide +kernel
theorem dX10_takePart_118 : decode cX10_takePart 118 = .ok (.goto 18, 3) := by decide +kernel
theorem dX10_takePart_121 : decode cX10_takePart 121 = .ok (.aload_n 0, 1) := by decide +kernel
theorem dX10_takePart_122 : decode cX10_takePart 122 = .ok (.dup, 1) := by decide +kernel
theorem dX10_takePart_123 : decode cX10_takePart 123 = .ok (.getfield 145, 3) := by decide +kernel
theorem dX10_takePart_126 : decode cX10_takePart 126 = .ok (.iconst 1, 1) := by decide +kernel
theorem dX10_takePart_127 : decode cX10_takePart 127 = .ok (.isub, 1) := by decide +kernel
theorem dX10_takePart_128 : decode cX10_takePart 128 = .ok (.putfield 145, 3) := by decide +kernel
theorem dX10_takePart_131 : decode cX10_takePart 131 = .ok (.aload_n 0, 1) := by decide +kernel
theorem dX10_takePart_132 : decode cX10_takePart 132 = .ok (.iconst 1, 1) := by decide +kernel
theorem dX10_takePart_133 : decode cX10_takePart 133 = .ok (.putfield 148, 3) := by decide +kernel
theorem dX10_takePart_136 : decode cX10_takePart 136 = .ok (.return_, 1) := by decide +kernel
set_option maxRecDepth 20000 in
theorem ggX10_fault_X10_takePart : GoodIn wsX10_fault wsX10_takePart := goodIn_r _ [11, 1, 5, 12, 4, 2, 13, 14, 15, 10, 16, 6, 17, 18, 19, 20, 21, 22, 23, 24, 25, 26, 27, 28, 29, 30, 31, 32, 3, 33, 34, 35, 36, 37, 38, 39, 40, 41, 42, 43, 44, 45, 46, 47, 48, 49, 50, 51, 52, 53, 54, 55, 56, 57, 58, 59, 60] (by decide +kernel) (by decide +kernel)
set_option maxRecDepth 20000 in
theorem gX10_fault_X10_takePart : GoodIn wsX10_fault (wsV RX10 182 RX10 yX10_takePart wsX10_takePart) := goodIn_app (goodIn_of _ (by decide +kernel)) ggX10_fault_X10_takePart
set_option maxRecDepth 20000 in
theorem ggX10_fault_X10_takeSign : GoodIn wsX10_fault wsX10_takeSign := goodIn_r _ [42, 2, 1, 13, 14, 15, 10, 16, 6, 17, 43, 44, 45, 46, 47, 48, 49, 50, 51, 52, 53, 54, 55, 56, 57, 58, 59, 60] (by decide +kernel) (by decide +kernel)
set_option maxRecDepth 20000 in
theorem gX10_fault_X10_takeSign : GoodIn wsX10_fault (wsV RX10 173 RX10 yX10_takeSign wsX10_takeSign) := goodIn_app (goodIn_of _ (by decide +kernel)) ggX10_fault_X10_takeSign
theorem dX10_fault_0 : decode cX10_fault 0 = .ok (.aload_n 0, 1) := by decide +kernel
theorem dX10_fault_1 : decode cX10_fault 1 = .ok (.iconst 0, 1) := by decide +kernel
theorem dX10_fault_2 : decode cX10_fault 2 = .ok (.putfield 145, 3) := by decide +kernel
theorem dX10_fault_5 : decode cX10_fault 5 = .ok (.aload_n 0, 1) := by decide +kernel
theorem dX10_fault_6 : decode cX10_fault 6 = .ok (.iconst 0, 1) := by decide +kernel
theorem dX10_fault_7 : decode cX10_fault 7 = .ok (.putfield 148, 3) := by decide +kernel
theorem dX10_fault_10 : decode cX10_fault 10 = .ok (.aload_n 0, 1) := by decide +kernel
theorem dX10_fault_11 : decode cX10_fault 11 = .ok (.iconst 0, 1) := by decide +kernel
theorem dX10_fault_12 : decode cX10_fault 12 = .ok (.putfield 158, 3) := by decide +kernel
theorem dX10_fault_15 : decode cX10_fault 15 = .ok (.aload_n 0, 1) := by decide +kernel
theorem dX10_fault_16 : decode cX10_fault 16 = .ok (.iconst 0, 1) := by decide +kernel
theorem dX10_fault_17 : decode cX10_fault 17 = .ok (.putfield 161, 3) := by decide +kernel
theorem dX10_fault_20 : decode cX10_fault 20 = .ok (.aload_n 0, 1) := by decide +kernel
theorem dX10_fault_21 : decode cX10_fault 21 = .ok (.iconst 0, 1) := by decide +kernel
theorem dX10_fault_22 : decode cX10_fault 22 = .ok (.putfield 164, 3) := by decide +kernel
theorem dX10_fault_25 : decode cX10_fault 25 = .ok (.aload_n 0, 1) := by decide +kernel
theorem dX10_fault_26 : decode cX10_fault 26 = .ok (.invokevirtual 182, 3) := by decide +kernel
theorem dX10_fault_29 : decode cX10_fault 29 = .ok (.aload_n 0, 1) := by decide +kernel
theorem dX10_fault_30 : decode cX10_fault 30 = .ok (.getfield 148, 3) := by decide +kernel
theorem dX10_fault_33 : decode cX10_fault 33 = .ok (.ifCond .ne 34, 3) := by decide +kernel
theorem dX10_fault_36 : decode cX10_fault 36 = .ok (.aload_n 0, 1) := by decide +kernel
theorem dX10_fault_37 : decode cX10_fault 37 = .ok (.getfield 145, 3) := by decide +kernel
theorem dX10_fault_40 : decode cX10_fault 40 = .ok (.aload_n 0, 1) := by decide +kernel
theorem dX10_fault_41 : decode cX10_fault 41 = .ok (.getfield 128, 3) := by decide +kernel
theorem dX10_fault_44 : decode cX10_fault 44 = .ok (.if_icmp .ge 23, 3) := by decide +kernel
theorem dX10_fault_47 : decode cX10_fault 47 = .ok (.aload_n 0, 1) := by decide +kernel
theorem dX10_fault_48 : decode cX10_fault 48 = .ok (.bipush 59, 2) := by decide +kernel
theorem dX10_fault_50 : decode cX10_fault 50 = .ok (.invokevirtual 173, 3) := by decide +kernel
theorem dX10_fault_53 : decode cX10_fault 53 = .ok (.aload_n 0, 1) := by decide +kernel
theorem dX10_fault_54 : decode cX10_fault 54 = .ok (.getfield 148, 3) := by decide +kernel
theorem dX10_fault_57 : decode cX10_fault 57 = .ok (.ifCond .ne (-28), 3) := by decide +kernel
theorem dX10_fault_60 : decode cX10_fault 60 = .ok (.aload_n 0, 1) := by decide +kernel
theorem dX10_fault_61 : decode cX10_fault 61 = .ok (.invokevirtual 182, 3) := by decide +kernel
theorem dX10_fault_64 : decode cX10_fault 64 = .ok (.goto (-35), 3) := by decide +kernel
theorem dX10_fault_67 : decode cX10_fault 67 = .ok (.aload_n 0, 1) := by decide +kernel
theorem dX10_fault_68 : decode cX10_fault 68 = .ok (.getfield 148, 3) := by decide +kernel
theorem dX10_fault_71 : decode cX10_fault 71 = .ok (.ifCond .eq 10, 3) := by decide +kernel
theorem dX10_fault_74 : decode cX10_fault 74 = .ok (.aload_n 0, 1) := by decide +kernel
theorem dX10_fault_75 : decode cX10_fault 75 = .ok (.getfield 145, 3) := by decide +kernel
theorem dX10_fault_78 : decode cX10_fault 78 = .ok (.goto 5, 3) := by decide +kernel
theorem dX10_fault_81 : decode cX10_fault 81 = .ok (.bipush (-6), 2) := by decide +kernel
theorem dX10_fault_83 : decode cX10_fault 83 = .ok (.ireturn, 1) := by decide +kernel
set_option maxRecDepth 20000 in
theorem ggX10_whyNotPlan_X10_lastTime : GoodIn wsX10_whyNotPlan wsX10_lastTime := goodIn_r _ [10, 1, 11, 12, 13, 9, 14, 19, 20, 21, 22, 23, 24, 25, 26, 27, 28, 29, 30, 31, 32, 33, 34, 35, 36] (by decide +kernel) (by decide +kernel)
set_option maxRecDepth 20000 in
theorem gX10_whyNotPlan_X10_lastTime : GoodIn wsX10_whyNotPlan (wsV RX10 111 RX10 yX10_lastTime wsX10_lastTime) := goodIn_app (goodIn_of _ (by decide +kernel)) ggX10_whyNotPlan_X10_lastTime
set_option maxRecDepth 20000 in
theorem ggX10_whyNotPlan_X10_nextTrue : GoodIn wsX10_whyNotPlan wsX10_nextTrue := goodIn_r _ [18, 1, 11, 12, 13, 9, 14, 19, 20, 21, 22, 23, 24, 25, 26, 27, 28, 29, 30, 31, 32, 33, 34, 35, 36] (by decide +kernel) (by decide +kernel)
set_option maxRecDepth 20000 in
theorem gX10_whyNotPlan_X10_nextTrue : GoodIn wsX10_whyNotPlan (wsV RX10 114 RX10 yX10_nextTrue wsX10_nextTrue) := goodIn_app (goodIn_of _ (by decide +kernel)) ggX10_whyNotPlan_X10_nextTrue
theorem dX10_whyNotPlan_0 : decode cX10_whyNotPlan 0 = .ok (.aload_n 0, 1) := by decide +kernel
theorem dX10_whyNotPlan_1 : decode cX10_whyNotPlan 1 = .ok (.getfield 7, 3) := by decide +kernel
theorem dX10_whyNotPlan_4 : decode cX10_whyNotPlan 4 = .ok (.bipush 22, 2) := by decide +kernel
theorem dX10_whyNotPlan_6 : decode cX10_whyNotPlan 6 = .ok (.iaload, 1) := by decide +kernel
theorem dX10_whyNotPlan_7 : decode cX10_whyNotPlan 7 = .ok (.aload_n 0, 1) := by decide +kernel
theorem dX10_whyNotPlan_8 : decode cX10_whyNotPlan 8 = .ok (.getfield 158, 3) := by decide +kernel
theorem dX10_whyNotPlan_11 : decode cX10_whyNotPlan 11 = .ok (.iadd, 1) := by decide +kernel
theorem dX10_whyNotPlan_12 : decode cX10_whyNotPlan 12 = .ok (.bipush 64, 2) := by decide +kernel
theorem dX10_whyNotPlan_14 : decode cX10_whyNotPlan 14 = .ok (.if_icmp .le 6, 3) := by decide +kernel
theorem dX10_whyNotPlan_17 : decode cX10_whyNotPlan 17 = .ok (.bipush (-4), 2) := by decide +kernel
theorem dX10_whyNotPlan_19 : decode cX10_whyNotPlan 19 = .ok (.ireturn, 1) := by decide +kernel
theorem dX10_whyNotPlan_20 : decode cX10_whyNotPlan 20 = .ok (.aload_n 0, 1) := by decide +kernel
theorem dX10_whyNotPlan_21 : decode cX10_whyNotPlan 21 = .ok (.invokevirtual 111, 3) := by decide +kernel
theorem dX10_whyNotPlan_24 : decode cX10_whyNotPlan 24 = .ok (.istore_n 1, 1) := by decide +kernel
theorem dX10_whyNotPlan_25 : decode cX10_whyNotPlan 25 = .ok (.aload_n 0, 1) := by decide +kernel
theorem dX10_whyNotPlan_26 : decode cX10_whyNotPlan 26 = .ok (.invokevirtual 114, 3) := by decide +kernel
theorem dX10_whyNotPlan_29 : decode cX10_whyNotPlan 29 = .ok (.istore_n 2, 1) := by decide +kernel
theorem dX10_whyNotPlan_30 : decode cX10_whyNotPlan 30 = .ok (.iconst 0, 1) := by decide +kernel
theorem dX10_whyNotPlan_31 : decode cX10_whyNotPlan 31 = .ok (.istore_n 3, 1) := by decide +kernel
theorem dX10_whyNotPlan_32 : decode cX10_whyNotPlan 32 = .ok (.iconst 0, 1) := by decide +kernel
theorem dX10_whyNotPlan_33 : decode cX10_whyNotPlan 33 = .ok (.istore 4, 2) := by decide +kernel
theorem dX10_whyNotPlan_35 : decode cX10_whyNotPlan 35 = .ok (.iload 4, 2) := by decide +kernel
theorem dX10_whyNotPlan_37 : decode cX10_whyNotPlan 37 = .ok (.aload_n 0, 1) := by decide +kernel
theorem dX10_whyNotPlan_38 : decode cX10_whyNotPlan 38 = .ok (.getfield 158, 3) := by decide +kernel
theorem dX10_whyNotPlan_41 : decode cX10_whyNotPlan 41 = .ok (.if_icmp .ge 67, 3) := by decide +kernel
theorem dX10_whyNotPlan_44 : decode cX10_whyNotPlan 44 = .ok (.iload_n 1, 1) := by decide +kernel
theorem dX10_whyNotPlan_45 : decode cX10_whyNotPlan 45 = .ok (.aload_n 0, 1) := by decide +kernel
theorem dX10_whyNotPlan_46 : decode cX10_whyNotPlan 46 = .ok (.getfield 33, 3) := by decide +kernel
theorem dX10_whyNotPlan_49 : decode cX10_whyNotPlan 49 = .ok (.iload 4, 2) := by decide +kernel
theorem dX10_whyNotPlan_51 : decode cX10_whyNotPlan 51 = .ok (.iaload, 1) := by decide +kernel
theorem dX10_whyNotPlan_52 : decode cX10_whyNotPlan 52 = .ok (.iadd, 1) := by decide +kernel
theorem dX10_whyNotPlan_53 : decode cX10_whyNotPlan 53 = .ok (.istore_n 1, 1) := by decide +kernel
theorem dX10_whyNotPlan_54 : decode cX10_whyNotPlan 54 = .ok (.iload_n 2, 1) := by decide +kernel
theorem dX10_whyNotPlan_55 : decode cX10_whyNotPlan 55 = .ok (.aload_n 0, 1) := by decide +kernel
theorem dX10_whyNotPlan_56 : decode cX10_whyNotPlan 56 = .ok (.getfield 36, 3) := by decide +kernel
theorem dX10_whyNotPlan_59 : decode cX10_whyNotPlan 59 = .ok (.iload 4, 2) := by decide +kernel
theorem dX10_whyNotPlan_61 : decode cX10_whyNotPlan 61 = .ok (.iaload, 1) := by decide +kernel
theorem dX10_whyNotPlan_62 : decode cX10_whyNotPlan 62 = .ok (.iadd, 1) := by decide +kernel
theorem dX10_whyNotPlan_63 : decode cX10_whyNotPlan 63 = .ok (.istore_n 2, 1) := by decide +kernel
theorem dX10_whyNotPlan_64 : decode cX10_whyNotPlan 64 = .ok (.iload_n 3, 1) := by decide +kernel
theorem dX10_whyNotPlan_65 : decode cX10_whyNotPlan 65 = .ok (.iload_n 1, 1) := by decide +kernel
theorem dX10_whyNotPlan_66 : decode cX10_whyNotPlan 66 = .ok (.aload_n 0, 1) := by decide +kernel
theorem dX10_whyNotPlan_67 : decode cX10_whyNotPlan 67 = .ok (.getfield 7, 3) := by decide +kernel
theorem dX10_whyNotPlan_70 : decode cX10_whyNotPlan 70 = .ok (.bipush 8, 2) := by decide +kernel
theorem dX10_whyNotPlan_72 : decode cX10_whyNotPlan 72 = .ok (.iaload, 1) := by decide +kernel
theorem dX10_whyNotPlan_73 : decode cX10_whyNotPlan 73 = .ok (.if_icmp .gt 7, 3) := by decide +kernel
theorem dX10_whyNotPlan_76 : decode cX10_whyNotPlan 76 = .ok (.iconst 1, 1) := by decide +kernel
theorem dX10_whyNotPlan_77 : decode cX10_whyNotPlan 77 = .ok (.goto 4, 3) := by decide +kernel
theorem dX10_whyNotPlan_80 : decode cX10_whyNotPlan 80 = .ok (.iconst 0, 1) := by decide +kernel
theorem dX10_whyNotPlan_81 : decode cX10_whyNotPlan 81 = .ok (.ior, 1) := by decide +kernel
theorem dX10_whyNotPlan_82 : decode cX10_whyNotPlan 82 = .ok (.istore_n 3, 1) := by decide +kernel
theorem dX10_whyNotPlan_83 : decode cX10_whyNotPlan 83 = .ok (.iload_n 1, 1) := by decide +kernel
theorem dX10_whyNotPlan_84 : decode cX10_whyNotPlan 84 = .ok (.ldc 117, 2) := by decide +kernel
theorem dX10_whyNotPlan_86 : decode cX10_whyNotPlan 86 = .ok (.if_icmp .gt 10, 3) := by decide +kernel
theorem dX10_whyNotPlan_89 : decode cX10_whyNotPlan 89 = .ok (.iload_n 2, 1) := by decide +kernel
theorem dX10_whyNotPlan_90 : decode cX10_whyNotPlan 90 = .ok (.sipush 1000, 3) := by decide +kernel
theorem dX10_whyNotPlan_93 : decode cX10_whyNotPlan 93 = .ok (.if_icmp .le 6, 3) := by decide +kernel
theorem dX10_whyNotPlan_96 : decode cX10_whyNotPlan 96 = .ok (.bipush (-4), 2) := by decide +kernel
theorem dX10_whyNotPlan_98 : decode cX10_whyNotPlan 98 = .ok (.ireturn, 1) := by decide +kernel
theorem dX10_whyNotPlan_99 : decode cX10_whyNotPlan 99 = .ok (.iinc 2 1, 3) := by decide +kernel
theorem dX10_whyNotPlan_102 : decode cX10_whyNotPlan 102 = .ok (.iinc 4 1, 3) := by decide +kernel
theorem dX10_whyNotPlan_105 : decode cX10_whyNotPlan 105 = .ok (.goto (-70), 3) := by decide +kernel
theorem dX10_whyNotPlan_108 : decode cX10_whyNotPlan 108 = .ok (.iload_n 3, 1) := by decide +kernel
theorem dX10_whyNotPlan_109 : decode cX10_whyNotPlan 109 = .ok (.ifCond .eq 8, 3) := by decide +kernel
theorem dX10_whyNotPlan_112 : decode cX10_whyNotPlan 112 = .ok (.bipush (-5), 2) := by decide +kernel
theorem dX10_whyNotPlan_114 : decode cX10_whyNotPlan 114 = .ok (.goto 4, 3) := by decide +kernel
theorem dX10_whyNotPlan_117 : decode cX10_whyNotPlan 117 = .ok (.iconst 0, 1) := by decide +kernel
theorem dX10_whyNotPlan_118 : decode cX10_whyNotPlan 118 = .ok (.ireturn, 1) := by decide +kernel
set_option maxRecDepth 20000 in
theorem ggX10_plan_X10_fault : GoodIn wsX10_plan wsX10_fault := goodIn_r _ [10, 11, 12, 1, 13, 14, 4, 15, 16, 17, 9, 18, 19, 20, 21, 22, 23, 24, 25, 26, 27, 28, 29, 30, 31, 32, 33, 34, 35, 36, 37, 38, 39, 2, 3, 40, 41, 42, 43, 44, 45, 46, 47, 84, 85, 86, 87, 88, 89, 90, 91, 92, 93, 94, 95, 96, 97, 98, 99, 100, 101] (by decide +kernel) (by decide +kernel)
set_option maxRecDepth 20000 in
theorem gX10_plan_X10_fault : GoodIn wsX10_plan (wsV RX10 185 RX10 yX10_fault wsX10_fault) := goodIn_app (goodIn_of _ (by decide +kernel)) ggX10_plan_X10_fault
set_option maxRecDepth 20000 in
theorem ggX10_plan_X10_whyNotPlan : GoodIn wsX10_plan wsX10_whyNotPlan := goodIn_r _ [51, 5, 1, 2, 3, 52, 53, 54, 55, 9, 56, 57, 58, 59, 60, 61, 62, 63, 64, 84, 85, 86, 87, 88, 89, 90, 91, 92, 93, 94, 95, 96, 97, 98, 99, 100, 101] (by decide +kernel) (by decide +kernel)
set_option maxRecDepth 20000 in
theorem gX10_plan_X10_whyNotPlan : GoodIn wsX10_plan (wsV RX10 188 RX10 yX10_whyNotPlan wsX10_whyNotPlan) := goodIn_app (goodIn_of _ (by decide +kernel)) ggX10_plan_X10_whyNotPlan
set_option maxRecDepth 20000 in
theorem ggX10_plan_X10_keep : GoodIn wsX10_plan wsX10_keep := goodIn_r _ [68, 69, 70, 71, 5, 84, 85, 86, 87, 88, 89, 90, 91, 92, 93, 94, 95, 96, 97, 98, 99, 100, 101] (by decide +kernel) (by decide +kernel)
set_option maxRecDepth 20000 in
theorem gX10_plan_X10_keep : GoodIn wsX10_plan (wsV RX10 108 RX10 yX10_keep wsX10_keep) := goodIn_app (goodIn_of _ (by decide +kernel)) ggX10_plan_X10_keep
set_option maxRecDepth 20000 in
theorem ggX10_plan_X10_lastTime : GoodIn wsX10_plan wsX10_lastTime := goodIn_r _ [56, 5, 57, 58, 59, 9, 60, 84, 85, 86, 87, 88, 89, 90, 91, 92, 93, 94, 95, 96, 97, 98, 99, 100, 101] (by decide +kernel) (by decide +kernel)
set_option maxRecDepth 20000 in
theorem gX10_plan_X10_lastTime : GoodIn wsX10_plan (wsV RX10 111 RX10 yX10_lastTime wsX10_lastTime) := goodIn_app (goodIn_of _ (by decide +kernel)) ggX10_plan_X10_lastTime
set_option maxRecDepth 20000 in
theorem ggX10_plan_X10_nextTrue : GoodIn wsX10_plan wsX10_nextTrue := goodIn_r _ [64, 5, 57, 58, 59, 9, 60, 84, 85, 86, 87, 88, 89, 90, 91, 92, 93, 94, 95, 96, 97, 98, 99, 100, 101] (by decide +kernel) (by decide +kernel)
set_option maxRecDepth 20000 in
theorem gX10_plan_X10_nextTrue : GoodIn wsX10_plan (wsV RX10 114 RX10 yX10_nextTrue wsX10_nextTrue) := goodIn_app (goodIn_of _ (by decide +kernel)) ggX10_plan_X10_nextTrue
set_option maxRecDepth 20000 in
theorem ggX10_plan_X10_addBeat : GoodIn wsX10_plan wsX10_addBeat := goodIn_r _ [75, 5, 76, 77, 78, 9, 79, 80, 81, 82, 83, 84, 85, 86, 87, 88, 89, 90, 91, 92, 93, 94, 95, 96, 97, 98, 99, 100, 101] (by decide +kernel) (by decide +kernel)
set_option maxRecDepth 20000 in
theorem gX10_plan_X10_addBeat : GoodIn wsX10_plan (wsV RX10 118 RX10 yX10_addBeat wsX10_addBeat) := goodIn_app (goodIn_of _ (by decide +kernel)) ggX10_plan_X10_addBeat
theorem dX10_plan_0 : decode cX10_plan 0 = .ok (.aload_n 0, 1) := by decide +kernel
theorem dX10_plan_1 : decode cX10_plan 1 = .ok (.invokevirtual 185, 3) := by decide +kernel
theorem dX10_plan_4 : decode cX10_plan 4 = .ok (.ifCond .lt 6, 3) := by decide +kernel
theorem dX10_plan_7 : decode cX10_plan 7 = .ok (.bipush (-3), 2) := by decide +kernel
theorem dX10_plan_9 : decode cX10_plan 9 = .ok (.ireturn, 1) := by decide +kernel
theorem dX10_plan_10 : decode cX10_plan 10 = .ok (.aload_n 0, 1) := by decide +kernel
theorem dX10_plan_11 : decode cX10_plan 11 = .ok (.invokevirtual 188, 3) := by decide +kernel
theorem dX10_plan_14 : decode cX10_plan 14 = .ok (.istore_n 1, 1) := by decide +kernel
theorem dX10_plan_15 : decode cX10_plan 15 = .ok (.iload_n 1, 1) := by decide +kernel
theorem dX10_plan_16 : decode cX10_plan 16 = .ok (.ifCond .ge 5, 3) := by decide +kernel
theorem dX10_plan_19 : decode cX10_plan 19 = .ok (.iload_n 1, 1) := by decide +kernel
theorem dX10_plan_20 : decode cX10_plan 20 = .ok (.ireturn, 1) := by decide +kernel
theorem dX10_plan_21 : decode cX10_plan 21 = .ok (.aload_n 0, 1) := by decide +kernel
theorem dX10_plan_22 : decode cX10_plan 22 = .ok (.invokevirtual 108, 3) := by decide +kernel
theorem dX10_plan_25 : decode cX10_plan 25 = .ok (.iconst 0, 1) := by decide +kernel
theorem dX10_plan_26 : decode cX10_plan 26 = .ok (.istore_n 2, 1) := by decide +kernel
theorem dX10_plan_27 : decode cX10_plan 27 = .ok (.iload_n 2, 1) := by decide +kernel
theorem dX10_plan_28 : decode cX10_plan 28 = .ok (.aload_n 0, 1) := by decide +kernel
theorem dX10_plan_29 : decode cX10_plan 29 = .ok (.getfield 158, 3) := by decide +kernel
theorem dX10_plan_32 : decode cX10_plan 32 = .ok (.if_icmp .ge 35, 3) := by decide +kernel
theorem dX10_plan_35 : decode cX10_plan 35 = .ok (.aload_n 0, 1) := by decide +kernel
theorem dX10_plan_36 : decode cX10_plan 36 = .ok (.aload_n 0, 1) := by decide +kernel
theorem dX10_plan_37 : decode cX10_plan 37 = .ok (.invokevirtual 111, 3) := by decide +kernel
theorem dX10_plan_40 : decode cX10_plan 40 = .ok (.aload_n 0, 1) := by decide +kernel
theorem dX10_plan_41 : decode cX10_plan 41 = .ok (.getfield 33, 3) := by decide +kernel
theorem dX10_plan_44 : decode cX10_plan 44 = .ok (.iload_n 2, 1) := by decide +kernel
theorem dX10_plan_45 : decode cX10_plan 45 = .ok (.iaload, 1) := by decide +kernel
theorem dX10_plan_46 : decode cX10_plan 46 = .ok (.iadd, 1) := by decide +kernel
theorem dX10_plan_47 : decode cX10_plan 47 = .ok (.aload_n 0, 1) := by decide +kernel
theorem dX10_plan_48 : decode cX10_plan 48 = .ok (.invokevirtual 114, 3) := by decide +kernel
theorem dX10_plan_51 : decode cX10_plan 51 = .ok (.aload_n 0, 1) := by decide +kernel
theorem dX10_plan_52 : decode cX10_plan 52 = .ok (.getfield 36, 3) := by decide +kernel
theorem dX10_plan_55 : decode cX10_plan 55 = .ok (.iload_n 2, 1) := by decide +kernel
theorem dX10_plan_56 : decode cX10_plan 56 = .ok (.iaload, 1) := by decide +kernel
theorem dX10_plan_57 : decode cX10_plan 57 = .ok (.iadd, 1) := by decide +kernel
theorem dX10_plan_58 : decode cX10_plan 58 = .ok (.invokevirtual 118, 3) := by decide +kernel
theorem dX10_plan_61 : decode cX10_plan 61 = .ok (.iinc 2 1, 3) := by decide +kernel
theorem dX10_plan_64 : decode cX10_plan 64 = .ok (.goto (-37), 3) := by decide +kernel
theorem dX10_plan_67 : decode cX10_plan 67 = .ok (.aload_n 0, 1) := by decide +kernel
theorem dX10_plan_68 : decode cX10_plan 68 = .ok (.iconst 0, 1) := by decide +kernel
theorem dX10_plan_69 : decode cX10_plan 69 = .ok (.putfield 128, 3) := by decide +kernel
theorem dX10_plan_72 : decode cX10_plan 72 = .ok (.aload_n 0, 1) := by decide +kernel
theorem dX10_plan_73 : decode cX10_plan 73 = .ok (.getfield 7, 3) := by decide +kernel
theorem dX10_plan_76 : decode cX10_plan 76 = .ok (.bipush 22, 2) := by decide +kernel
theorem dX10_plan_78 : decode cX10_plan 78 = .ok (.iaload, 1) := by decide +kernel
theorem dX10_plan_79 : decode cX10_plan 79 = .ok (.ireturn, 1) := by decide +kernel
theorem dX10_undo_0 : decode cX10_undo 0 = .ok (.aload_n 0, 1) := by decide +kernel
theorem dX10_undo_1 : decode cX10_undo 1 = .ok (.getfield 39, 3) := by decide +kernel
theorem dX10_undo_4 : decode cX10_undo 4 = .ok (.ifCond .ne 6, 3) := by decide +kernel
theorem dX10_undo_7 : decode cX10_undo 7 = .ok (.bipush (-5), 2) := by decide +kernel
theorem dX10_undo_9 : decode cX10_undo 9 = .ok (.ireturn, 1) := by decide +kernel
theorem dX10_undo_10 : decode cX10_undo 10 = .ok (.aload_n 0, 1) := by decide +kernel
theorem dX10_undo_11 : decode cX10_undo 11 = .ok (.dup, 1) := by decide +kernel
theorem dX10_undo_12 : decode cX10_undo 12 = .ok (.getfield 39, 3) := by decide +kernel
theorem dX10_undo_15 : decode cX10_undo 15 = .ok (.iconst 1, 1) := by decide +kernel
theorem dX10_undo_16 : decode cX10_undo 16 = .ok (.isub, 1) := by decide +kernel
theorem dX10_undo_17 : decode cX10_undo 17 = .ok (.putfield 39, 3) := by decide +kernel
theorem dX10_undo_20 : decode cX10_undo 20 = .ok (.aload_n 0, 1) := by decide +kernel
theorem dX10_undo_21 : decode cX10_undo 21 = .ok (.getfield 42, 3) := by decide +kernel
theorem dX10_undo_24 : decode cX10_undo 24 = .ok (.aload_n 0, 1) := by decide +kernel
theorem dX10_undo_25 : decode cX10_undo 25 = .ok (.getfield 39, 3) := by decide +kernel
theorem dX10_undo_28 : decode cX10_undo 28 = .ok (.iadd, 1) := by decide +kernel
theorem dX10_undo_29 : decode cX10_undo 29 = .ok (.bipush 6, 2) := by decide +kernel
theorem dX10_undo_31 : decode cX10_undo 31 = .ok (.irem, 1) := by decide +kernel
theorem dX10_undo_32 : decode cX10_undo 32 = .ok (.istore_n 1, 1) := by decide +kernel
theorem dX10_undo_33 : decode cX10_undo 33 = .ok (.iconst 0, 1) := by decide +kernel
theorem dX10_undo_34 : decode cX10_undo 34 = .ok (.istore_n 2, 1) := by decide +kernel
theorem dX10_undo_35 : decode cX10_undo 35 = .ok (.iload_n 2, 1) := by decide +kernel
theorem dX10_undo_36 : decode cX10_undo 36 = .ok (.sipush 672, 3) := by decide +kernel
theorem dX10_undo_39 : decode cX10_undo 39 = .ok (.if_icmp .ge 27, 3) := by decide +kernel
theorem dX10_undo_42 : decode cX10_undo 42 = .ok (.aload_n 0, 1) := by decide +kernel
theorem dX10_undo_43 : decode cX10_undo 43 = .ok (.getfield 7, 3) := by decide +kernel
theorem dX10_undo_46 : decode cX10_undo 46 = .ok (.iload_n 2, 1) := by decide +kernel
theorem dX10_undo_47 : decode cX10_undo 47 = .ok (.aload_n 0, 1) := by decide +kernel
theorem dX10_undo_48 : decode cX10_undo 48 = .ok (.getfield 13, 3) := by decide +kernel
theorem dX10_undo_51 : decode cX10_undo 51 = .ok (.sipush 672, 3) := by decide +kernel
theorem dX10_undo_54 : decode cX10_undo 54 = .ok (.iload_n 1, 1) := by decide +kernel
theorem dX10_undo_55 : decode cX10_undo 55 = .ok (.imul, 1) := by decide +kernel
theorem dX10_undo_56 : decode cX10_undo 56 = .ok (.iload_n 2, 1) := by decide +kernel
theorem dX10_undo_57 : decode cX10_undo 57 = .ok (.iadd, 1) := by decide +kernel
theorem dX10_undo_58 : decode cX10_undo 58 = .ok (.iaload, 1) := by decide +kernel
theorem dX10_undo_59 : decode cX10_undo 59 = .ok (.iastore, 1) := by decide +kernel
theorem dX10_undo_60 : decode cX10_undo 60 = .ok (.iinc 2 1, 3) := by decide +kernel
theorem dX10_undo_63 : decode cX10_undo 63 = .ok (.goto (-28), 3) := by decide +kernel
theorem dX10_undo_66 : decode cX10_undo 66 = .ok (.aload_n 0, 1) := by decide +kernel
theorem dX10_undo_67 : decode cX10_undo 67 = .ok (.getfield 39, 3) := by decide +kernel
theorem dX10_undo_70 : decode cX10_undo 70 = .ok (.ireturn, 1) := by decide +kernel
set_option maxRecDepth 20000 in
theorem ggX10_save_X10_in : GoodIn wsX10_save wsX10_in := goodIn_r _ [7] (by decide +kernel) (by decide +kernel)
set_option maxRecDepth 20000 in
theorem gX10_save_X10_in : GoodIn wsX10_save (va_wsS RX10 98 yX10_in wsX10_in) := goodIn_app (goodIn_of _ (by decide +kernel)) ggX10_save_X10_in
theorem dX10_save_0 : decode cX10_save 0 = .ok (.iload_n 1, 1) := by decide +kernel
theorem dX10_save_1 : decode cX10_save 1 = .ok (.iconst 0, 1) := by decide +kernel
theorem dX10_save_2 : decode cX10_save 2 = .ok (.iconst 1, 1) := by decide +kernel
theorem dX10_save_3 : decode cX10_save 3 = .ok (.invokestatic 98, 3) := by decide +kernel
theorem dX10_save_6 : decode cX10_save 6 = .ok (.ifCond .ne 6, 3) := by decide +kernel
theorem dX10_save_9 : decode cX10_save 9 = .ok (.bipush (-2), 2) := by decide +kernel
theorem dX10_save_11 : decode cX10_save 11 = .ok (.ireturn, 1) := by decide +kernel
theorem dX10_save_12 : decode cX10_save 12 = .ok (.iconst 0, 1) := by decide +kernel
theorem dX10_save_13 : decode cX10_save 13 = .ok (.istore_n 2, 1) := by decide +kernel
theorem dX10_save_14 : decode cX10_save 14 = .ok (.iload_n 2, 1) := by decide +kernel
theorem dX10_save_15 : decode cX10_save 15 = .ok (.sipush 672, 3) := by decide +kernel
theorem dX10_save_18 : decode cX10_save 18 = .ok (.if_icmp .ge 27, 3) := by decide +kernel
theorem dX10_save_21 : decode cX10_save 21 = .ok (.aload_n 0, 1) := by decide +kernel
theorem dX10_save_22 : decode cX10_save 22 = .ok (.getfield 16, 3) := by decide +kernel
theorem dX10_save_25 : decode cX10_save 25 = .ok (.sipush 672, 3) := by decide +kernel
theorem dX10_save_28 : decode cX10_save 28 = .ok (.iload_n 1, 1) := by decide +kernel
theorem dX10_save_29 : decode cX10_save 29 = .ok (.imul, 1) := by decide +kernel
theorem dX10_save_30 : decode cX10_save 30 = .ok (.iload_n 2, 1) := by decide +kernel
theorem dX10_save_31 : decode cX10_save 31 = .ok (.iadd, 1) := by decide +kernel
theorem dX10_save_32 : decode cX10_save 32 = .ok (.aload_n 0, 1) := by decide +kernel
theorem dX10_save_33 : decode cX10_save 33 = .ok (.getfield 7, 3) := by decide +kernel
theorem dX10_save_36 : decode cX10_save 36 = .ok (.iload_n 2, 1) := by decide +kernel
theorem dX10_save_37 : decode cX10_save 37 = .ok (.iaload, 1) := by decide +kernel
theorem dX10_save_38 : decode cX10_save 38 = .ok (.iastore, 1) := by decide +kernel
theorem dX10_save_39 : decode cX10_save 39 = .ok (.iinc 2 1, 3) := by decide +kernel
theorem dX10_save_42 : decode cX10_save 42 = .ok (.goto (-28), 3) := by decide +kernel
theorem dX10_save_45 : decode cX10_save 45 = .ok (.aload_n 0, 1) := by decide +kernel
theorem dX10_save_46 : decode cX10_save 46 = .ok (.getfield 19, 3) := by decide +kernel
theorem dX10_save_49 : decode cX10_save 49 = .ok (.iload_n 1, 1) := by decide +kernel
theorem dX10_save_50 : decode cX10_save 50 = .ok (.iconst 1, 1) := by decide +kernel
theorem dX10_save_51 : decode cX10_save 51 = .ok (.bastore, 1) := by decide +kernel
theorem dX10_save_52 : decode cX10_save 52 = .ok (.aload_n 0, 1) := by decide +kernel
theorem dX10_save_53 : decode cX10_save 53 = .ok (.getfield 7, 3) := by decide +kernel
theorem dX10_save_56 : decode cX10_save 56 = .ok (.bipush 8, 2) := by decide +kernel
theorem dX10_save_58 : decode cX10_save 58 = .ok (.iaload, 1) := by decide +kernel
theorem dX10_save_59 : decode cX10_save 59 = .ok (.ireturn, 1) := by decide +kernel
set_option maxRecDepth 20000 in
theorem ggX10_restore_X10_in : GoodIn wsX10_restore wsX10_in := goodIn_r _ [7] (by decide +kernel) (by decide +kernel)
set_option maxRecDepth 20000 in
theorem gX10_restore_X10_in : GoodIn wsX10_restore (va_wsS RX10 98 yX10_in wsX10_in) := goodIn_app (goodIn_of _ (by decide +kernel)) ggX10_restore_X10_in
set_option maxRecDepth 20000 in
theorem ggX10_restore_X10_keep : GoodIn wsX10_restore wsX10_keep := goodIn_r _ [11, 12, 13, 14, 2, 15, 16, 17, 18, 19, 20, 21, 22, 23, 24, 25, 26, 27, 28, 29, 30, 31, 32] (by decide +kernel) (by decide +kernel)
set_option maxRecDepth 20000 in
theorem gX10_restore_X10_keep : GoodIn wsX10_restore (wsV RX10 108 RX10 yX10_keep wsX10_keep) := goodIn_app (goodIn_of _ (by decide +kernel)) ggX10_restore_X10_keep
theorem dX10_restore_0 : decode cX10_restore 0 = .ok (.iload_n 1, 1) := by decide +kernel
theorem dX10_restore_1 : decode cX10_restore 1 = .ok (.iconst 0, 1) := by decide +kernel
theorem dX10_restore_2 : decode cX10_restore 2 = .ok (.iconst 1, 1) := by decide +kernel
theorem dX10_restore_3 : decode cX10_restore 3 = .ok (.invokestatic 98, 3) := by decide +kernel
theorem dX10_restore_6 : decode cX10_restore 6 = .ok (.ifCond .ne 6, 3) := by decide +kernel
theorem dX10_restore_9 : decode cX10_restore 9 = .ok (.bipush (-2), 2) := by decide +kernel
theorem dX10_restore_11 : decode cX10_restore 11 = .ok (.ireturn, 1) := by decide +kernel
theorem dX10_restore_12 : decode cX10_restore 12 = .ok (.aload_n 0, 1) := by decide +kernel
theorem dX10_restore_13 : decode cX10_restore 13 = .ok (.getfield 19, 3) := by decide +kernel
theorem dX10_restore_16 : decode cX10_restore 16 = .ok (.iload_n 1, 1) := by decide +kernel
theorem dX10_restore_17 : decode cX10_restore 17 = .ok (.baload, 1) := by decide +kernel
theorem dX10_restore_18 : decode cX10_restore 18 = .ok (.ifCond .ne 6, 3) := by decide +kernel
theorem dX10_restore_21 : decode cX10_restore 21 = .ok (.bipush (-5), 2) := by decide +kernel
theorem dX10_restore_23 : decode cX10_restore 23 = .ok (.ireturn, 1) := by decide +kernel
theorem dX10_restore_24 : decode cX10_restore 24 = .ok (.aload_n 0, 1) := by decide +kernel
theorem dX10_restore_25 : decode cX10_restore 25 = .ok (.invokevirtual 108, 3) := by decide +kernel
theorem dX10_restore_28 : decode cX10_restore 28 = .ok (.iconst 0, 1) := by decide +kernel
theorem dX10_restore_29 : decode cX10_restore 29 = .ok (.istore_n 2, 1) := by decide +kernel
theorem dX10_restore_30 : decode cX10_restore 30 = .ok (.iload_n 2, 1) := by decide +kernel
theorem dX10_restore_31 : decode cX10_restore 31 = .ok (.sipush 672, 3) := by decide +kernel
theorem dX10_restore_34 : decode cX10_restore 34 = .ok (.if_icmp .ge 27, 3) := by decide +kernel
theorem dX10_restore_37 : decode cX10_restore 37 = .ok (.aload_n 0, 1) := by decide +kernel
theorem dX10_restore_38 : decode cX10_restore 38 = .ok (.getfield 7, 3) := by decide +kernel
theorem dX10_restore_41 : decode cX10_restore 41 = .ok (.iload_n 2, 1) := by decide +kernel
theorem dX10_restore_42 : decode cX10_restore 42 = .ok (.aload_n 0, 1) := by decide +kernel
theorem dX10_restore_43 : decode cX10_restore 43 = .ok (.getfield 16, 3) := by decide +kernel
theorem dX10_restore_46 : decode cX10_restore 46 = .ok (.sipush 672, 3) := by decide +kernel
theorem dX10_restore_49 : decode cX10_restore 49 = .ok (.iload_n 1, 1) := by decide +kernel
theorem dX10_restore_50 : decode cX10_restore 50 = .ok (.imul, 1) := by decide +kernel
theorem dX10_restore_51 : decode cX10_restore 51 = .ok (.iload_n 2, 1) := by decide +kernel
theorem dX10_restore_52 : decode cX10_restore 52 = .ok (.iadd, 1) := by decide +kernel
theorem dX10_restore_53 : decode cX10_restore 53 = .ok (.iaload, 1) := by decide +kernel
theorem dX10_restore_54 : decode cX10_restore 54 = .ok (.iastore, 1) := by decide +kernel
theorem dX10_restore_55 : decode cX10_restore 55 = .ok (.iinc 2 1, 3) := by decide +kernel
theorem dX10_restore_58 : decode cX10_restore 58 = .ok (.goto (-28), 3) := by decide +kernel
theorem dX10_restore_61 : decode cX10_restore 61 = .ok (.aload_n 0, 1) := by decide +kernel
theorem dX10_restore_62 : decode cX10_restore 62 = .ok (.getfield 7, 3) := by decide +kernel
theorem dX10_restore_65 : decode cX10_restore 65 = .ok (.bipush 8, 2) := by decide +kernel
theorem dX10_restore_67 : decode cX10_restore 67 = .ok (.iaload, 1) := by decide +kernel
theorem dX10_restore_68 : decode cX10_restore 68 = .ok (.ireturn, 1) := by decide +kernel
