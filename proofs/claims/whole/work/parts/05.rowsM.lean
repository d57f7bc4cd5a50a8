theorem dX5_init_0 : decode cX5_init 0 = .ok (.aload_n 0, 1) := by decide +kernel
theorem dX5_init_1 : decode cX5_init 1 = .ok (.invokespecial 1, 3) := by decide +kernel
theorem dX5_init_4 : decode cX5_init 4 = .ok (.aload_n 0, 1) := by decide +kernel
theorem dX5_init_5 : decode cX5_init 5 = .ok (.bipush 9, 2) := by decide +kernel
theorem dX5_init_7 : decode cX5_init 7 = .ok (.newarray .int, 2) := by decide +kernel
theorem dX5_init_9 : decode cX5_init 9 = .ok (.putfield 9, 3) := by decide +kernel
theorem dX5_init_12 : decode cX5_init 12 = .ok (.aload_n 0, 1) := by decide +kernel
theorem dX5_init_13 : decode cX5_init 13 = .ok (.bipush 9, 2) := by decide +kernel
theorem dX5_init_15 : decode cX5_init 15 = .ok (.newarray .int, 2) := by decide +kernel
theorem dX5_init_17 : decode cX5_init 17 = .ok (.putfield 13, 3) := by decide +kernel
theorem dX5_init_20 : decode cX5_init 20 = .ok (.aload_n 0, 1) := by decide +kernel
theorem dX5_init_21 : decode cX5_init 21 = .ok (.bipush 24, 2) := by decide +kernel
theorem dX5_init_23 : decode cX5_init 23 = .ok (.newarray .int, 2) := by decide +kernel
theorem dX5_init_25 : decode cX5_init 25 = .ok (.putfield 16, 3) := by decide +kernel
theorem dX5_init_28 : decode cX5_init 28 = .ok (.aload_n 0, 1) := by decide +kernel
theorem dX5_init_29 : decode cX5_init 29 = .ok (.bipush 7, 2) := by decide +kernel
theorem dX5_init_31 : decode cX5_init 31 = .ok (.putfield 19, 3) := by decide +kernel
theorem dX5_init_34 : decode cX5_init 34 = .ok (.aload_n 0, 1) := by decide +kernel
theorem dX5_init_35 : decode cX5_init 35 = .ok (.bipush 25, 2) := by decide +kernel
theorem dX5_init_37 : decode cX5_init 37 = .ok (.newarray .int, 2) := by decide +kernel
theorem dX5_init_39 : decode cX5_init 39 = .ok (.putfield 23, 3) := by decide +kernel
theorem dX5_init_42 : decode cX5_init 42 = .ok (.aload_n 0, 1) := by decide +kernel
theorem dX5_init_43 : decode cX5_init 43 = .ok (.bipush 24, 2) := by decide +kernel
theorem dX5_init_45 : decode cX5_init 45 = .ok (.newarray .int, 2) := by decide +kernel
theorem dX5_init_47 : decode cX5_init 47 = .ok (.putfield 26, 3) := by decide +kernel
theorem dX5_init_50 : decode cX5_init 50 = .ok (.return_, 1) := by decide +kernel
theorem dX5_thrown_0 : decode cX5_thrown 0 = .ok (.aload_n 0, 1) := by decide +kernel
theorem dX5_thrown_1 : decode cX5_thrown 1 = .ok (.getfield 29, 3) := by decide +kernel
theorem dX5_thrown_4 : decode cX5_thrown 4 = .ok (.ireturn, 1) := by decide +kernel
theorem dX5_fail_0 : decode cX5_fail 0 = .ok (.aload_n 0, 1) := by decide +kernel
theorem dX5_fail_1 : decode cX5_fail 1 = .ok (.iload_n 1, 1) := by decide +kernel
theorem dX5_fail_2 : decode cX5_fail 2 = .ok (.putfield 29, 3) := by decide +kernel
theorem dX5_fail_5 : decode cX5_fail 5 = .ok (.iconst 0, 1) := by decide +kernel
theorem dX5_fail_6 : decode cX5_fail 6 = .ok (.ireturn, 1) := by decide +kernel
theorem dX5_told_0 : decode cX5_told 0 = .ok (.aload_n 0, 1) := by decide +kernel
theorem dX5_told_1 : decode cX5_told 1 = .ok (.iconst 0, 1) := by decide +kernel
theorem dX5_told_2 : decode cX5_told 2 = .ok (.putfield 29, 3) := by decide +kernel
theorem dX5_told_5 : decode cX5_told 5 = .ok (.iload_n 1, 1) := by decide +kernel
theorem dX5_told_6 : decode cX5_told 6 = .ok (.ireturn, 1) := by decide +kernel
theorem dX5_isIn_0 : decode cX5_isIn 0 = .ok (.iload_n 0, 1) := by decide +kernel
theorem dX5_isIn_1 : decode cX5_isIn 1 = .ok (.iload_n 1, 1) := by decide +kernel
theorem dX5_isIn_2 : decode cX5_isIn 2 = .ok (.if_icmp .lt 12, 3) := by decide +kernel
theorem dX5_isIn_5 : decode cX5_isIn 5 = .ok (.iload_n 0, 1) := by decide +kernel
theorem dX5_isIn_6 : decode cX5_isIn 6 = .ok (.iload_n 2, 1) := by decide +kernel
theorem dX5_isIn_7 : decode cX5_isIn 7 = .ok (.if_icmp .gt 7, 3) := by decide +kernel
theorem dX5_isIn_10 : decode cX5_isIn 10 = .ok (.iconst 1, 1) := by decide +kernel
theorem dX5_isIn_11 : decode cX5_isIn 11 = .ok (.goto 4, 3) := by decide +kernel
theorem dX5_isIn_14 : decode cX5_isIn 14 = .ok (.iconst 0, 1) := by decide +kernel
theorem dX5_isIn_15 : decode cX5_isIn 15 = .ok (.ireturn, 1) := by decide +kernel
set_option maxRecDepth 20000 in
theorem ggX5_isType_X5_isIn : GoodIn wsX5_isType wsX5_isIn := goodIn_r _ [4] (by decide +kernel) (by decide +kernel)
set_option maxRecDepth 20000 in
theorem gX5_isType_X5_isIn : GoodIn wsX5_isType (va_wsS RX5 32 yX5_isIn wsX5_isIn) := goodIn_app (goodIn_of _ (by decide +kernel)) ggX5_isType_X5_isIn
theorem dX5_isType_0 : decode cX5_isType 0 = .ok (.iload_n 0, 1) := by decide +kernel
theorem dX5_isType_1 : decode cX5_isType 1 = .ok (.iconst 0, 1) := by decide +kernel
theorem dX5_isType_2 : decode cX5_isType 2 = .ok (.bipush 9, 2) := by decide +kernel
theorem dX5_isType_4 : decode cX5_isType 4 = .ok (.invokestatic 32, 3) := by decide +kernel
theorem dX5_isType_7 : decode cX5_isType 7 = .ok (.ireturn, 1) := by decide +kernel
set_option maxRecDepth 20000 in
theorem ggX5_isCode_X5_isIn : GoodIn wsX5_isCode wsX5_isIn := goodIn_r _ [5] (by decide +kernel) (by decide +kernel)
set_option maxRecDepth 20000 in
theorem gX5_isCode_X5_isIn : GoodIn wsX5_isCode (va_wsS RX5 32 yX5_isIn wsX5_isIn) := goodIn_app (goodIn_of _ (by decide +kernel)) ggX5_isCode_X5_isIn
theorem dX5_isCode_0 : decode cX5_isCode 0 = .ok (.iload_n 1, 1) := by decide +kernel
theorem dX5_isCode_1 : decode cX5_isCode 1 = .ok (.iconst 0, 1) := by decide +kernel
theorem dX5_isCode_2 : decode cX5_isCode 2 = .ok (.aload_n 0, 1) := by decide +kernel
theorem dX5_isCode_3 : decode cX5_isCode 3 = .ok (.getfield 36, 3) := by decide +kernel
theorem dX5_isCode_6 : decode cX5_isCode 6 = .ok (.iconst 1, 1) := by decide +kernel
theorem dX5_isCode_7 : decode cX5_isCode 7 = .ok (.isub, 1) := by decide +kernel
theorem dX5_isCode_8 : decode cX5_isCode 8 = .ok (.invokestatic 32, 3) := by decide +kernel
theorem dX5_isCode_11 : decode cX5_isCode 11 = .ok (.ireturn, 1) := by decide +kernel
theorem dX5_keyAt_0 : decode cX5_keyAt 0 = .ok (.iload_n 1, 1) := by decide +kernel
theorem dX5_keyAt_1 : decode cX5_keyAt 1 = .ok (.iload_n 2, 1) := by decide +kernel
theorem dX5_keyAt_2 : decode cX5_keyAt 2 = .ok (.iadd, 1) := by decide +kernel
theorem dX5_keyAt_3 : decode cX5_keyAt 3 = .ok (.aload_n 0, 1) := by decide +kernel
theorem dX5_keyAt_4 : decode cX5_keyAt 4 = .ok (.getfield 39, 3) := by decide +kernel
theorem dX5_keyAt_7 : decode cX5_keyAt 7 = .ok (.if_icmp .le 5, 3) := by decide +kernel
theorem dX5_keyAt_10 : decode cX5_keyAt 10 = .ok (.iconst (-1), 1) := by decide +kernel
theorem dX5_keyAt_11 : decode cX5_keyAt 11 = .ok (.ireturn, 1) := by decide +kernel
theorem dX5_keyAt_12 : decode cX5_keyAt 12 = .ok (.iconst 0, 1) := by decide +kernel
theorem dX5_keyAt_13 : decode cX5_keyAt 13 = .ok (.istore_n 3, 1) := by decide +kernel
theorem dX5_keyAt_14 : decode cX5_keyAt 14 = .ok (.iconst 0, 1) := by decide +kernel
theorem dX5_keyAt_15 : decode cX5_keyAt 15 = .ok (.istore 4, 2) := by decide +kernel
theorem dX5_keyAt_17 : decode cX5_keyAt 17 = .ok (.iload 4, 2) := by decide +kernel
theorem dX5_keyAt_19 : decode cX5_keyAt 19 = .ok (.iload_n 2, 1) := by decide +kernel
theorem dX5_keyAt_20 : decode cX5_keyAt 20 = .ok (.if_icmp .ge 26, 3) := by decide +kernel
theorem dX5_keyAt_23 : decode cX5_keyAt 23 = .ok (.bipush 11, 2) := by decide +kernel
theorem dX5_keyAt_25 : decode cX5_keyAt 25 = .ok (.iload_n 3, 1) := by decide +kernel
theorem dX5_keyAt_26 : decode cX5_keyAt 26 = .ok (.imul, 1) := by decide +kernel
theorem dX5_keyAt_27 : decode cX5_keyAt 27 = .ok (.aload_n 0, 1) := by decide +kernel
theorem dX5_keyAt_28 : decode cX5_keyAt 28 = .ok (.getfield 16, 3) := by decide +kernel
theorem dX5_keyAt_31 : decode cX5_keyAt 31 = .ok (.iload_n 1, 1) := by decide +kernel
theorem dX5_keyAt_32 : decode cX5_keyAt 32 = .ok (.iload 4, 2) := by decide +kernel
theorem dX5_keyAt_34 : decode cX5_keyAt 34 = .ok (.iadd, 1) := by decide +kernel
theorem dX5_keyAt_35 : decode cX5_keyAt 35 = .ok (.iaload, 1) := by decide +kernel
theorem dX5_keyAt_36 : decode cX5_keyAt 36 = .ok (.iadd, 1) := by decide +kernel
theorem dX5_keyAt_37 : decode cX5_keyAt 37 = .ok (.iconst 1, 1) := by decide +kernel
theorem dX5_keyAt_38 : decode cX5_keyAt 38 = .ok (.iadd, 1) := by decide +kernel
theorem dX5_keyAt_39 : decode cX5_keyAt 39 = .ok (.istore_n 3, 1) := by decide +kernel
theorem dX5_keyAt_40 : decode cX5_keyAt 40 = .ok (.iinc 4 1, 3) := by decide +kernel
theorem dX5_keyAt_43 : decode cX5_keyAt 43 = .ok (.goto (-26), 3) := by decide +kernel
theorem dX5_keyAt_46 : decode cX5_keyAt 46 = .ok (.iload_n 3, 1) := by decide +kernel
theorem dX5_keyAt_47 : decode cX5_keyAt 47 = .ok (.ireturn, 1) := by decide +kernel
set_option maxRecDepth 20000 in
theorem ggX5_part_X5_keyAt : GoodIn wsX5_part wsX5_keyAt := goodIn_r _ [10, 2, 11, 12, 13, 14, 15, 16, 17, 18, 19, 20, 21, 22, 23, 24, 25, 26, 27, 28] (by decide +kernel) (by decide +kernel)
set_option maxRecDepth 20000 in
theorem gX5_part_X5_keyAt : GoodIn wsX5_part (wsV RX5 42 RX5 yX5_keyAt wsX5_keyAt) := goodIn_app (goodIn_of _ (by decide +kernel)) ggX5_part_X5_keyAt
theorem dX5_part_0 : decode cX5_part 0 = .ok (.aload_n 0, 1) := by decide +kernel
theorem dX5_part_1 : decode cX5_part 1 = .ok (.getfield 23, 3) := by decide +kernel
theorem dX5_part_4 : decode cX5_part 4 = .ok (.aload_n 0, 1) := by decide +kernel
theorem dX5_part_5 : decode cX5_part 5 = .ok (.getfield 39, 3) := by decide +kernel
theorem dX5_part_8 : decode cX5_part 8 = .ok (.iconst 0, 1) := by decide +kernel
theorem dX5_part_9 : decode cX5_part 9 = .ok (.iastore, 1) := by decide +kernel
theorem dX5_part_10 : decode cX5_part 10 = .ok (.aload_n 0, 1) := by decide +kernel
theorem dX5_part_11 : decode cX5_part 11 = .ok (.getfield 39, 3) := by decide +kernel
theorem dX5_part_14 : decode cX5_part 14 = .ok (.iconst 1, 1) := by decide +kernel
theorem dX5_part_15 : decode cX5_part 15 = .ok (.isub, 1) := by decide +kernel
theorem dX5_part_16 : decode cX5_part 16 = .ok (.istore_n 3, 1) := by decide +kernel
theorem dX5_part_17 : decode cX5_part 17 = .ok (.iload_n 3, 1) := by decide +kernel
theorem dX5_part_18 : decode cX5_part 18 = .ok (.ifCond .lt 153, 3) := by decide +kernel
theorem dX5_part_21 : decode cX5_part 21 = .ok (.aload_n 0, 1) := by decide +kernel
theorem dX5_part_22 : decode cX5_part 22 = .ok (.getfield 23, 3) := by decide +kernel
theorem dX5_part_25 : decode cX5_part 25 = .ok (.iload_n 3, 1) := by decide +kernel
theorem dX5_part_26 : decode cX5_part 26 = .ok (.iconst 1, 1) := by decide +kernel
theorem dX5_part_27 : decode cX5_part 27 = .ok (.iadd, 1) := by decide +kernel
theorem dX5_part_28 : decode cX5_part 28 = .ok (.iaload, 1) := by decide +kernel
theorem dX5_part_29 : decode cX5_part 29 = .ok (.iconst 1, 1) := by decide +kernel
theorem dX5_part_30 : decode cX5_part 30 = .ok (.iadd, 1) := by decide +kernel
theorem dX5_part_31 : decode cX5_part 31 = .ok (.istore 4, 2) := by decide +kernel
theorem dX5_part_33 : decode cX5_part 33 = .ok (.iconst 1, 1) := by decide +kernel
theorem dX5_part_34 : decode cX5_part 34 = .ok (.istore 5, 2) := by decide +kernel
theorem dX5_part_36 : decode cX5_part 36 = .ok (.aload_n 0, 1) := by decide +kernel
theorem dX5_part_37 : decode cX5_part 37 = .ok (.getfield 26, 3) := by decide +kernel
theorem dX5_part_40 : decode cX5_part 40 = .ok (.iload_n 3, 1) := by decide +kernel
theorem dX5_part_41 : decode cX5_part 41 = .ok (.iconst (-1), 1) := by decide +kernel
theorem dX5_part_42 : decode cX5_part 42 = .ok (.iastore, 1) := by decide +kernel
theorem dX5_part_43 : decode cX5_part 43 = .ok (.iconst 0, 1) := by decide +kernel
theorem dX5_part_44 : decode cX5_part 44 = .ok (.istore 6, 2) := by decide +kernel
theorem dX5_part_46 : decode cX5_part 46 = .ok (.iload 6, 2) := by decide +kernel
theorem dX5_part_48 : decode cX5_part 48 = .ok (.iload_n 1, 1) := by decide +kernel
theorem dX5_part_49 : decode cX5_part 49 = .ok (.if_icmp .ge 108, 3) := by decide +kernel
theorem dX5_part_52 : decode cX5_part 52 = .ok (.iload 6, 2) := by decide +kernel
theorem dX5_part_54 : decode cX5_part 54 = .ok (.iload_n 2, 1) := by decide +kernel
theorem dX5_part_55 : decode cX5_part 55 = .ok (.if_icmp .eq 96, 3) := by decide +kernel
theorem dX5_part_58 : decode cX5_part 58 = .ok (.aload_n 0, 1) := by decide +kernel
theorem dX5_part_59 : decode cX5_part 59 = .ok (.iload_n 3, 1) := by decide +kernel
theorem dX5_part_60 : decode cX5_part 60 = .ok (.aload_n 0, 1) := by decide +kernel
theorem dX5_part_61 : decode cX5_part 61 = .ok (.getfield 13, 3) := by decide +kernel
theorem dX5_part_64 : decode cX5_part 64 = .ok (.iload 6, 2) := by decide +kernel
theorem dX5_part_66 : decode cX5_part 66 = .ok (.iaload, 1) := by decide +kernel
theorem dX5_part_67 : decode cX5_part 67 = .ok (.invokevirtual 42, 3) := by decide +kernel
theorem dX5_part_70 : decode cX5_part 70 = .ok (.aload_n 0, 1) := by decide +kernel
theorem dX5_part_71 : decode cX5_part 71 = .ok (.getfield 9, 3) := by decide +kernel
theorem dX5_part_74 : decode cX5_part 74 = .ok (.iload 6, 2) := by decide +kernel
theorem dX5_part_76 : decode cX5_part 76 = .ok (.iaload, 1) := by decide +kernel
theorem dX5_part_77 : decode cX5_part 77 = .ok (.if_icmp .eq 6, 3) := by decide +kernel
theorem dX5_part_80 : decode cX5_part 80 = .ok (.goto 71, 3) := by decide +kernel
theorem dX5_part_83 : decode cX5_part 83 = .ok (.aload_n 0, 1) := by decide +kernel
theorem dX5_part_84 : decode cX5_part 84 = .ok (.getfield 23, 3) := by decide +kernel
theorem dX5_part_87 : decode cX5_part 87 = .ok (.iload_n 3, 1) := by decide +kernel
theorem dX5_part_88 : decode cX5_part 88 = .ok (.aload_n 0, 1) := by decide +kernel
theorem dX5_part_89 : decode cX5_part 89 = .ok (.getfield 13, 3) := by decide +kernel
theorem dX5_part_92 : decode cX5_part 92 = .ok (.iload 6, 2) := by decide +kernel
theorem dX5_part_94 : decode cX5_part 94 = .ok (.iaload, 1) := by decide +kernel
theorem dX5_part_95 : decode cX5_part 95 = .ok (.iadd, 1) := by decide +kernel
theorem dX5_part_96 : decode cX5_part 96 = .ok (.iaload, 1) := by decide +kernel
theorem dX5_part_97 : decode cX5_part 97 = .ok (.iconst 1, 1) := by decide +kernel
theorem dX5_part_98 : decode cX5_part 98 = .ok (.iadd, 1) := by decide +kernel
theorem dX5_part_99 : decode cX5_part 99 = .ok (.istore 7, 2) := by decide +kernel
theorem dX5_part_101 : decode cX5_part 101 = .ok (.iload 7, 2) := by decide +kernel
theorem dX5_part_103 : decode cX5_part 103 = .ok (.iload 4, 2) := by decide +kernel
theorem dX5_part_105 : decode cX5_part 105 = .ok (.if_icmp .gt 46, 3) := by decide +kernel
theorem dX5_part_108 : decode cX5_part 108 = .ok (.iload 7, 2) := by decide +kernel
theorem dX5_part_110 : decode cX5_part 110 = .ok (.iload 4, 2) := by decide +kernel
theorem dX5_part_112 : decode cX5_part 112 = .ok (.if_icmp .ne 18, 3) := by decide +kernel
theorem dX5_part_115 : decode cX5_part 115 = .ok (.aload_n 0, 1) := by decide +kernel
theorem dX5_part_116 : decode cX5_part 116 = .ok (.getfield 13, 3) := by decide +kernel
theorem dX5_part_119 : decode cX5_part 119 = .ok (.iload 6, 2) := by decide +kernel
theorem dX5_part_121 : decode cX5_part 121 = .ok (.iaload, 1) := by decide +kernel
theorem dX5_part_122 : decode cX5_part 122 = .ok (.iload 5, 2) := by decide +kernel
theorem dX5_part_124 : decode cX5_part 124 = .ok (.if_icmp .ge 6, 3) := by decide +kernel
theorem dX5_part_127 : decode cX5_part 127 = .ok (.goto 24, 3) := by decide +kernel
theorem dX5_part_130 : decode cX5_part 130 = .ok (.iload 7, 2) := by decide +kernel
theorem dX5_part_132 : decode cX5_part 132 = .ok (.istore 4, 2) := by decide +kernel
theorem dX5_part_134 : decode cX5_part 134 = .ok (.aload_n 0, 1) := by decide +kernel
theorem dX5_part_135 : decode cX5_part 135 = .ok (.getfield 13, 3) := by decide +kernel
theorem dX5_part_138 : decode cX5_part 138 = .ok (.iload 6, 2) := by decide +kernel
theorem dX5_part_140 : decode cX5_part 140 = .ok (.iaload, 1) := by decide +kernel
theorem dX5_part_141 : decode cX5_part 141 = .ok (.istore 5, 2) := by decide +kernel
theorem dX5_part_143 : decode cX5_part 143 = .ok (.aload_n 0, 1) := by decide +kernel
theorem dX5_part_144 : decode cX5_part 144 = .ok (.getfield 26, 3) := by decide +kernel
theorem dX5_part_147 : decode cX5_part 147 = .ok (.iload_n 3, 1) := by decide +kernel
theorem dX5_part_148 : decode cX5_part 148 = .ok (.iload 6, 2) := by decide +kernel
theorem dX5_part_150 : decode cX5_part 150 = .ok (.iastore, 1) := by decide +kernel
theorem dX5_part_151 : decode cX5_part 151 = .ok (.iinc 6 1, 3) := by decide +kernel
theorem dX5_part_154 : decode cX5_part 154 = .ok (.goto (-108), 3) := by decide +kernel
theorem dX5_part_157 : decode cX5_part 157 = .ok (.aload_n 0, 1) := by decide +kernel
theorem dX5_part_158 : decode cX5_part 158 = .ok (.getfield 23, 3) := by decide +kernel
theorem dX5_part_161 : decode cX5_part 161 = .ok (.iload_n 3, 1) := by decide +kernel
theorem dX5_part_162 : decode cX5_part 162 = .ok (.iload 4, 2) := by decide +kernel
theorem dX5_part_164 : decode cX5_part 164 = .ok (.iastore, 1) := by decide +kernel
theorem dX5_part_165 : decode cX5_part 165 = .ok (.iinc 3 (-1), 3) := by decide +kernel
theorem dX5_part_168 : decode cX5_part 168 = .ok (.goto (-151), 3) := by decide +kernel
theorem dX5_part_171 : decode cX5_part 171 = .ok (.return_, 1) := by decide +kernel
set_option maxRecDepth 20000 in
theorem ggX5_all_X5_part : GoodIn wsX5_all wsX5_part := goodIn_r _ [7, 2, 8, 9, 10, 11, 12, 13, 14, 6, 15, 16, 17, 18, 19, 20, 21, 22, 23, 24, 25, 26, 27, 28, 29, 30, 31, 32, 33] (by decide +kernel) (by decide +kernel)
set_option maxRecDepth 20000 in
theorem gX5_all_X5_part : GoodIn wsX5_all (wsV RX5 46 RX5 yX5_part wsX5_part) := goodIn_app (goodIn_of _ (by decide +kernel)) ggX5_all_X5_part
theorem dX5_all_0 : decode cX5_all 0 = .ok (.aload_n 0, 1) := by decide +kernel
theorem dX5_all_1 : decode cX5_all 1 = .ok (.aload_n 0, 1) := by decide +kernel
theorem dX5_all_2 : decode cX5_all 2 = .ok (.getfield 36, 3) := by decide +kernel
theorem dX5_all_5 : decode cX5_all 5 = .ok (.iconst (-1), 1) := by decide +kernel
theorem dX5_all_6 : decode cX5_all 6 = .ok (.invokevirtual 46, 3) := by decide +kernel
theorem dX5_all_9 : decode cX5_all 9 = .ok (.aload_n 0, 1) := by decide +kernel
theorem dX5_all_10 : decode cX5_all 10 = .ok (.getfield 23, 3) := by decide +kernel
theorem dX5_all_13 : decode cX5_all 13 = .ok (.iconst 0, 1) := by decide +kernel
theorem dX5_all_14 : decode cX5_all 14 = .ok (.iaload, 1) := by decide +kernel
theorem dX5_all_15 : decode cX5_all 15 = .ok (.ireturn, 1) := by decide +kernel
theorem dX5_next_0 : decode cX5_next 0 = .ok (.iload_n 1, 1) := by decide +kernel
theorem dX5_next_1 : decode cX5_next 1 = .ok (.aload_n 0, 1) := by decide +kernel
theorem dX5_next_2 : decode cX5_next 2 = .ok (.getfield 26, 3) := by decide +kernel
theorem dX5_next_5 : decode cX5_next 5 = .ok (.iload_n 1, 1) := by decide +kernel
theorem dX5_next_6 : decode cX5_next 6 = .ok (.iaload, 1) := by decide +kernel
theorem dX5_next_7 : decode cX5_next 7 = .ok (.iconst (-1), 1) := by decide +kernel
theorem dX5_next_8 : decode cX5_next 8 = .ok (.if_icmp .ne 7, 3) := by decide +kernel
theorem dX5_next_11 : decode cX5_next 11 = .ok (.iconst 1, 1) := by decide +kernel
theorem dX5_next_12 : decode cX5_next 12 = .ok (.goto 14, 3) := by decide +kernel
theorem dX5_next_15 : decode cX5_next 15 = .ok (.aload_n 0, 1) := by decide +kernel
theorem dX5_next_16 : decode cX5_next 16 = .ok (.getfield 13, 3) := by decide +kernel
theorem dX5_next_19 : decode cX5_next 19 = .ok (.aload_n 0, 1) := by decide +kernel
theorem dX5_next_20 : decode cX5_next 20 = .ok (.getfield 26, 3) := by decide +kernel
theorem dX5_next_23 : decode cX5_next 23 = .ok (.iload_n 1, 1) := by decide +kernel
theorem dX5_next_24 : decode cX5_next 24 = .ok (.iaload, 1) := by decide +kernel
theorem dX5_next_25 : decode cX5_next 25 = .ok (.iaload, 1) := by decide +kernel
theorem dX5_next_26 : decode cX5_next 26 = .ok (.iadd, 1) := by decide +kernel
theorem dX5_next_27 : decode cX5_next 27 = .ok (.ireturn, 1) := by decide +kernel
set_option maxRecDepth 20000 in
theorem ggX5_start_X5_next : GoodIn wsX5_start wsX5_next := goodIn_r _ [5, 6, 7, 8, 9, 10, 11, 12, 13, 14, 15, 16, 17, 18, 19, 20, 21, 22, 23, 24] (by decide +kernel) (by decide +kernel)
set_option maxRecDepth 20000 in
theorem gX5_start_X5_next : GoodIn wsX5_start (wsV RX5 50 RX5 yX5_next wsX5_next) := goodIn_app (goodIn_of _ (by decide +kernel)) ggX5_start_X5_next
theorem dX5_start_0 : decode cX5_start 0 = .ok (.iconst 0, 1) := by decide +kernel
theorem dX5_start_1 : decode cX5_start 1 = .ok (.istore_n 2, 1) := by decide +kernel
theorem dX5_start_2 : decode cX5_start 2 = .ok (.iconst 0, 1) := by decide +kernel
theorem dX5_start_3 : decode cX5_start 3 = .ok (.istore_n 3, 1) := by decide +kernel
theorem dX5_start_4 : decode cX5_start 4 = .ok (.iload_n 3, 1) := by decide +kernel
theorem dX5_start_5 : decode cX5_start 5 = .ok (.iload_n 1, 1) := by decide +kernel
theorem dX5_start_6 : decode cX5_start 6 = .ok (.if_icmp .ge 15, 3) := by decide +kernel
theorem dX5_start_9 : decode cX5_start 9 = .ok (.aload_n 0, 1) := by decide +kernel
theorem dX5_start_10 : decode cX5_start 10 = .ok (.iload_n 2, 1) := by decide +kernel
theorem dX5_start_11 : decode cX5_start 11 = .ok (.invokevirtual 50, 3) := by decide +kernel
theorem dX5_start_14 : decode cX5_start 14 = .ok (.istore_n 2, 1) := by decide +kernel
theorem dX5_start_15 : decode cX5_start 15 = .ok (.iinc 3 1, 3) := by decide +kernel
theorem dX5_start_18 : decode cX5_start 18 = .ok (.goto (-14), 3) := by decide +kernel
theorem dX5_start_21 : decode cX5_start 21 = .ok (.iload_n 2, 1) := by decide +kernel
theorem dX5_start_22 : decode cX5_start 22 = .ok (.ireturn, 1) := by decide +kernel
set_option maxRecDepth 20000 in
theorem ggX5_count_X5_part : GoodIn wsX5_count wsX5_part := goodIn_r _ [9, 10, 2, 3, 11, 12, 13, 14, 15, 8, 16, 4, 21, 22, 23, 24, 25, 26, 27, 28, 29, 30, 31, 32, 33, 34, 35, 36, 37] (by decide +kernel) (by decide +kernel)
set_option maxRecDepth 20000 in
theorem gX5_count_X5_part : GoodIn wsX5_count (wsV RX5 46 RX5 yX5_part wsX5_part) := goodIn_app (goodIn_of _ (by decide +kernel)) ggX5_count_X5_part
set_option maxRecDepth 20000 in
theorem ggX5_count_X5_next : GoodIn wsX5_count wsX5_next := goodIn_r _ [20, 3, 11, 21, 22, 23, 24, 25, 26, 27, 28, 29, 30, 31, 32, 33, 34, 35, 36, 37] (by decide +kernel) (by decide +kernel)
set_option maxRecDepth 20000 in
theorem gX5_count_X5_next : GoodIn wsX5_count (wsV RX5 50 RX5 yX5_next wsX5_next) := goodIn_app (goodIn_of _ (by decide +kernel)) ggX5_count_X5_next
theorem dX5_count_0 : decode cX5_count 0 = .ok (.aload_n 0, 1) := by decide +kernel
theorem dX5_count_1 : decode cX5_count 1 = .ok (.aload_n 0, 1) := by decide +kernel
theorem dX5_count_2 : decode cX5_count 2 = .ok (.getfield 36, 3) := by decide +kernel
theorem dX5_count_5 : decode cX5_count 5 = .ok (.iconst (-1), 1) := by decide +kernel
theorem dX5_count_6 : decode cX5_count 6 = .ok (.invokevirtual 46, 3) := by decide +kernel
theorem dX5_count_9 : decode cX5_count 9 = .ok (.iconst 0, 1) := by decide +kernel
theorem dX5_count_10 : decode cX5_count 10 = .ok (.istore_n 1, 1) := by decide +kernel
theorem dX5_count_11 : decode cX5_count 11 = .ok (.iconst 0, 1) := by decide +kernel
theorem dX5_count_12 : decode cX5_count 12 = .ok (.istore_n 2, 1) := by decide +kernel
theorem dX5_count_13 : decode cX5_count 13 = .ok (.iload_n 2, 1) := by decide +kernel
theorem dX5_count_14 : decode cX5_count 14 = .ok (.aload_n 0, 1) := by decide +kernel
theorem dX5_count_15 : decode cX5_count 15 = .ok (.getfield 39, 3) := by decide +kernel
theorem dX5_count_18 : decode cX5_count 18 = .ok (.if_icmp .ge 41, 3) := by decide +kernel
theorem dX5_count_21 : decode cX5_count 21 = .ok (.iload_n 1, 1) := by decide +kernel
theorem dX5_count_22 : decode cX5_count 22 = .ok (.aload_n 0, 1) := by decide +kernel
theorem dX5_count_23 : decode cX5_count 23 = .ok (.getfield 26, 3) := by decide +kernel
theorem dX5_count_26 : decode cX5_count 26 = .ok (.iload_n 2, 1) := by decide +kernel
theorem dX5_count_27 : decode cX5_count 27 = .ok (.iaload, 1) := by decide +kernel
theorem dX5_count_28 : decode cX5_count 28 = .ok (.iconst (-1), 1) := by decide +kernel
theorem dX5_count_29 : decode cX5_count 29 = .ok (.if_icmp .ne 18, 3) := by decide +kernel
theorem dX5_count_32 : decode cX5_count 32 = .ok (.aload_n 0, 1) := by decide +kernel
theorem dX5_count_33 : decode cX5_count 33 = .ok (.getfield 16, 3) := by decide +kernel
theorem dX5_count_36 : decode cX5_count 36 = .ok (.iload_n 2, 1) := by decide +kernel
theorem dX5_count_37 : decode cX5_count 37 = .ok (.iaload, 1) := by decide +kernel
theorem dX5_count_38 : decode cX5_count 38 = .ok (.bipush 7, 2) := by decide +kernel
theorem dX5_count_40 : decode cX5_count 40 = .ok (.if_icmp .le 7, 3) := by decide +kernel
theorem dX5_count_43 : decode cX5_count 43 = .ok (.iconst 2, 1) := by decide +kernel
theorem dX5_count_44 : decode cX5_count 44 = .ok (.goto 4, 3) := by decide +kernel
theorem dX5_count_47 : decode cX5_count 47 = .ok (.iconst 1, 1) := by decide +kernel
theorem dX5_count_48 : decode cX5_count 48 = .ok (.iadd, 1) := by decide +kernel
theorem dX5_count_49 : decode cX5_count 49 = .ok (.istore_n 1, 1) := by decide +kernel
theorem dX5_count_50 : decode cX5_count 50 = .ok (.aload_n 0, 1) := by decide +kernel
theorem dX5_count_51 : decode cX5_count 51 = .ok (.iload_n 2, 1) := by decide +kernel
theorem dX5_count_52 : decode cX5_count 52 = .ok (.invokevirtual 50, 3) := by decide +kernel
theorem dX5_count_55 : decode cX5_count 55 = .ok (.istore_n 2, 1) := by decide +kernel
theorem dX5_count_56 : decode cX5_count 56 = .ok (.goto (-43), 3) := by decide +kernel
theorem dX5_count_59 : decode cX5_count 59 = .ok (.iload_n 1, 1) := by decide +kernel
theorem dX5_count_60 : decode cX5_count 60 = .ok (.ireturn, 1) := by decide +kernel
theorem dX5_price_0 : decode cX5_price 0 = .ok (.aload_n 0, 1) := by decide +kernel
theorem dX5_price_1 : decode cX5_price 1 = .ok (.getfield 39, 3) := by decide +kernel
theorem dX5_price_4 : decode cX5_price 4 = .ok (.ifCond .ne 7, 3) := by decide +kernel
theorem dX5_price_7 : decode cX5_price 7 = .ok (.iconst 0, 1) := by decide +kernel
theorem dX5_price_8 : decode cX5_price 8 = .ok (.goto 16, 3) := by decide +kernel
theorem dX5_price_11 : decode cX5_price 11 = .ok (.bipush 20, 2) := by decide +kernel
theorem dX5_price_13 : decode cX5_price 13 = .ok (.iconst 3, 1) := by decide +kernel
theorem dX5_price_14 : decode cX5_price 14 = .ok (.iconst 0, 1) := by decide +kernel
theorem dX5_price_15 : decode cX5_price 15 = .ok (.iload_n 1, 1) := by decide +kernel
theorem dX5_price_16 : decode cX5_price 16 = .ok (.bipush 10, 2) := by decide +kernel
theorem dX5_price_18 : decode cX5_price 18 = .ok (.isub, 1) := by decide +kernel
theorem dX5_price_19 : decode cX5_price 19 = .ok (.invokestatic 54, 3) := by decide +kernel
theorem dX5_price_22 : decode cX5_price 22 = .ok (.imul, 1) := by decide +kernel
theorem dX5_price_23 : decode cX5_price 23 = .ok (.iadd, 1) := by decide +kernel
theorem dX5_price_24 : decode cX5_price 24 = .ok (.ireturn, 1) := by decide +kernel
set_option maxRecDepth 20000 in
theorem ggX5_priceNow_X5_count : GoodIn wsX5_priceNow wsX5_count := goodIn_r _ [5, 6, 7, 8, 9, 10, 11, 12, 4, 13, 14, 15, 16, 17, 18, 19, 20, 21, 22, 23, 24, 33, 34, 35, 36, 37, 38, 39, 40, 41, 42, 43, 44, 45, 46, 47, 48, 49] (by decide +kernel) (by decide +kernel)
set_option maxRecDepth 20000 in
theorem gX5_priceNow_X5_count : GoodIn wsX5_priceNow (wsV RX5 59 RX5 yX5_count wsX5_count) := goodIn_app (goodIn_of _ (by decide +kernel)) ggX5_priceNow_X5_count
set_option maxRecDepth 20000 in
theorem ggX5_priceNow_X5_price : GoodIn wsX5_priceNow wsX5_price := goodIn_r _ [28, 7, 29, 30, 31, 32, 33, 34, 35, 36, 37, 38, 39, 40, 41, 42, 43, 44, 45, 46, 47, 48, 49] (by decide +kernel) (by decide +kernel)
set_option maxRecDepth 20000 in
theorem gX5_priceNow_X5_price : GoodIn wsX5_priceNow (wsV RX5 63 RX5 yX5_price wsX5_price) := goodIn_app (goodIn_of _ (by decide +kernel)) ggX5_priceNow_X5_price
theorem dX5_priceNow_0 : decode cX5_priceNow 0 = .ok (.aload_n 0, 1) := by decide +kernel
theorem dX5_priceNow_1 : decode cX5_priceNow 1 = .ok (.aload_n 0, 1) := by decide +kernel
theorem dX5_priceNow_2 : decode cX5_priceNow 2 = .ok (.invokevirtual 59, 3) := by decide +kernel
theorem dX5_priceNow_5 : decode cX5_priceNow 5 = .ok (.invokevirtual 63, 3) := by decide +kernel
theorem dX5_priceNow_8 : decode cX5_priceNow 8 = .ok (.ireturn, 1) := by decide +kernel
set_option maxRecDepth 20000 in
theorem ggX5_priceOfWords_X5_price : GoodIn wsX5_priceOfWords wsX5_price := goodIn_r _ [7, 1, 8, 9, 10, 11, 12, 13, 14, 15, 16, 17, 18, 19, 20, 21, 22, 23, 24, 25, 26, 27, 28] (by decide +kernel) (by decide +kernel)
set_option maxRecDepth 20000 in
theorem gX5_priceOfWords_X5_price : GoodIn wsX5_priceOfWords (wsV RX5 63 RX5 yX5_price wsX5_price) := goodIn_app (goodIn_of _ (by decide +kernel)) ggX5_priceOfWords_X5_price
theorem dX5_priceOfWords_0 : decode cX5_priceOfWords 0 = .ok (.iconst 0, 1) := by decide +kernel
theorem dX5_priceOfWords_1 : decode cX5_priceOfWords 1 = .ok (.istore_n 1, 1) := by decide +kernel
theorem dX5_priceOfWords_2 : decode cX5_priceOfWords 2 = .ok (.iconst 0, 1) := by decide +kernel
theorem dX5_priceOfWords_3 : decode cX5_priceOfWords 3 = .ok (.istore_n 2, 1) := by decide +kernel
theorem dX5_priceOfWords_4 : decode cX5_priceOfWords 4 = .ok (.iload_n 2, 1) := by decide +kernel
theorem dX5_priceOfWords_5 : decode cX5_priceOfWords 5 = .ok (.aload_n 0, 1) := by decide +kernel
theorem dX5_priceOfWords_6 : decode cX5_priceOfWords 6 = .ok (.getfield 39, 3) := by decide +kernel
theorem dX5_priceOfWords_9 : decode cX5_priceOfWords 9 = .ok (.if_icmp .ge 28, 3) := by decide +kernel
theorem dX5_priceOfWords_12 : decode cX5_priceOfWords 12 = .ok (.iload_n 1, 1) := by decide +kernel
theorem dX5_priceOfWords_13 : decode cX5_priceOfWords 13 = .ok (.aload_n 0, 1) := by decide +kernel
theorem dX5_priceOfWords_14 : decode cX5_priceOfWords 14 = .ok (.getfield 16, 3) := by decide +kernel
theorem dX5_priceOfWords_17 : decode cX5_priceOfWords 17 = .ok (.iload_n 2, 1) := by decide +kernel
theorem dX5_priceOfWords_18 : decode cX5_priceOfWords 18 = .ok (.iaload, 1) := by decide +kernel
theorem dX5_priceOfWords_19 : decode cX5_priceOfWords 19 = .ok (.bipush 7, 2) := by decide +kernel
theorem dX5_priceOfWords_21 : decode cX5_priceOfWords 21 = .ok (.if_icmp .le 7, 3) := by decide +kernel
theorem dX5_priceOfWords_24 : decode cX5_priceOfWords 24 = .ok (.iconst 2, 1) := by decide +kernel
theorem dX5_priceOfWords_25 : decode cX5_priceOfWords 25 = .ok (.goto 4, 3) := by decide +kernel
theorem dX5_priceOfWords_28 : decode cX5_priceOfWords 28 = .ok (.iconst 1, 1) := by decide +kernel
theorem dX5_priceOfWords_29 : decode cX5_priceOfWords 29 = .ok (.iadd, 1) := by decide +kernel
theorem dX5_priceOfWords_30 : decode cX5_priceOfWords 30 = .ok (.istore_n 1, 1) := by decide +kernel
theorem dX5_priceOfWords_31 : decode cX5_priceOfWords 31 = .ok (.iinc 2 1, 3) := by decide +kernel
theorem dX5_priceOfWords_34 : decode cX5_priceOfWords 34 = .ok (.goto (-30), 3) := by decide +kernel
theorem dX5_priceOfWords_37 : decode cX5_priceOfWords 37 = .ok (.aload_n 0, 1) := by decide +kernel
theorem dX5_priceOfWords_38 : decode cX5_priceOfWords 38 = .ok (.iload_n 1, 1) := by decide +kernel
theorem dX5_priceOfWords_39 : decode cX5_priceOfWords 39 = .ok (.invokevirtual 63, 3) := by decide +kernel
theorem dX5_priceOfWords_42 : decode cX5_priceOfWords 42 = .ok (.ireturn, 1) := by decide +kernel
theorem dX5_isGarbled_0 : decode cX5_isGarbled 0 = .ok (.bipush 7, 2) := by decide +kernel
theorem dX5_isGarbled_2 : decode cX5_isGarbled 2 = .ok (.iload_n 0, 1) := by decide +kernel
theorem dX5_isGarbled_3 : decode cX5_isGarbled 3 = .ok (.imul, 1) := by decide +kernel
theorem dX5_isGarbled_4 : decode cX5_isGarbled 4 = .ok (.iload_n 0, 1) := by decide +kernel
theorem dX5_isGarbled_5 : decode cX5_isGarbled 5 = .ok (.bipush 10, 2) := by decide +kernel
theorem dX5_isGarbled_7 : decode cX5_isGarbled 7 = .ok (.idiv, 1) := by decide +kernel
theorem dX5_isGarbled_8 : decode cX5_isGarbled 8 = .ok (.iadd, 1) := by decide +kernel
theorem dX5_isGarbled_9 : decode cX5_isGarbled 9 = .ok (.bipush 10, 2) := by decide +kernel
theorem dX5_isGarbled_11 : decode cX5_isGarbled 11 = .ok (.irem, 1) := by decide +kernel
theorem dX5_isGarbled_12 : decode cX5_isGarbled 12 = .ok (.iload_n 1, 1) := by decide +kernel
theorem dX5_isGarbled_13 : decode cX5_isGarbled 13 = .ok (.if_icmp .lt 7, 3) := by decide +kernel
theorem dX5_isGarbled_16 : decode cX5_isGarbled 16 = .ok (.iconst 1, 1) := by decide +kernel
theorem dX5_isGarbled_17 : decode cX5_isGarbled 17 = .ok (.goto 4, 3) := by decide +kernel
theorem dX5_isGarbled_20 : decode cX5_isGarbled 20 = .ok (.iconst 0, 1) := by decide +kernel
theorem dX5_isGarbled_21 : decode cX5_isGarbled 21 = .ok (.ireturn, 1) := by decide +kernel
set_option maxRecDepth 20000 in
theorem ggX5_go_X5_isGarbled : GoodIn wsX5_go wsX5_isGarbled := goodIn_r _ [9] (by decide +kernel) (by decide +kernel)
set_option maxRecDepth 20000 in
theorem gX5_go_X5_isGarbled : GoodIn wsX5_go (va_wsS RX5 81 yX5_isGarbled wsX5_isGarbled) := goodIn_app (goodIn_of _ (by decide +kernel)) ggX5_go_X5_isGarbled
theorem dX5_go_0 : decode cX5_go 0 = .ok (.aload_n 0, 1) := by decide +kernel
theorem dX5_go_1 : decode cX5_go 1 = .ok (.iconst 0, 1) := by decide +kernel
theorem dX5_go_2 : decode cX5_go 2 = .ok (.putfield 66, 3) := by decide +kernel
theorem dX5_go_5 : decode cX5_go 5 = .ok (.aload_n 0, 1) := by decide +kernel
theorem dX5_go_6 : decode cX5_go 6 = .ok (.iconst 0, 1) := by decide +kernel
theorem dX5_go_7 : decode cX5_go 7 = .ok (.putfield 69, 3) := by decide +kernel
theorem dX5_go_10 : decode cX5_go 10 = .ok (.aload_n 0, 1) := by decide +kernel
theorem dX5_go_11 : decode cX5_go 11 = .ok (.iconst 0, 1) := by decide +kernel
theorem dX5_go_12 : decode cX5_go 12 = .ok (.putfield 72, 3) := by decide +kernel
theorem dX5_go_15 : decode cX5_go 15 = .ok (.aload_n 0, 1) := by decide +kernel
theorem dX5_go_16 : decode cX5_go 16 = .ok (.iconst 0, 1) := by decide +kernel
theorem dX5_go_17 : decode cX5_go 17 = .ok (.putfield 75, 3) := by decide +kernel
theorem dX5_go_20 : decode cX5_go 20 = .ok (.iconst 0, 1) := by decide +kernel
theorem dX5_go_21 : decode cX5_go 21 = .ok (.istore_n 3, 1) := by decide +kernel
theorem dX5_go_22 : decode cX5_go 22 = .ok (.iload_n 3, 1) := by decide +kernel
theorem dX5_go_23 : decode cX5_go 23 = .ok (.iload_n 1, 1) := by decide +kernel
theorem dX5_go_24 : decode cX5_go 24 = .ok (.if_icmp .ge 127, 3) := by decide +kernel
theorem dX5_go_27 : decode cX5_go 27 = .ok (.aload_n 0, 1) := by decide +kernel
theorem dX5_go_28 : decode cX5_go 28 = .ok (.dup, 1) := by decide +kernel
theorem dX5_go_29 : decode cX5_go 29 = .ok (.getfield 66, 3) := by decide +kernel
theorem dX5_go_32 : decode cX5_go 32 = .ok (.iconst 1, 1) := by decide +kernel
theorem dX5_go_33 : decode cX5_go 33 = .ok (.iadd, 1) := by decide +kernel
theorem dX5_go_34 : decode cX5_go 34 = .ok (.putfield 66, 3) := by decide +kernel
theorem dX5_go_37 : decode cX5_go 37 = .ok (.aload_n 0, 1) := by decide +kernel
theorem dX5_go_38 : decode cX5_go 38 = .ok (.getfield 78, 3) := by decide +kernel
theorem dX5_go_41 : decode cX5_go 41 = .ok (.aload_n 0, 1) := by decide +kernel
theorem dX5_go_42 : decode cX5_go 42 = .ok (.getfield 66, 3) := by decide +kernel
theorem dX5_go_45 : decode cX5_go 45 = .ok (.iadd, 1) := by decide +kernel
theorem dX5_go_46 : decode cX5_go 46 = .ok (.iload_n 2, 1) := by decide +kernel
theorem dX5_go_47 : decode cX5_go 47 = .ok (.invokestatic 81, 3) := by decide +kernel
theorem dX5_go_50 : decode cX5_go 50 = .ok (.istore 4, 2) := by decide +kernel
theorem dX5_go_52 : decode cX5_go 52 = .ok (.aload_n 0, 1) := by decide +kernel
theorem dX5_go_53 : decode cX5_go 53 = .ok (.dup, 1) := by decide +kernel
theorem dX5_go_54 : decode cX5_go 54 = .ok (.getfield 75, 3) := by decide +kernel
theorem dX5_go_57 : decode cX5_go 57 = .ok (.iload 4, 2) := by decide +kernel
theorem dX5_go_59 : decode cX5_go 59 = .ok (.ifCond .eq 7, 3) := by decide +kernel
theorem dX5_go_62 : decode cX5_go 62 = .ok (.iconst 1, 1) := by decide +kernel
theorem dX5_go_63 : decode cX5_go 63 = .ok (.goto 4, 3) := by decide +kernel
theorem dX5_go_66 : decode cX5_go 66 = .ok (.iconst 0, 1) := by decide +kernel
theorem dX5_go_67 : decode cX5_go 67 = .ok (.iadd, 1) := by decide +kernel
theorem dX5_go_68 : decode cX5_go 68 = .ok (.putfield 75, 3) := by decide +kernel
theorem dX5_go_71 : decode cX5_go 71 = .ok (.iconst 0, 1) := by decide +kernel
theorem dX5_go_72 : decode cX5_go 72 = .ok (.istore 5, 2) := by decide +kernel
theorem dX5_go_74 : decode cX5_go 74 = .ok (.iload 5, 2) := by decide +kernel
theorem dX5_go_76 : decode cX5_go 76 = .ok (.iconst 3, 1) := by decide +kernel
theorem dX5_go_77 : decode cX5_go 77 = .ok (.if_icmp .ge 49, 3) := by decide +kernel
theorem dX5_go_80 : decode cX5_go 80 = .ok (.iload 4, 2) := by decide +kernel
theorem dX5_go_82 : decode cX5_go 82 = .ok (.ifCond .eq 44, 3) := by decide +kernel
theorem dX5_go_85 : decode cX5_go 85 = .ok (.aload_n 0, 1) := by decide +kernel
theorem dX5_go_86 : decode cX5_go 86 = .ok (.dup, 1) := by decide +kernel
theorem dX5_go_87 : decode cX5_go 87 = .ok (.getfield 69, 3) := by decide +kernel
theorem dX5_go_90 : decode cX5_go 90 = .ok (.iconst 1, 1) := by decide +kernel
theorem dX5_go_91 : decode cX5_go 91 = .ok (.iadd, 1) := by decide +kernel
theorem dX5_go_92 : decode cX5_go 92 = .ok (.putfield 69, 3) := by decide +kernel
theorem dX5_go_95 : decode cX5_go 95 = .ok (.aload_n 0, 1) := by decide +kernel
theorem dX5_go_96 : decode cX5_go 96 = .ok (.dup, 1) := by decide +kernel
theorem dX5_go_97 : decode cX5_go 97 = .ok (.getfield 66, 3) := by decide +kernel
theorem dX5_go_100 : decode cX5_go 100 = .ok (.iconst 1, 1) := by decide +kernel
theorem dX5_go_101 : decode cX5_go 101 = .ok (.iadd, 1) := by decide +kernel
theorem dX5_go_102 : decode cX5_go 102 = .ok (.putfield 66, 3) := by decide +kernel
theorem dX5_go_105 : decode cX5_go 105 = .ok (.aload_n 0, 1) := by decide +kernel
theorem dX5_go_106 : decode cX5_go 106 = .ok (.getfield 78, 3) := by decide +kernel
theorem dX5_go_109 : decode cX5_go 109 = .ok (.aload_n 0, 1) := by decide +kernel
theorem dX5_go_110 : decode cX5_go 110 = .ok (.getfield 66, 3) := by decide +kernel
theorem dX5_go_113 : decode cX5_go 113 = .ok (.iadd, 1) := by decide +kernel
theorem dX5_go_114 : decode cX5_go 114 = .ok (.iload_n 2, 1) := by decide +kernel
theorem dX5_go_115 : decode cX5_go 115 = .ok (.invokestatic 81, 3) := by decide +kernel
theorem dX5_go_118 : decode cX5_go 118 = .ok (.istore 4, 2) := by decide +kernel
theorem dX5_go_120 : decode cX5_go 120 = .ok (.iinc 5 1, 3) := by decide +kernel
theorem dX5_go_123 : decode cX5_go 123 = .ok (.goto (-49), 3) := by decide +kernel
theorem dX5_go_126 : decode cX5_go 126 = .ok (.aload_n 0, 1) := by decide +kernel
theorem dX5_go_127 : decode cX5_go 127 = .ok (.dup, 1) := by decide +kernel
theorem dX5_go_128 : decode cX5_go 128 = .ok (.getfield 72, 3) := by decide +kernel
theorem dX5_go_131 : decode cX5_go 131 = .ok (.iload 4, 2) := by decide +kernel
theorem dX5_go_133 : decode cX5_go 133 = .ok (.ifCond .eq 7, 3) := by decide +kernel
theorem dX5_go_136 : decode cX5_go 136 = .ok (.iconst 1, 1) := by decide +kernel
theorem dX5_go_137 : decode cX5_go 137 = .ok (.goto 4, 3) := by decide +kernel
theorem dX5_go_140 : decode cX5_go 140 = .ok (.iconst 0, 1) := by decide +kernel
theorem dX5_go_141 : decode cX5_go 141 = .ok (.iadd, 1) := by decide +kernel
theorem dX5_go_142 : decode cX5_go 142 = .ok (.putfield 72, 3) := by decide +kernel
theorem dX5_go_145 : decode cX5_go 145 = .ok (.iinc 3 1, 3) := by decide +kernel
theorem dX5_go_148 : decode cX5_go 148 = .ok (.goto (-126), 3) := by decide +kernel
theorem dX5_go_151 : decode cX5_go 151 = .ok (.return_, 1) := by decide +kernel
set_option maxRecDepth 20000 in
theorem ggX5_addCode_X5_isType : GoodIn wsX5_addCode wsX5_isType := goodIn_r _ [8, 9, 10, 7, 11] (by decide +kernel) (by decide +kernel)
set_option maxRecDepth 20000 in
theorem gX5_addCode_X5_isType : GoodIn wsX5_addCode (va_wsS RX5 85 yX5_isType wsX5_isType) := goodIn_app (goodIn_of _ (by decide +kernel)) ggX5_addCode_X5_isType
set_option maxRecDepth 20000 in
theorem ggX5_addCode_X5_isIn : GoodIn wsX5_addCode wsX5_isIn := goodIn_r _ [11] (by decide +kernel) (by decide +kernel)
set_option maxRecDepth 20000 in
theorem gX5_addCode_X5_isIn : GoodIn wsX5_addCode (va_wsS RX5 32 yX5_isIn wsX5_isIn) := goodIn_app (goodIn_of _ (by decide +kernel)) ggX5_addCode_X5_isIn
set_option maxRecDepth 20000 in
theorem ggX5_addCode_X5_fail : GoodIn wsX5_addCode wsX5_fail := goodIn_r _ [15, 1, 16, 17, 18, 19, 20, 21, 22, 23, 24, 25, 26, 27, 28, 29, 30, 31, 32] (by decide +kernel) (by decide +kernel)
set_option maxRecDepth 20000 in
theorem gX5_addCode_X5_fail : GoodIn wsX5_addCode (wsV RX5 89 RX5 yX5_fail wsX5_fail) := goodIn_app (goodIn_of _ (by decide +kernel)) ggX5_addCode_X5_fail
theorem dX5_addCode_0 : decode cX5_addCode 0 = .ok (.aload_n 0, 1) := by decide +kernel
theorem dX5_addCode_1 : decode cX5_addCode 1 = .ok (.iconst 0, 1) := by decide +kernel
theorem dX5_addCode_2 : decode cX5_addCode 2 = .ok (.putfield 29, 3) := by decide +kernel
theorem dX5_addCode_5 : decode cX5_addCode 5 = .ok (.iload_n 1, 1) := by decide +kernel
theorem dX5_addCode_6 : decode cX5_addCode 6 = .ok (.invokestatic 85, 3) := by decide +kernel
theorem dX5_addCode_9 : decode cX5_addCode 9 = .ok (.ifCond .eq 42, 3) := by decide +kernel
theorem dX5_addCode_12 : decode cX5_addCode 12 = .ok (.iload_n 2, 1) := by decide +kernel
theorem dX5_addCode_13 : decode cX5_addCode 13 = .ok (.invokestatic 85, 3) := by decide +kernel
theorem dX5_addCode_16 : decode cX5_addCode 16 = .ok (.ifCond .eq 35, 3) := by decide +kernel
theorem dX5_addCode_19 : decode cX5_addCode 19 = .ok (.iload_n 3, 1) := by decide +kernel
theorem dX5_addCode_20 : decode cX5_addCode 20 = .ok (.iconst (-1), 1) := by decide +kernel
theorem dX5_addCode_21 : decode cX5_addCode 21 = .ok (.bipush 9, 2) := by decide +kernel
theorem dX5_addCode_23 : decode cX5_addCode 23 = .ok (.invokestatic 32, 3) := by decide +kernel
theorem dX5_addCode_26 : decode cX5_addCode 26 = .ok (.ifCond .eq 25, 3) := by decide +kernel
theorem dX5_addCode_29 : decode cX5_addCode 29 = .ok (.iload 4, 2) := by decide +kernel
theorem dX5_addCode_31 : decode cX5_addCode 31 = .ok (.iconst (-1), 1) := by decide +kernel
theorem dX5_addCode_32 : decode cX5_addCode 32 = .ok (.bipush 9, 2) := by decide +kernel
theorem dX5_addCode_34 : decode cX5_addCode 34 = .ok (.invokestatic 32, 3) := by decide +kernel
theorem dX5_addCode_37 : decode cX5_addCode 37 = .ok (.ifCond .eq 14, 3) := by decide +kernel
theorem dX5_addCode_40 : decode cX5_addCode 40 = .ok (.iload_n 3, 1) := by decide +kernel
theorem dX5_addCode_41 : decode cX5_addCode 41 = .ok (.iconst (-1), 1) := by decide +kernel
theorem dX5_addCode_42 : decode cX5_addCode 42 = .ok (.if_icmp .ne 15, 3) := by decide +kernel
theorem dX5_addCode_45 : decode cX5_addCode 45 = .ok (.iload 4, 2) := by decide +kernel
theorem dX5_addCode_47 : decode cX5_addCode 47 = .ok (.iconst (-1), 1) := by decide +kernel
theorem dX5_addCode_48 : decode cX5_addCode 48 = .ok (.if_icmp .eq 9, 3) := by decide +kernel
theorem dX5_addCode_51 : decode cX5_addCode 51 = .ok (.aload_n 0, 1) := by decide +kernel
theorem dX5_addCode_52 : decode cX5_addCode 52 = .ok (.iconst 1, 1) := by decide +kernel
theorem dX5_addCode_53 : decode cX5_addCode 53 = .ok (.invokevirtual 89, 3) := by decide +kernel
theorem dX5_addCode_56 : decode cX5_addCode 56 = .ok (.ireturn, 1) := by decide +kernel
theorem dX5_addCode_57 : decode cX5_addCode 57 = .ok (.bipush 11, 2) := by decide +kernel
theorem dX5_addCode_59 : decode cX5_addCode 59 = .ok (.iload_n 1, 1) := by decide +kernel
theorem dX5_addCode_60 : decode cX5_addCode 60 = .ok (.iconst 1, 1) := by decide +kernel
theorem dX5_addCode_61 : decode cX5_addCode 61 = .ok (.iadd, 1) := by decide +kernel
theorem dX5_addCode_62 : decode cX5_addCode 62 = .ok (.imul, 1) := by decide +kernel
theorem dX5_addCode_63 : decode cX5_addCode 63 = .ok (.iload_n 2, 1) := by decide +kernel
theorem dX5_addCode_64 : decode cX5_addCode 64 = .ok (.iadd, 1) := by decide +kernel
theorem dX5_addCode_65 : decode cX5_addCode 65 = .ok (.iconst 1, 1) := by decide +kernel
theorem dX5_addCode_66 : decode cX5_addCode 66 = .ok (.iadd, 1) := by decide +kernel
theorem dX5_addCode_67 : decode cX5_addCode 67 = .ok (.istore 5, 2) := by decide +kernel
theorem dX5_addCode_69 : decode cX5_addCode 69 = .ok (.iload_n 3, 1) := by decide +kernel
theorem dX5_addCode_70 : decode cX5_addCode 70 = .ok (.iconst (-1), 1) := by decide +kernel
theorem dX5_addCode_71 : decode cX5_addCode 71 = .ok (.if_icmp .eq 14, 3) := by decide +kernel
theorem dX5_addCode_74 : decode cX5_addCode 74 = .ok (.bipush 11, 2) := by decide +kernel
theorem dX5_addCode_76 : decode cX5_addCode 76 = .ok (.iload 5, 2) := by decide +kernel
theorem dX5_addCode_78 : decode cX5_addCode 78 = .ok (.imul, 1) := by decide +kernel
theorem dX5_addCode_79 : decode cX5_addCode 79 = .ok (.iload_n 3, 1) := by decide +kernel
theorem dX5_addCode_80 : decode cX5_addCode 80 = .ok (.iadd, 1) := by decide +kernel
theorem dX5_addCode_81 : decode cX5_addCode 81 = .ok (.iconst 1, 1) := by decide +kernel
theorem dX5_addCode_82 : decode cX5_addCode 82 = .ok (.iadd, 1) := by decide +kernel
theorem dX5_addCode_83 : decode cX5_addCode 83 = .ok (.istore 5, 2) := by decide +kernel
theorem dX5_addCode_85 : decode cX5_addCode 85 = .ok (.iload 4, 2) := by decide +kernel
theorem dX5_addCode_87 : decode cX5_addCode 87 = .ok (.iconst (-1), 1) := by decide +kernel
theorem dX5_addCode_88 : decode cX5_addCode 88 = .ok (.if_icmp .eq 15, 3) := by decide +kernel
theorem dX5_addCode_91 : decode cX5_addCode 91 = .ok (.bipush 11, 2) := by decide +kernel
theorem dX5_addCode_93 : decode cX5_addCode 93 = .ok (.iload 5, 2) := by decide +kernel
theorem dX5_addCode_95 : decode cX5_addCode 95 = .ok (.imul, 1) := by decide +kernel
theorem dX5_addCode_96 : decode cX5_addCode 96 = .ok (.iload 4, 2) := by decide +kernel
theorem dX5_addCode_98 : decode cX5_addCode 98 = .ok (.iadd, 1) := by decide +kernel
theorem dX5_addCode_99 : decode cX5_addCode 99 = .ok (.iconst 1, 1) := by decide +kernel
theorem dX5_addCode_100 : decode cX5_addCode 100 = .ok (.iadd, 1) := by decide +kernel
theorem dX5_addCode_101 : decode cX5_addCode 101 = .ok (.istore 5, 2) := by decide +kernel
theorem dX5_addCode_103 : decode cX5_addCode 103 = .ok (.aload_n 0, 1) := by decide +kernel
theorem dX5_addCode_104 : decode cX5_addCode 104 = .ok (.getfield 36, 3) := by decide +kernel
theorem dX5_addCode_107 : decode cX5_addCode 107 = .ok (.bipush 8, 2) := by decide +kernel
theorem dX5_addCode_109 : decode cX5_addCode 109 = .ok (.if_icmp .ne 7, 3) := by decide +kernel
theorem dX5_addCode_112 : decode cX5_addCode 112 = .ok (.iconst 1, 1) := by decide +kernel
theorem dX5_addCode_113 : decode cX5_addCode 113 = .ok (.goto 4, 3) := by decide +kernel
theorem dX5_addCode_116 : decode cX5_addCode 116 = .ok (.iconst 0, 1) := by decide +kernel
theorem dX5_addCode_117 : decode cX5_addCode 117 = .ok (.istore 6, 2) := by decide +kernel
theorem dX5_addCode_119 : decode cX5_addCode 119 = .ok (.iconst 0, 1) := by decide +kernel
theorem dX5_addCode_120 : decode cX5_addCode 120 = .ok (.istore 7, 2) := by decide +kernel
theorem dX5_addCode_122 : decode cX5_addCode 122 = .ok (.iload 7, 2) := by decide +kernel
theorem dX5_addCode_124 : decode cX5_addCode 124 = .ok (.aload_n 0, 1) := by decide +kernel
theorem dX5_addCode_125 : decode cX5_addCode 125 = .ok (.getfield 36, 3) := by decide +kernel
theorem dX5_addCode_128 : decode cX5_addCode 128 = .ok (.if_icmp .ge 33, 3) := by decide +kernel
theorem dX5_addCode_131 : decode cX5_addCode 131 = .ok (.iload 6, 2) := by decide +kernel
theorem dX5_addCode_133 : decode cX5_addCode 133 = .ok (.ifCond .ne 15, 3) := by decide +kernel
theorem dX5_addCode_136 : decode cX5_addCode 136 = .ok (.aload_n 0, 1) := by decide +kernel
theorem dX5_addCode_137 : decode cX5_addCode 137 = .ok (.getfield 9, 3) := by decide +kernel
theorem dX5_addCode_140 : decode cX5_addCode 140 = .ok (.iload 7, 2) := by decide +kernel
theorem dX5_addCode_142 : decode cX5_addCode 142 = .ok (.iaload, 1) := by decide +kernel
theorem dX5_addCode_143 : decode cX5_addCode 143 = .ok (.iload 5, 2) := by decide +kernel
theorem dX5_addCode_145 : decode cX5_addCode 145 = .ok (.if_icmp .ne 7, 3) := by decide +kernel
theorem dX5_addCode_148 : decode cX5_addCode 148 = .ok (.iconst 1, 1) := by decide +kernel
theorem dX5_addCode_149 : decode cX5_addCode 149 = .ok (.goto 4, 3) := by decide +kernel
theorem dX5_addCode_152 : decode cX5_addCode 152 = .ok (.iconst 0, 1) := by decide +kernel
theorem dX5_addCode_153 : decode cX5_addCode 153 = .ok (.istore 6, 2) := by decide +kernel
theorem dX5_addCode_155 : decode cX5_addCode 155 = .ok (.iinc 7 1, 3) := by decide +kernel
theorem dX5_addCode_158 : decode cX5_addCode 158 = .ok (.goto (-36), 3) := by decide +kernel
theorem dX5_addCode_161 : decode cX5_addCode 161 = .ok (.iload 6, 2) := by decide +kernel
theorem dX5_addCode_163 : decode cX5_addCode 163 = .ok (.ifCond .eq 9, 3) := by decide +kernel
theorem dX5_addCode_166 : decode cX5_addCode 166 = .ok (.aload_n 0, 1) := by decide +kernel
theorem dX5_addCode_167 : decode cX5_addCode 167 = .ok (.iconst 2, 1) := by decide +kernel
theorem dX5_addCode_168 : decode cX5_addCode 168 = .ok (.invokevirtual 89, 3) := by decide +kernel
theorem dX5_addCode_171 : decode cX5_addCode 171 = .ok (.ireturn, 1) := by decide +kernel
theorem dX5_addCode_172 : decode cX5_addCode 172 = .ok (.aload_n 0, 1) := by decide +kernel
theorem dX5_addCode_173 : decode cX5_addCode 173 = .ok (.getfield 9, 3) := by decide +kernel
theorem dX5_addCode_176 : decode cX5_addCode 176 = .ok (.aload_n 0, 1) := by decide +kernel
theorem dX5_addCode_177 : decode cX5_addCode 177 = .ok (.getfield 36, 3) := by decide +kernel
theorem dX5_addCode_180 : decode cX5_addCode 180 = .ok (.iload 5, 2) := by decide +kernel
theorem dX5_addCode_182 : decode cX5_addCode 182 = .ok (.iastore, 1) := by decide +kernel
theorem dX5_addCode_183 : decode cX5_addCode 183 = .ok (.aload_n 0, 1) := by decide +kernel
theorem dX5_addCode_184 : decode cX5_addCode 184 = .ok (.getfield 13, 3) := by decide +kernel
theorem dX5_addCode_187 : decode cX5_addCode 187 = .ok (.aload_n 0, 1) := by decide +kernel
theorem dX5_addCode_188 : decode cX5_addCode 188 = .ok (.getfield 36, 3) := by decide +kernel
theorem dX5_addCode_191 : decode cX5_addCode 191 = .ok (.iload_n 3, 1) := by decide +kernel
theorem dX5_addCode_192 : decode cX5_addCode 192 = .ok (.iconst (-1), 1) := by decide +kernel
theorem dX5_addCode_193 : decode cX5_addCode 193 = .ok (.if_icmp .ne 7, 3) := by decide +kernel
theorem dX5_addCode_196 : decode cX5_addCode 196 = .ok (.iconst 2, 1) := by decide +kernel
theorem dX5_addCode_197 : decode cX5_addCode 197 = .ok (.goto 14, 3) := by decide +kernel
theorem dX5_addCode_200 : decode cX5_addCode 200 = .ok (.iload 4, 2) := by decide +kernel
theorem dX5_addCode_202 : decode cX5_addCode 202 = .ok (.iconst (-1), 1) := by decide +kernel
theorem dX5_addCode_203 : decode cX5_addCode 203 = .ok (.if_icmp .ne 7, 3) := by decide +kernel
theorem dX5_addCode_206 : decode cX5_addCode 206 = .ok (.iconst 3, 1) := by decide +kernel
theorem dX5_addCode_207 : decode cX5_addCode 207 = .ok (.goto 4, 3) := by decide +kernel
theorem dX5_addCode_210 : decode cX5_addCode 210 = .ok (.iconst 4, 1) := by decide +kernel
theorem dX5_addCode_211 : decode cX5_addCode 211 = .ok (.iastore, 1) := by decide +kernel
theorem dX5_addCode_212 : decode cX5_addCode 212 = .ok (.aload_n 0, 1) := by decide +kernel
theorem dX5_addCode_213 : decode cX5_addCode 213 = .ok (.dup, 1) := by decide +kernel
theorem dX5_addCode_214 : decode cX5_addCode 214 = .ok (.getfield 36, 3) := by decide +kernel
theorem dX5_addCode_217 : decode cX5_addCode 217 = .ok (.iconst 1, 1) := by decide +kernel
theorem dX5_addCode_218 : decode cX5_addCode 218 = .ok (.iadd, 1) := by decide +kernel
theorem dX5_addCode_219 : decode cX5_addCode 219 = .ok (.putfield 36, 3) := by decide +kernel
theorem dX5_addCode_222 : decode cX5_addCode 222 = .ok (.aload_n 0, 1) := by decide +kernel
theorem dX5_addCode_223 : decode cX5_addCode 223 = .ok (.getfield 36, 3) := by decide +kernel
theorem dX5_addCode_226 : decode cX5_addCode 226 = .ok (.iconst 1, 1) := by decide +kernel
theorem dX5_addCode_227 : decode cX5_addCode 227 = .ok (.isub, 1) := by decide +kernel
theorem dX5_addCode_228 : decode cX5_addCode 228 = .ok (.ireturn, 1) := by decide +kernel
set_option maxRecDepth 20000 in
theorem ggX5_dropCode_X5_isCode : GoodIn wsX5_dropCode wsX5_isCode := goodIn_r _ [9, 3, 10, 11, 8, 12, 17, 18, 19, 20, 21, 22, 23, 24, 25, 26, 27, 28, 29, 30, 31, 32, 33] (by decide +kernel) (by decide +kernel)
set_option maxRecDepth 20000 in
theorem gX5_dropCode_X5_isCode : GoodIn wsX5_dropCode (wsV RX5 92 RX5 yX5_isCode wsX5_isCode) := goodIn_app (goodIn_of _ (by decide +kernel)) ggX5_dropCode_X5_isCode
set_option maxRecDepth 20000 in
theorem ggX5_dropCode_X5_fail : GoodIn wsX5_dropCode wsX5_fail := goodIn_r _ [16, 1, 17, 18, 19, 20, 21, 22, 23, 24, 25, 26, 27, 28, 29, 30, 31, 32, 33] (by decide +kernel) (by decide +kernel)
set_option maxRecDepth 20000 in
theorem gX5_dropCode_X5_fail : GoodIn wsX5_dropCode (wsV RX5 89 RX5 yX5_fail wsX5_fail) := goodIn_app (goodIn_of _ (by decide +kernel)) ggX5_dropCode_X5_fail
theorem dX5_dropCode_0 : decode cX5_dropCode 0 = .ok (.aload_n 0, 1) := by decide +kernel
theorem dX5_dropCode_1 : decode cX5_dropCode 1 = .ok (.iconst 0, 1) := by decide +kernel
theorem dX5_dropCode_2 : decode cX5_dropCode 2 = .ok (.putfield 29, 3) := by decide +kernel
theorem dX5_dropCode_5 : decode cX5_dropCode 5 = .ok (.aload_n 0, 1) := by decide +kernel
theorem dX5_dropCode_6 : decode cX5_dropCode 6 = .ok (.iload_n 1, 1) := by decide +kernel
theorem dX5_dropCode_7 : decode cX5_dropCode 7 = .ok (.invokevirtual 92, 3) := by decide +kernel
theorem dX5_dropCode_10 : decode cX5_dropCode 10 = .ok (.ifCond .ne 9, 3) := by decide +kernel
theorem dX5_dropCode_13 : decode cX5_dropCode 13 = .ok (.aload_n 0, 1) := by decide +kernel
theorem dX5_dropCode_14 : decode cX5_dropCode 14 = .ok (.iconst 1, 1) := by decide +kernel
theorem dX5_dropCode_15 : decode cX5_dropCode 15 = .ok (.invokevirtual 89, 3) := by decide +kernel
theorem dX5_dropCode_18 : decode cX5_dropCode 18 = .ok (.ireturn, 1) := by decide +kernel
theorem dX5_dropCode_19 : decode cX5_dropCode 19 = .ok (.aload_n 0, 1) := by decide +kernel
theorem dX5_dropCode_20 : decode cX5_dropCode 20 = .ok (.getfield 13, 3) := by decide +kernel
theorem dX5_dropCode_23 : decode cX5_dropCode 23 = .ok (.iload_n 1, 1) := by decide +kernel
theorem dX5_dropCode_24 : decode cX5_dropCode 24 = .ok (.iaload, 1) := by decide +kernel
theorem dX5_dropCode_25 : decode cX5_dropCode 25 = .ok (.istore_n 2, 1) := by decide +kernel
theorem dX5_dropCode_26 : decode cX5_dropCode 26 = .ok (.aload_n 0, 1) := by decide +kernel
theorem dX5_dropCode_27 : decode cX5_dropCode 27 = .ok (.dup, 1) := by decide +kernel
theorem dX5_dropCode_28 : decode cX5_dropCode 28 = .ok (.getfield 36, 3) := by decide +kernel
theorem dX5_dropCode_31 : decode cX5_dropCode 31 = .ok (.iconst 1, 1) := by decide +kernel
theorem dX5_dropCode_32 : decode cX5_dropCode 32 = .ok (.isub, 1) := by decide +kernel
theorem dX5_dropCode_33 : decode cX5_dropCode 33 = .ok (.putfield 36, 3) := by decide +kernel
theorem dX5_dropCode_36 : decode cX5_dropCode 36 = .ok (.iload_n 1, 1) := by decide +kernel
theorem dX5_dropCode_37 : decode cX5_dropCode 37 = .ok (.istore_n 3, 1) := by decide +kernel
theorem dX5_dropCode_38 : decode cX5_dropCode 38 = .ok (.iload_n 3, 1) := by decide +kernel
theorem dX5_dropCode_39 : decode cX5_dropCode 39 = .ok (.aload_n 0, 1) := by decide +kernel
theorem dX5_dropCode_40 : decode cX5_dropCode 40 = .ok (.getfield 36, 3) := by decide +kernel
theorem dX5_dropCode_43 : decode cX5_dropCode 43 = .ok (.if_icmp .ge 37, 3) := by decide +kernel
theorem dX5_dropCode_46 : decode cX5_dropCode 46 = .ok (.aload_n 0, 1) := by decide +kernel
theorem dX5_dropCode_47 : decode cX5_dropCode 47 = .ok (.getfield 9, 3) := by decide +kernel
theorem dX5_dropCode_50 : decode cX5_dropCode 50 = .ok (.iload_n 3, 1) := by decide +kernel
theorem dX5_dropCode_51 : decode cX5_dropCode 51 = .ok (.aload_n 0, 1) := by decide +kernel
theorem dX5_dropCode_52 : decode cX5_dropCode 52 = .ok (.getfield 9, 3) := by decide +kernel
theorem dX5_dropCode_55 : decode cX5_dropCode 55 = .ok (.iload_n 3, 1) := by decide +kernel
theorem dX5_dropCode_56 : decode cX5_dropCode 56 = .ok (.iconst 1, 1) := by decide +kernel
theorem dX5_dropCode_57 : decode cX5_dropCode 57 = .ok (.iadd, 1) := by decide +kernel
theorem dX5_dropCode_58 : decode cX5_dropCode 58 = .ok (.iaload, 1) := by decide +kernel
theorem dX5_dropCode_59 : decode cX5_dropCode 59 = .ok (.iastore, 1) := by decide +kernel
theorem dX5_dropCode_60 : decode cX5_dropCode 60 = .ok (.aload_n 0, 1) := by decide +kernel
theorem dX5_dropCode_61 : decode cX5_dropCode 61 = .ok (.getfield 13, 3) := by decide +kernel
theorem dX5_dropCode_64 : decode cX5_dropCode 64 = .ok (.iload_n 3, 1) := by decide +kernel
theorem dX5_dropCode_65 : decode cX5_dropCode 65 = .ok (.aload_n 0, 1) := by decide +kernel
theorem dX5_dropCode_66 : decode cX5_dropCode 66 = .ok (.getfield 13, 3) := by decide +kernel
theorem dX5_dropCode_69 : decode cX5_dropCode 69 = .ok (.iload_n 3, 1) := by decide +kernel
theorem dX5_dropCode_70 : decode cX5_dropCode 70 = .ok (.iconst 1, 1) := by decide +kernel
theorem dX5_dropCode_71 : decode cX5_dropCode 71 = .ok (.iadd, 1) := by decide +kernel
theorem dX5_dropCode_72 : decode cX5_dropCode 72 = .ok (.iaload, 1) := by decide +kernel
theorem dX5_dropCode_73 : decode cX5_dropCode 73 = .ok (.iastore, 1) := by decide +kernel
theorem dX5_dropCode_74 : decode cX5_dropCode 74 = .ok (.iinc 3 1, 3) := by decide +kernel
theorem dX5_dropCode_77 : decode cX5_dropCode 77 = .ok (.goto (-39), 3) := by decide +kernel
theorem dX5_dropCode_80 : decode cX5_dropCode 80 = .ok (.iload_n 2, 1) := by decide +kernel
theorem dX5_dropCode_81 : decode cX5_dropCode 81 = .ok (.ireturn, 1) := by decide +kernel
set_option maxRecDepth 20000 in
theorem ggX5_codes_X5_told : GoodIn wsX5_codes wsX5_told := goodIn_r _ [6, 7, 8, 9, 10, 11, 12, 13, 14, 15, 16, 17, 18, 19, 20, 21, 22, 23, 24] (by decide +kernel) (by decide +kernel)
set_option maxRecDepth 20000 in
theorem gX5_codes_X5_told : GoodIn wsX5_codes (wsV RX5 95 RX5 yX5_told wsX5_told) := goodIn_app (goodIn_of _ (by decide +kernel)) ggX5_codes_X5_told
theorem dX5_codes_0 : decode cX5_codes 0 = .ok (.aload_n 0, 1) := by decide +kernel
theorem dX5_codes_1 : decode cX5_codes 1 = .ok (.aload_n 0, 1) := by decide +kernel
theorem dX5_codes_2 : decode cX5_codes 2 = .ok (.getfield 36, 3) := by decide +kernel
theorem dX5_codes_5 : decode cX5_codes 5 = .ok (.invokevirtual 95, 3) := by decide +kernel
theorem dX5_codes_8 : decode cX5_codes 8 = .ok (.ireturn, 1) := by decide +kernel
set_option maxRecDepth 20000 in
theorem ggX5_lengthOf_X5_isCode : GoodIn wsX5_lengthOf wsX5_isCode := goodIn_r _ [7, 8, 9, 10, 6, 11, 16, 17, 18, 19, 20, 21, 22, 23, 24, 25, 26, 27, 28, 29, 30, 31, 32] (by decide +kernel) (by decide +kernel)
set_option maxRecDepth 20000 in
theorem gX5_lengthOf_X5_isCode : GoodIn wsX5_lengthOf (wsV RX5 92 RX5 yX5_isCode wsX5_isCode) := goodIn_app (goodIn_of _ (by decide +kernel)) ggX5_lengthOf_X5_isCode
set_option maxRecDepth 20000 in
theorem ggX5_lengthOf_X5_fail : GoodIn wsX5_lengthOf wsX5_fail := goodIn_r _ [15, 1, 16, 17, 18, 19, 20, 21, 22, 23, 24, 25, 26, 27, 28, 29, 30, 31, 32] (by decide +kernel) (by decide +kernel)
set_option maxRecDepth 20000 in
theorem gX5_lengthOf_X5_fail : GoodIn wsX5_lengthOf (wsV RX5 89 RX5 yX5_fail wsX5_fail) := goodIn_app (goodIn_of _ (by decide +kernel)) ggX5_lengthOf_X5_fail
theorem dX5_lengthOf_0 : decode cX5_lengthOf 0 = .ok (.aload_n 0, 1) := by decide +kernel
theorem dX5_lengthOf_1 : decode cX5_lengthOf 1 = .ok (.iconst 0, 1) := by decide +kernel
theorem dX5_lengthOf_2 : decode cX5_lengthOf 2 = .ok (.putfield 29, 3) := by decide +kernel
theorem dX5_lengthOf_5 : decode cX5_lengthOf 5 = .ok (.aload_n 0, 1) := by decide +kernel
theorem dX5_lengthOf_6 : decode cX5_lengthOf 6 = .ok (.iload_n 1, 1) := by decide +kernel
theorem dX5_lengthOf_7 : decode cX5_lengthOf 7 = .ok (.invokevirtual 92, 3) := by decide +kernel
theorem dX5_lengthOf_10 : decode cX5_lengthOf 10 = .ok (.ifCond .eq 12, 3) := by decide +kernel
theorem dX5_lengthOf_13 : decode cX5_lengthOf 13 = .ok (.aload_n 0, 1) := by decide +kernel
theorem dX5_lengthOf_14 : decode cX5_lengthOf 14 = .ok (.getfield 13, 3) := by decide +kernel
theorem dX5_lengthOf_17 : decode cX5_lengthOf 17 = .ok (.iload_n 1, 1) := by decide +kernel
theorem dX5_lengthOf_18 : decode cX5_lengthOf 18 = .ok (.iaload, 1) := by decide +kernel
theorem dX5_lengthOf_19 : decode cX5_lengthOf 19 = .ok (.goto 8, 3) := by decide +kernel
theorem dX5_lengthOf_22 : decode cX5_lengthOf 22 = .ok (.aload_n 0, 1) := by decide +kernel
theorem dX5_lengthOf_23 : decode cX5_lengthOf 23 = .ok (.iconst 1, 1) := by decide +kernel
theorem dX5_lengthOf_24 : decode cX5_lengthOf 24 = .ok (.invokevirtual 89, 3) := by decide +kernel
theorem dX5_lengthOf_27 : decode cX5_lengthOf 27 = .ok (.ireturn, 1) := by decide +kernel
set_option maxRecDepth 20000 in
theorem ggX5_write_X5_isType : GoodIn wsX5_write wsX5_isType := goodIn_r _ [7, 8, 9, 6, 10] (by decide +kernel) (by decide +kernel)
set_option maxRecDepth 20000 in
theorem gX5_write_X5_isType : GoodIn wsX5_write (va_wsS RX5 85 yX5_isType wsX5_isType) := goodIn_app (goodIn_of _ (by decide +kernel)) ggX5_write_X5_isType
set_option maxRecDepth 20000 in
theorem ggX5_write_X5_fail : GoodIn wsX5_write wsX5_fail := goodIn_r _ [14, 1, 15, 16, 17, 18, 19, 20, 21, 22, 23, 24, 25, 26, 27, 28, 29, 30, 31] (by decide +kernel) (by decide +kernel)
set_option maxRecDepth 20000 in
theorem gX5_write_X5_fail : GoodIn wsX5_write (wsV RX5 89 RX5 yX5_fail wsX5_fail) := goodIn_app (goodIn_of _ (by decide +kernel)) ggX5_write_X5_fail
theorem dX5_write_0 : decode cX5_write 0 = .ok (.aload_n 0, 1) := by decide +kernel
theorem dX5_write_1 : decode cX5_write 1 = .ok (.iconst 0, 1) := by decide +kernel
theorem dX5_write_2 : decode cX5_write 2 = .ok (.putfield 29, 3) := by decide +kernel
theorem dX5_write_5 : decode cX5_write 5 = .ok (.iload_n 1, 1) := by decide +kernel
theorem dX5_write_6 : decode cX5_write 6 = .ok (.invokestatic 85, 3) := by decide +kernel
theorem dX5_write_9 : decode cX5_write 9 = .ok (.ifCond .ne 9, 3) := by decide +kernel
theorem dX5_write_12 : decode cX5_write 12 = .ok (.aload_n 0, 1) := by decide +kernel
theorem dX5_write_13 : decode cX5_write 13 = .ok (.iconst 1, 1) := by decide +kernel
theorem dX5_write_14 : decode cX5_write 14 = .ok (.invokevirtual 89, 3) := by decide +kernel
theorem dX5_write_17 : decode cX5_write 17 = .ok (.ireturn, 1) := by decide +kernel
theorem dX5_write_18 : decode cX5_write 18 = .ok (.aload_n 0, 1) := by decide +kernel
theorem dX5_write_19 : decode cX5_write 19 = .ok (.getfield 39, 3) := by decide +kernel
theorem dX5_write_22 : decode cX5_write 22 = .ok (.bipush 24, 2) := by decide +kernel
theorem dX5_write_24 : decode cX5_write 24 = .ok (.if_icmp .ne 9, 3) := by decide +kernel
theorem dX5_write_27 : decode cX5_write 27 = .ok (.aload_n 0, 1) := by decide +kernel
theorem dX5_write_28 : decode cX5_write 28 = .ok (.iconst 2, 1) := by decide +kernel
theorem dX5_write_29 : decode cX5_write 29 = .ok (.invokevirtual 89, 3) := by decide +kernel
theorem dX5_write_32 : decode cX5_write 32 = .ok (.ireturn, 1) := by decide +kernel
theorem dX5_write_33 : decode cX5_write 33 = .ok (.aload_n 0, 1) := by decide +kernel
theorem dX5_write_34 : decode cX5_write 34 = .ok (.getfield 16, 3) := by decide +kernel
theorem dX5_write_37 : decode cX5_write 37 = .ok (.aload_n 0, 1) := by decide +kernel
theorem dX5_write_38 : decode cX5_write 38 = .ok (.getfield 39, 3) := by decide +kernel
theorem dX5_write_41 : decode cX5_write 41 = .ok (.iload_n 1, 1) := by decide +kernel
theorem dX5_write_42 : decode cX5_write 42 = .ok (.iastore, 1) := by decide +kernel
theorem dX5_write_43 : decode cX5_write 43 = .ok (.aload_n 0, 1) := by decide +kernel
theorem dX5_write_44 : decode cX5_write 44 = .ok (.dup, 1) := by decide +kernel
theorem dX5_write_45 : decode cX5_write 45 = .ok (.getfield 39, 3) := by decide +kernel
theorem dX5_write_48 : decode cX5_write 48 = .ok (.iconst 1, 1) := by decide +kernel
theorem dX5_write_49 : decode cX5_write 49 = .ok (.iadd, 1) := by decide +kernel
theorem dX5_write_50 : decode cX5_write 50 = .ok (.putfield 39, 3) := by decide +kernel
theorem dX5_write_53 : decode cX5_write 53 = .ok (.aload_n 0, 1) := by decide +kernel
theorem dX5_write_54 : decode cX5_write 54 = .ok (.getfield 39, 3) := by decide +kernel
theorem dX5_write_57 : decode cX5_write 57 = .ok (.ireturn, 1) := by decide +kernel
set_option maxRecDepth 20000 in
theorem ggX5_strike_X5_fail : GoodIn wsX5_strike wsX5_fail := goodIn_r _ [8, 1, 9, 10, 11, 12, 13, 14, 15, 16, 17, 18, 19, 20, 21, 22, 23, 24, 25] (by decide +kernel) (by decide +kernel)
set_option maxRecDepth 20000 in
theorem gX5_strike_X5_fail : GoodIn wsX5_strike (wsV RX5 89 RX5 yX5_fail wsX5_fail) := goodIn_app (goodIn_of _ (by decide +kernel)) ggX5_strike_X5_fail
theorem dX5_strike_0 : decode cX5_strike 0 = .ok (.aload_n 0, 1) := by decide +kernel
theorem dX5_strike_1 : decode cX5_strike 1 = .ok (.iconst 0, 1) := by decide +kernel
theorem dX5_strike_2 : decode cX5_strike 2 = .ok (.putfield 29, 3) := by decide +kernel
theorem dX5_strike_5 : decode cX5_strike 5 = .ok (.aload_n 0, 1) := by decide +kernel
theorem dX5_strike_6 : decode cX5_strike 6 = .ok (.getfield 39, 3) := by decide +kernel
theorem dX5_strike_9 : decode cX5_strike 9 = .ok (.ifCond .ne 9, 3) := by decide +kernel
theorem dX5_strike_12 : decode cX5_strike 12 = .ok (.aload_n 0, 1) := by decide +kernel
theorem dX5_strike_13 : decode cX5_strike 13 = .ok (.iconst 1, 1) := by decide +kernel
theorem dX5_strike_14 : decode cX5_strike 14 = .ok (.invokevirtual 89, 3) := by decide +kernel
theorem dX5_strike_17 : decode cX5_strike 17 = .ok (.ireturn, 1) := by decide +kernel
theorem dX5_strike_18 : decode cX5_strike 18 = .ok (.aload_n 0, 1) := by decide +kernel
theorem dX5_strike_19 : decode cX5_strike 19 = .ok (.dup, 1) := by decide +kernel
theorem dX5_strike_20 : decode cX5_strike 20 = .ok (.getfield 39, 3) := by decide +kernel
theorem dX5_strike_23 : decode cX5_strike 23 = .ok (.iconst 1, 1) := by decide +kernel
theorem dX5_strike_24 : decode cX5_strike 24 = .ok (.isub, 1) := by decide +kernel
theorem dX5_strike_25 : decode cX5_strike 25 = .ok (.putfield 39, 3) := by decide +kernel
theorem dX5_strike_28 : decode cX5_strike 28 = .ok (.aload_n 0, 1) := by decide +kernel
theorem dX5_strike_29 : decode cX5_strike 29 = .ok (.getfield 16, 3) := by decide +kernel
theorem dX5_strike_32 : decode cX5_strike 32 = .ok (.aload_n 0, 1) := by decide +kernel
theorem dX5_strike_33 : decode cX5_strike 33 = .ok (.getfield 39, 3) := by decide +kernel
theorem dX5_strike_36 : decode cX5_strike 36 = .ok (.iaload, 1) := by decide +kernel
theorem dX5_strike_37 : decode cX5_strike 37 = .ok (.ireturn, 1) := by decide +kernel
set_option maxRecDepth 20000 in
theorem ggX5_clear_X5_told : GoodIn wsX5_clear wsX5_told := goodIn_r _ [6, 7, 8, 9, 10, 11, 12, 13, 14, 15, 16, 17, 18, 19, 20, 21, 22, 23, 24] (by decide +kernel) (by decide +kernel)
set_option maxRecDepth 20000 in
theorem gX5_clear_X5_told : GoodIn wsX5_clear (wsV RX5 95 RX5 yX5_told wsX5_told) := goodIn_app (goodIn_of _ (by decide +kernel)) ggX5_clear_X5_told
theorem dX5_clear_0 : decode cX5_clear 0 = .ok (.aload_n 0, 1) := by decide +kernel
theorem dX5_clear_1 : decode cX5_clear 1 = .ok (.getfield 39, 3) := by decide +kernel
theorem dX5_clear_4 : decode cX5_clear 4 = .ok (.istore_n 1, 1) := by decide +kernel
theorem dX5_clear_5 : decode cX5_clear 5 = .ok (.aload_n 0, 1) := by decide +kernel
theorem dX5_clear_6 : decode cX5_clear 6 = .ok (.iconst 0, 1) := by decide +kernel
theorem dX5_clear_7 : decode cX5_clear 7 = .ok (.putfield 39, 3) := by decide +kernel
theorem dX5_clear_10 : decode cX5_clear 10 = .ok (.aload_n 0, 1) := by decide +kernel
theorem dX5_clear_11 : decode cX5_clear 11 = .ok (.iload_n 1, 1) := by decide +kernel
theorem dX5_clear_12 : decode cX5_clear 12 = .ok (.invokevirtual 95, 3) := by decide +kernel
theorem dX5_clear_15 : decode cX5_clear 15 = .ok (.ireturn, 1) := by decide +kernel
set_option maxRecDepth 20000 in
theorem ggX5_words_X5_told : GoodIn wsX5_words wsX5_told := goodIn_r _ [6, 7, 8, 9, 10, 11, 12, 13, 14, 15, 16, 17, 18, 19, 20, 21, 22, 23, 24] (by decide +kernel) (by decide +kernel)
set_option maxRecDepth 20000 in
theorem gX5_words_X5_told : GoodIn wsX5_words (wsV RX5 95 RX5 yX5_told wsX5_told) := goodIn_app (goodIn_of _ (by decide +kernel)) ggX5_words_X5_told
theorem dX5_words_0 : decode cX5_words 0 = .ok (.aload_n 0, 1) := by decide +kernel
theorem dX5_words_1 : decode cX5_words 1 = .ok (.aload_n 0, 1) := by decide +kernel
theorem dX5_words_2 : decode cX5_words 2 = .ok (.getfield 39, 3) := by decide +kernel
theorem dX5_words_5 : decode cX5_words 5 = .ok (.invokevirtual 95, 3) := by decide +kernel
theorem dX5_words_8 : decode cX5_words 8 = .ok (.ireturn, 1) := by decide +kernel
set_option maxRecDepth 20000 in
theorem ggX5_typeOf_X5_isIn : GoodIn wsX5_typeOf wsX5_isIn := goodIn_r _ [7] (by decide +kernel) (by decide +kernel)
set_option maxRecDepth 20000 in
theorem gX5_typeOf_X5_isIn : GoodIn wsX5_typeOf (va_wsS RX5 32 yX5_isIn wsX5_isIn) := goodIn_app (goodIn_of _ (by decide +kernel)) ggX5_typeOf_X5_isIn
set_option maxRecDepth 20000 in
theorem ggX5_typeOf_X5_fail : GoodIn wsX5_typeOf wsX5_fail := goodIn_r _ [11, 1, 12, 13, 14, 15, 16, 17, 18, 19, 20, 21, 22, 23, 24, 25, 26, 27, 28] (by decide +kernel) (by decide +kernel)
set_option maxRecDepth 20000 in
theorem gX5_typeOf_X5_fail : GoodIn wsX5_typeOf (wsV RX5 89 RX5 yX5_fail wsX5_fail) := goodIn_app (goodIn_of _ (by decide +kernel)) ggX5_typeOf_X5_fail
theorem dX5_typeOf_0 : decode cX5_typeOf 0 = .ok (.aload_n 0, 1) := by decide +kernel
theorem dX5_typeOf_1 : decode cX5_typeOf 1 = .ok (.iconst 0, 1) := by decide +kernel
theorem dX5_typeOf_2 : decode cX5_typeOf 2 = .ok (.putfield 29, 3) := by decide +kernel
theorem dX5_typeOf_5 : decode cX5_typeOf 5 = .ok (.iload_n 1, 1) := by decide +kernel
theorem dX5_typeOf_6 : decode cX5_typeOf 6 = .ok (.iconst 0, 1) := by decide +kernel
theorem dX5_typeOf_7 : decode cX5_typeOf 7 = .ok (.aload_n 0, 1) := by decide +kernel
theorem dX5_typeOf_8 : decode cX5_typeOf 8 = .ok (.getfield 39, 3) := by decide +kernel
theorem dX5_typeOf_11 : decode cX5_typeOf 11 = .ok (.iconst 1, 1) := by decide +kernel
theorem dX5_typeOf_12 : decode cX5_typeOf 12 = .ok (.isub, 1) := by decide +kernel
theorem dX5_typeOf_13 : decode cX5_typeOf 13 = .ok (.invokestatic 32, 3) := by decide +kernel
theorem dX5_typeOf_16 : decode cX5_typeOf 16 = .ok (.ifCond .eq 12, 3) := by decide +kernel
theorem dX5_typeOf_19 : decode cX5_typeOf 19 = .ok (.aload_n 0, 1) := by decide +kernel
theorem dX5_typeOf_20 : decode cX5_typeOf 20 = .ok (.getfield 16, 3) := by decide +kernel
theorem dX5_typeOf_23 : decode cX5_typeOf 23 = .ok (.iload_n 1, 1) := by decide +kernel
theorem dX5_typeOf_24 : decode cX5_typeOf 24 = .ok (.iaload, 1) := by decide +kernel
theorem dX5_typeOf_25 : decode cX5_typeOf 25 = .ok (.goto 8, 3) := by decide +kernel
theorem dX5_typeOf_28 : decode cX5_typeOf 28 = .ok (.aload_n 0, 1) := by decide +kernel
theorem dX5_typeOf_29 : decode cX5_typeOf 29 = .ok (.iconst 1, 1) := by decide +kernel
theorem dX5_typeOf_30 : decode cX5_typeOf 30 = .ok (.invokevirtual 89, 3) := by decide +kernel
theorem dX5_typeOf_33 : decode cX5_typeOf 33 = .ok (.ireturn, 1) := by decide +kernel
set_option maxRecDepth 20000 in
theorem ggX5_groups_X5_all : GoodIn wsX5_groups wsX5_all := goodIn_r _ [5, 6, 7, 8, 9, 10, 4, 11, 12, 13, 14, 15, 16, 17, 18, 19, 20, 26, 27, 28, 29, 30, 31, 32, 33, 34, 35, 36, 37, 38, 39, 40, 41, 42] (by decide +kernel) (by decide +kernel)
set_option maxRecDepth 20000 in
theorem gX5_groups_X5_all : GoodIn wsX5_groups (wsV RX5 98 RX5 yX5_all wsX5_all) := goodIn_app (goodIn_of _ (by decide +kernel)) ggX5_groups_X5_all
set_option maxRecDepth 20000 in
theorem ggX5_groups_X5_told : GoodIn wsX5_groups wsX5_told := goodIn_r _ [24, 25, 26, 27, 28, 29, 30, 31, 32, 33, 34, 35, 36, 37, 38, 39, 40, 41, 42] (by decide +kernel) (by decide +kernel)
set_option maxRecDepth 20000 in
theorem gX5_groups_X5_told : GoodIn wsX5_groups (wsV RX5 95 RX5 yX5_told wsX5_told) := goodIn_app (goodIn_of _ (by decide +kernel)) ggX5_groups_X5_told
theorem dX5_groups_0 : decode cX5_groups 0 = .ok (.aload_n 0, 1) := by decide +kernel
theorem dX5_groups_1 : decode cX5_groups 1 = .ok (.aload_n 0, 1) := by decide +kernel
theorem dX5_groups_2 : decode cX5_groups 2 = .ok (.invokevirtual 98, 3) := by decide +kernel
theorem dX5_groups_5 : decode cX5_groups 5 = .ok (.invokevirtual 95, 3) := by decide +kernel
theorem dX5_groups_8 : decode cX5_groups 8 = .ok (.ireturn, 1) := by decide +kernel
set_option maxRecDepth 20000 in
theorem ggX5_codeOf_X5_all : GoodIn wsX5_codeOf wsX5_all := goodIn_r _ [7, 8, 9, 10, 11, 12, 6, 13, 14, 2, 15, 16, 17, 18, 19, 20, 21, 37, 38, 39, 40, 41, 42, 43, 44, 45, 46, 47, 48, 49, 50, 51, 52, 53] (by decide +kernel) (by decide +kernel)
set_option maxRecDepth 20000 in
theorem gX5_codeOf_X5_all : GoodIn wsX5_codeOf (wsV RX5 98 RX5 yX5_all wsX5_all) := goodIn_app (goodIn_of _ (by decide +kernel)) ggX5_codeOf_X5_all
set_option maxRecDepth 20000 in
theorem ggX5_codeOf_X5_isIn : GoodIn wsX5_codeOf wsX5_isIn := goodIn_r _ [24] (by decide +kernel) (by decide +kernel)
set_option maxRecDepth 20000 in
theorem gX5_codeOf_X5_isIn : GoodIn wsX5_codeOf (va_wsS RX5 32 yX5_isIn wsX5_isIn) := goodIn_app (goodIn_of _ (by decide +kernel)) ggX5_codeOf_X5_isIn
set_option maxRecDepth 20000 in
theorem ggX5_codeOf_X5_start : GoodIn wsX5_codeOf wsX5_start := goodIn_r _ [28, 29, 30, 31, 6, 32, 2, 15, 37, 38, 39, 40, 41, 42, 43, 44, 45, 46, 47, 48, 49, 50, 51, 52, 53] (by decide +kernel) (by decide +kernel)
set_option maxRecDepth 20000 in
theorem gX5_codeOf_X5_start : GoodIn wsX5_codeOf (wsV RX5 101 RX5 yX5_start wsX5_start) := goodIn_app (goodIn_of _ (by decide +kernel)) ggX5_codeOf_X5_start
set_option maxRecDepth 20000 in
theorem ggX5_codeOf_X5_fail : GoodIn wsX5_codeOf wsX5_fail := goodIn_r _ [36, 1, 37, 38, 39, 40, 41, 42, 43, 44, 45, 46, 47, 48, 49, 50, 51, 52, 53] (by decide +kernel) (by decide +kernel)
set_option maxRecDepth 20000 in
theorem gX5_codeOf_X5_fail : GoodIn wsX5_codeOf (wsV RX5 89 RX5 yX5_fail wsX5_fail) := goodIn_app (goodIn_of _ (by decide +kernel)) ggX5_codeOf_X5_fail
theorem dX5_codeOf_0 : decode cX5_codeOf 0 = .ok (.aload_n 0, 1) := by decide +kernel
theorem dX5_codeOf_1 : decode cX5_codeOf 1 = .ok (.iconst 0, 1) := by decide +kernel
theorem dX5_codeOf_2 : decode cX5_codeOf 2 = .ok (.putfield 29, 3) := by decide +kernel
theorem dX5_codeOf_5 : decode cX5_codeOf 5 = .ok (.iload_n 1, 1) := by decide +kernel
theorem dX5_codeOf_6 : decode cX5_codeOf 6 = .ok (.iconst 0, 1) := by decide +kernel
theorem dX5_codeOf_7 : decode cX5_codeOf 7 = .ok (.aload_n 0, 1) := by decide +kernel
theorem dX5_codeOf_8 : decode cX5_codeOf 8 = .ok (.invokevirtual 98, 3) := by decide +kernel
theorem dX5_codeOf_11 : decode cX5_codeOf 11 = .ok (.iconst 1, 1) := by decide +kernel
theorem dX5_codeOf_12 : decode cX5_codeOf 12 = .ok (.isub, 1) := by decide +kernel
theorem dX5_codeOf_13 : decode cX5_codeOf 13 = .ok (.invokestatic 32, 3) := by decide +kernel
theorem dX5_codeOf_16 : decode cX5_codeOf 16 = .ok (.ifCond .eq 16, 3) := by decide +kernel
theorem dX5_codeOf_19 : decode cX5_codeOf 19 = .ok (.aload_n 0, 1) := by decide +kernel
theorem dX5_codeOf_20 : decode cX5_codeOf 20 = .ok (.getfield 26, 3) := by decide +kernel
theorem dX5_codeOf_23 : decode cX5_codeOf 23 = .ok (.aload_n 0, 1) := by decide +kernel
theorem dX5_codeOf_24 : decode cX5_codeOf 24 = .ok (.iload_n 1, 1) := by decide +kernel
theorem dX5_codeOf_25 : decode cX5_codeOf 25 = .ok (.invokevirtual 101, 3) := by decide +kernel
theorem dX5_codeOf_28 : decode cX5_codeOf 28 = .ok (.iaload, 1) := by decide +kernel
theorem dX5_codeOf_29 : decode cX5_codeOf 29 = .ok (.goto 8, 3) := by decide +kernel
theorem dX5_codeOf_32 : decode cX5_codeOf 32 = .ok (.aload_n 0, 1) := by decide +kernel
theorem dX5_codeOf_33 : decode cX5_codeOf 33 = .ok (.iconst 1, 1) := by decide +kernel
theorem dX5_codeOf_34 : decode cX5_codeOf 34 = .ok (.invokevirtual 89, 3) := by decide +kernel
theorem dX5_codeOf_37 : decode cX5_codeOf 37 = .ok (.ireturn, 1) := by decide +kernel
set_option maxRecDepth 20000 in
theorem ggX5_startOf_X5_all : GoodIn wsX5_startOf wsX5_all := goodIn_r _ [6, 7, 8, 9, 10, 11, 5, 12, 13, 14, 15, 16, 17, 18, 19, 20, 21, 37, 38, 39, 40, 41, 42, 43, 44, 45, 46, 47, 48, 49, 50, 51, 52, 53] (by decide +kernel) (by decide +kernel)
set_option maxRecDepth 20000 in
theorem gX5_startOf_X5_all : GoodIn wsX5_startOf (wsV RX5 98 RX5 yX5_all wsX5_all) := goodIn_app (goodIn_of _ (by decide +kernel)) ggX5_startOf_X5_all
set_option maxRecDepth 20000 in
theorem ggX5_startOf_X5_isIn : GoodIn wsX5_startOf wsX5_isIn := goodIn_r _ [24] (by decide +kernel) (by decide +kernel)
set_option maxRecDepth 20000 in
theorem gX5_startOf_X5_isIn : GoodIn wsX5_startOf (va_wsS RX5 32 yX5_isIn wsX5_isIn) := goodIn_app (goodIn_of _ (by decide +kernel)) ggX5_startOf_X5_isIn
set_option maxRecDepth 20000 in
theorem ggX5_startOf_X5_start : GoodIn wsX5_startOf wsX5_start := goodIn_r _ [28, 29, 30, 31, 5, 32, 14, 15, 37, 38, 39, 40, 41, 42, 43, 44, 45, 46, 47, 48, 49, 50, 51, 52, 53] (by decide +kernel) (by decide +kernel)
set_option maxRecDepth 20000 in
theorem gX5_startOf_X5_start : GoodIn wsX5_startOf (wsV RX5 101 RX5 yX5_start wsX5_start) := goodIn_app (goodIn_of _ (by decide +kernel)) ggX5_startOf_X5_start
set_option maxRecDepth 20000 in
theorem ggX5_startOf_X5_fail : GoodIn wsX5_startOf wsX5_fail := goodIn_r _ [36, 1, 37, 38, 39, 40, 41, 42, 43, 44, 45, 46, 47, 48, 49, 50, 51, 52, 53] (by decide +kernel) (by decide +kernel)
set_option maxRecDepth 20000 in
theorem gX5_startOf_X5_fail : GoodIn wsX5_startOf (wsV RX5 89 RX5 yX5_fail wsX5_fail) := goodIn_app (goodIn_of _ (by decide +kernel)) ggX5_startOf_X5_fail
theorem dX5_startOf_0 : decode cX5_startOf 0 = .ok (.aload_n 0, 1) := by decide +kernel
theorem dX5_startOf_1 : decode cX5_startOf 1 = .ok (.iconst 0, 1) := by decide +kernel
theorem dX5_startOf_2 : decode cX5_startOf 2 = .ok (.putfield 29, 3) := by decide +kernel
theorem dX5_startOf_5 : decode cX5_startOf 5 = .ok (.iload_n 1, 1) := by decide +kernel
theorem dX5_startOf_6 : decode cX5_startOf 6 = .ok (.iconst 0, 1) := by decide +kernel
theorem dX5_startOf_7 : decode cX5_startOf 7 = .ok (.aload_n 0, 1) := by decide +kernel
theorem dX5_startOf_8 : decode cX5_startOf 8 = .ok (.invokevirtual 98, 3) := by decide +kernel
theorem dX5_startOf_11 : decode cX5_startOf 11 = .ok (.iconst 1, 1) := by decide +kernel
theorem dX5_startOf_12 : decode cX5_startOf 12 = .ok (.isub, 1) := by decide +kernel
theorem dX5_startOf_13 : decode cX5_startOf 13 = .ok (.invokestatic 32, 3) := by decide +kernel
theorem dX5_startOf_16 : decode cX5_startOf 16 = .ok (.ifCond .eq 11, 3) := by decide +kernel
theorem dX5_startOf_19 : decode cX5_startOf 19 = .ok (.aload_n 0, 1) := by decide +kernel
theorem dX5_startOf_20 : decode cX5_startOf 20 = .ok (.iload_n 1, 1) := by decide +kernel
theorem dX5_startOf_21 : decode cX5_startOf 21 = .ok (.invokevirtual 101, 3) := by decide +kernel
theorem dX5_startOf_24 : decode cX5_startOf 24 = .ok (.goto 8, 3) := by decide +kernel
theorem dX5_startOf_27 : decode cX5_startOf 27 = .ok (.aload_n 0, 1) := by decide +kernel
theorem dX5_startOf_28 : decode cX5_startOf 28 = .ok (.iconst 1, 1) := by decide +kernel
theorem dX5_startOf_29 : decode cX5_startOf 29 = .ok (.invokevirtual 89, 3) := by decide +kernel
theorem dX5_startOf_32 : decode cX5_startOf 32 = .ok (.ireturn, 1) := by decide +kernel
set_option maxRecDepth 20000 in
theorem ggX5_uses_X5_part : GoodIn wsX5_uses wsX5_part := goodIn_r _ [8, 9, 2, 3, 10, 11, 12, 13, 14, 7, 15, 16, 21, 22, 23, 24, 25, 26, 27, 28, 29, 30, 31, 32, 33, 34, 35, 36, 37] (by decide +kernel) (by decide +kernel)
set_option maxRecDepth 20000 in
theorem gX5_uses_X5_part : GoodIn wsX5_uses (wsV RX5 46 RX5 yX5_part wsX5_part) := goodIn_app (goodIn_of _ (by decide +kernel)) ggX5_uses_X5_part
set_option maxRecDepth 20000 in
theorem ggX5_uses_X5_next : GoodIn wsX5_uses wsX5_next := goodIn_r _ [20, 3, 10, 21, 22, 23, 24, 25, 26, 27, 28, 29, 30, 31, 32, 33, 34, 35, 36, 37] (by decide +kernel) (by decide +kernel)
set_option maxRecDepth 20000 in
theorem gX5_uses_X5_next : GoodIn wsX5_uses (wsV RX5 50 RX5 yX5_next wsX5_next) := goodIn_app (goodIn_of _ (by decide +kernel)) ggX5_uses_X5_next
theorem dX5_uses_0 : decode cX5_uses 0 = .ok (.aload_n 0, 1) := by decide +kernel
theorem dX5_uses_1 : decode cX5_uses 1 = .ok (.aload_n 0, 1) := by decide +kernel
theorem dX5_uses_2 : decode cX5_uses 2 = .ok (.getfield 36, 3) := by decide +kernel
theorem dX5_uses_5 : decode cX5_uses 5 = .ok (.iconst (-1), 1) := by decide +kernel
theorem dX5_uses_6 : decode cX5_uses 6 = .ok (.invokevirtual 46, 3) := by decide +kernel
theorem dX5_uses_9 : decode cX5_uses 9 = .ok (.iconst 0, 1) := by decide +kernel
theorem dX5_uses_10 : decode cX5_uses 10 = .ok (.istore_n 2, 1) := by decide +kernel
theorem dX5_uses_11 : decode cX5_uses 11 = .ok (.iconst 0, 1) := by decide +kernel
theorem dX5_uses_12 : decode cX5_uses 12 = .ok (.istore_n 3, 1) := by decide +kernel
theorem dX5_uses_13 : decode cX5_uses 13 = .ok (.iload_n 3, 1) := by decide +kernel
theorem dX5_uses_14 : decode cX5_uses 14 = .ok (.aload_n 0, 1) := by decide +kernel
theorem dX5_uses_15 : decode cX5_uses 15 = .ok (.getfield 39, 3) := by decide +kernel
theorem dX5_uses_18 : decode cX5_uses 18 = .ok (.if_icmp .ge 30, 3) := by decide +kernel
theorem dX5_uses_21 : decode cX5_uses 21 = .ok (.iload_n 2, 1) := by decide +kernel
theorem dX5_uses_22 : decode cX5_uses 22 = .ok (.aload_n 0, 1) := by decide +kernel
theorem dX5_uses_23 : decode cX5_uses 23 = .ok (.getfield 26, 3) := by decide +kernel
theorem dX5_uses_26 : decode cX5_uses 26 = .ok (.iload_n 3, 1) := by decide +kernel
theorem dX5_uses_27 : decode cX5_uses 27 = .ok (.iaload, 1) := by decide +kernel
theorem dX5_uses_28 : decode cX5_uses 28 = .ok (.iload_n 1, 1) := by decide +kernel
theorem dX5_uses_29 : decode cX5_uses 29 = .ok (.if_icmp .ne 7, 3) := by decide +kernel
theorem dX5_uses_32 : decode cX5_uses 32 = .ok (.iconst 1, 1) := by decide +kernel
theorem dX5_uses_33 : decode cX5_uses 33 = .ok (.goto 4, 3) := by decide +kernel
theorem dX5_uses_36 : decode cX5_uses 36 = .ok (.iconst 0, 1) := by decide +kernel
theorem dX5_uses_37 : decode cX5_uses 37 = .ok (.iadd, 1) := by decide +kernel
theorem dX5_uses_38 : decode cX5_uses 38 = .ok (.istore_n 2, 1) := by decide +kernel
theorem dX5_uses_39 : decode cX5_uses 39 = .ok (.aload_n 0, 1) := by decide +kernel
theorem dX5_uses_40 : decode cX5_uses 40 = .ok (.iload_n 3, 1) := by decide +kernel
theorem dX5_uses_41 : decode cX5_uses 41 = .ok (.invokevirtual 50, 3) := by decide +kernel
theorem dX5_uses_44 : decode cX5_uses 44 = .ok (.istore_n 3, 1) := by decide +kernel
theorem dX5_uses_45 : decode cX5_uses 45 = .ok (.goto (-32), 3) := by decide +kernel
theorem dX5_uses_48 : decode cX5_uses 48 = .ok (.iload_n 2, 1) := by decide +kernel
theorem dX5_uses_49 : decode cX5_uses 49 = .ok (.ireturn, 1) := by decide +kernel
set_option maxRecDepth 20000 in
theorem ggX5_usesOf_X5_isCode : GoodIn wsX5_usesOf wsX5_isCode := goodIn_r _ [6, 7, 8, 9, 5, 10, 37, 38, 39, 40, 41, 42, 43, 44, 45, 46, 47, 48, 49, 50, 51, 52, 53] (by decide +kernel) (by decide +kernel)
set_option maxRecDepth 20000 in
theorem gX5_usesOf_X5_isCode : GoodIn wsX5_usesOf (wsV RX5 92 RX5 yX5_isCode wsX5_isCode) := goodIn_app (goodIn_of _ (by decide +kernel)) ggX5_usesOf_X5_isCode
set_option maxRecDepth 20000 in
theorem ggX5_usesOf_X5_uses : GoodIn wsX5_usesOf wsX5_uses := goodIn_r _ [14, 7, 15, 16, 17, 18, 19, 5, 20, 21, 22, 23, 24, 25, 26, 27, 28, 29, 30, 31, 32, 37, 38, 39, 40, 41, 42, 43, 44, 45, 46, 47, 48, 49, 50, 51, 52, 53] (by decide +kernel) (by decide +kernel)
set_option maxRecDepth 20000 in
theorem gX5_usesOf_X5_uses : GoodIn wsX5_usesOf (wsV RX5 104 RX5 yX5_uses wsX5_uses) := goodIn_app (goodIn_of _ (by decide +kernel)) ggX5_usesOf_X5_uses
set_option maxRecDepth 20000 in
theorem ggX5_usesOf_X5_fail : GoodIn wsX5_usesOf wsX5_fail := goodIn_r _ [36, 1, 37, 38, 39, 40, 41, 42, 43, 44, 45, 46, 47, 48, 49, 50, 51, 52, 53] (by decide +kernel) (by decide +kernel)
set_option maxRecDepth 20000 in
theorem gX5_usesOf_X5_fail : GoodIn wsX5_usesOf (wsV RX5 89 RX5 yX5_fail wsX5_fail) := goodIn_app (goodIn_of _ (by decide +kernel)) ggX5_usesOf_X5_fail
theorem dX5_usesOf_0 : decode cX5_usesOf 0 = .ok (.aload_n 0, 1) := by decide +kernel
theorem dX5_usesOf_1 : decode cX5_usesOf 1 = .ok (.iconst 0, 1) := by decide +kernel
theorem dX5_usesOf_2 : decode cX5_usesOf 2 = .ok (.putfield 29, 3) := by decide +kernel
theorem dX5_usesOf_5 : decode cX5_usesOf 5 = .ok (.aload_n 0, 1) := by decide +kernel
theorem dX5_usesOf_6 : decode cX5_usesOf 6 = .ok (.iload_n 1, 1) := by decide +kernel
theorem dX5_usesOf_7 : decode cX5_usesOf 7 = .ok (.invokevirtual 92, 3) := by decide +kernel
theorem dX5_usesOf_10 : decode cX5_usesOf 10 = .ok (.ifCond .eq 11, 3) := by decide +kernel
theorem dX5_usesOf_13 : decode cX5_usesOf 13 = .ok (.aload_n 0, 1) := by decide +kernel
theorem dX5_usesOf_14 : decode cX5_usesOf 14 = .ok (.iload_n 1, 1) := by decide +kernel
theorem dX5_usesOf_15 : decode cX5_usesOf 15 = .ok (.invokevirtual 104, 3) := by decide +kernel
theorem dX5_usesOf_18 : decode cX5_usesOf 18 = .ok (.goto 8, 3) := by decide +kernel
theorem dX5_usesOf_21 : decode cX5_usesOf 21 = .ok (.aload_n 0, 1) := by decide +kernel
theorem dX5_usesOf_22 : decode cX5_usesOf 22 = .ok (.iconst 1, 1) := by decide +kernel
theorem dX5_usesOf_23 : decode cX5_usesOf 23 = .ok (.invokevirtual 89, 3) := by decide +kernel
theorem dX5_usesOf_26 : decode cX5_usesOf 26 = .ok (.ireturn, 1) := by decide +kernel
set_option maxRecDepth 20000 in
theorem ggX5_counted_X5_count : GoodIn wsX5_counted wsX5_count := goodIn_r _ [5, 6, 7, 8, 9, 10, 11, 12, 4, 13, 14, 15, 16, 17, 18, 19, 20, 21, 22, 23, 24, 30, 31, 32, 33, 34, 35, 36, 37, 38, 39, 40, 41, 42, 43, 44, 45, 46] (by decide +kernel) (by decide +kernel)
set_option maxRecDepth 20000 in
theorem gX5_counted_X5_count : GoodIn wsX5_counted (wsV RX5 59 RX5 yX5_count wsX5_count) := goodIn_app (goodIn_of _ (by decide +kernel)) ggX5_counted_X5_count
set_option maxRecDepth 20000 in
theorem ggX5_counted_X5_told : GoodIn wsX5_counted wsX5_told := goodIn_r _ [28, 29, 30, 31, 32, 33, 34, 35, 36, 37, 38, 39, 40, 41, 42, 43, 44, 45, 46] (by decide +kernel) (by decide +kernel)
set_option maxRecDepth 20000 in
theorem gX5_counted_X5_told : GoodIn wsX5_counted (wsV RX5 95 RX5 yX5_told wsX5_told) := goodIn_app (goodIn_of _ (by decide +kernel)) ggX5_counted_X5_told
theorem dX5_counted_0 : decode cX5_counted 0 = .ok (.aload_n 0, 1) := by decide +kernel
theorem dX5_counted_1 : decode cX5_counted 1 = .ok (.aload_n 0, 1) := by decide +kernel
theorem dX5_counted_2 : decode cX5_counted 2 = .ok (.invokevirtual 59, 3) := by decide +kernel
theorem dX5_counted_5 : decode cX5_counted 5 = .ok (.invokevirtual 95, 3) := by decide +kernel
theorem dX5_counted_8 : decode cX5_counted 8 = .ok (.ireturn, 1) := by decide +kernel
set_option maxRecDepth 20000 in
theorem ggX5_cost_X5_priceNow : GoodIn wsX5_cost wsX5_priceNow := goodIn_r _ [5, 6, 7, 8, 4, 9, 10, 11, 12, 13, 14, 15, 16, 17, 18, 19, 20, 21, 22, 23, 24, 25, 26, 27, 28, 29, 30, 31, 32, 33, 34, 35, 36, 42, 43, 44, 45, 46, 47, 48, 49, 50, 51, 52, 53, 54, 55, 56, 57, 58] (by decide +kernel) (by decide +kernel)
set_option maxRecDepth 20000 in
theorem gX5_cost_X5_priceNow : GoodIn wsX5_cost (wsV RX5 107 RX5 yX5_priceNow wsX5_priceNow) := goodIn_app (goodIn_of _ (by decide +kernel)) ggX5_cost_X5_priceNow
set_option maxRecDepth 20000 in
theorem ggX5_cost_X5_told : GoodIn wsX5_cost wsX5_told := goodIn_r _ [40, 41, 42, 43, 44, 45, 46, 47, 48, 49, 50, 51, 52, 53, 54, 55, 56, 57, 58] (by decide +kernel) (by decide +kernel)
set_option maxRecDepth 20000 in
theorem gX5_cost_X5_told : GoodIn wsX5_cost (wsV RX5 95 RX5 yX5_told wsX5_told) := goodIn_app (goodIn_of _ (by decide +kernel)) ggX5_cost_X5_told
theorem dX5_cost_0 : decode cX5_cost 0 = .ok (.aload_n 0, 1) := by decide +kernel
theorem dX5_cost_1 : decode cX5_cost 1 = .ok (.aload_n 0, 1) := by decide +kernel
theorem dX5_cost_2 : decode cX5_cost 2 = .ok (.invokevirtual 107, 3) := by decide +kernel
theorem dX5_cost_5 : decode cX5_cost 5 = .ok (.invokevirtual 95, 3) := by decide +kernel
theorem dX5_cost_8 : decode cX5_cost 8 = .ok (.ireturn, 1) := by decide +kernel
set_option maxRecDepth 20000 in
theorem ggX5_saved_X5_priceOfWords : GoodIn wsX5_saved wsX5_priceOfWords := goodIn_r _ [5, 6, 7, 8, 9, 10, 4, 11, 12, 13, 14, 15, 46, 47, 48, 49, 50, 51, 52, 53, 54, 55, 56, 57, 58, 59, 60, 61, 62] (by decide +kernel) (by decide +kernel)
set_option maxRecDepth 20000 in
theorem gX5_saved_X5_priceOfWords : GoodIn wsX5_saved (wsV RX5 110 RX5 yX5_priceOfWords wsX5_priceOfWords) := goodIn_app (goodIn_of _ (by decide +kernel)) ggX5_saved_X5_priceOfWords
set_option maxRecDepth 20000 in
theorem ggX5_saved_X5_priceNow : GoodIn wsX5_saved wsX5_priceNow := goodIn_r _ [19, 20, 21, 22, 4, 23, 24, 6, 25, 7, 26, 27, 28, 29, 30, 31, 32, 33, 34, 35, 36, 37, 38, 39, 40, 8, 9, 10, 11, 12, 13, 14, 15, 46, 47, 48, 49, 50, 51, 52, 53, 54, 55, 56, 57, 58, 59, 60, 61, 62] (by decide +kernel) (by decide +kernel)
set_option maxRecDepth 20000 in
theorem gX5_saved_X5_priceNow : GoodIn wsX5_saved (wsV RX5 107 RX5 yX5_priceNow wsX5_priceNow) := goodIn_app (goodIn_of _ (by decide +kernel)) ggX5_saved_X5_priceNow
set_option maxRecDepth 20000 in
theorem ggX5_saved_X5_told : GoodIn wsX5_saved wsX5_told := goodIn_r _ [44, 45, 46, 47, 48, 49, 50, 51, 52, 53, 54, 55, 56, 57, 58, 59, 60, 61, 62] (by decide +kernel) (by decide +kernel)
set_option maxRecDepth 20000 in
theorem gX5_saved_X5_told : GoodIn wsX5_saved (wsV RX5 95 RX5 yX5_told wsX5_told) := goodIn_app (goodIn_of _ (by decide +kernel)) ggX5_saved_X5_told
theorem dX5_saved_0 : decode cX5_saved 0 = .ok (.aload_n 0, 1) := by decide +kernel
theorem dX5_saved_1 : decode cX5_saved 1 = .ok (.aload_n 0, 1) := by decide +kernel
theorem dX5_saved_2 : decode cX5_saved 2 = .ok (.invokevirtual 110, 3) := by decide +kernel
theorem dX5_saved_5 : decode cX5_saved 5 = .ok (.aload_n 0, 1) := by decide +kernel
theorem dX5_saved_6 : decode cX5_saved 6 = .ok (.invokevirtual 107, 3) := by decide +kernel
theorem dX5_saved_9 : decode cX5_saved 9 = .ok (.isub, 1) := by decide +kernel
theorem dX5_saved_10 : decode cX5_saved 10 = .ok (.invokevirtual 95, 3) := by decide +kernel
theorem dX5_saved_13 : decode cX5_saved 13 = .ok (.ireturn, 1) := by decide +kernel
set_option maxRecDepth 20000 in
theorem ggX5_setQuality_X5_isIn : GoodIn wsX5_setQuality wsX5_isIn := goodIn_r _ [6] (by decide +kernel) (by decide +kernel)
set_option maxRecDepth 20000 in
theorem gX5_setQuality_X5_isIn : GoodIn wsX5_setQuality (va_wsS RX5 32 yX5_isIn wsX5_isIn) := goodIn_app (goodIn_of _ (by decide +kernel)) ggX5_setQuality_X5_isIn
set_option maxRecDepth 20000 in
theorem ggX5_setQuality_X5_fail : GoodIn wsX5_setQuality wsX5_fail := goodIn_r _ [10, 1, 11, 12, 13, 14, 15, 16, 17, 18, 19, 20, 21, 22, 23, 24, 25, 26, 27] (by decide +kernel) (by decide +kernel)
set_option maxRecDepth 20000 in
theorem gX5_setQuality_X5_fail : GoodIn wsX5_setQuality (wsV RX5 89 RX5 yX5_fail wsX5_fail) := goodIn_app (goodIn_of _ (by decide +kernel)) ggX5_setQuality_X5_fail
theorem dX5_setQuality_0 : decode cX5_setQuality 0 = .ok (.aload_n 0, 1) := by decide +kernel
theorem dX5_setQuality_1 : decode cX5_setQuality 1 = .ok (.iconst 0, 1) := by decide +kernel
theorem dX5_setQuality_2 : decode cX5_setQuality 2 = .ok (.putfield 29, 3) := by decide +kernel
theorem dX5_setQuality_5 : decode cX5_setQuality 5 = .ok (.iload_n 1, 1) := by decide +kernel
theorem dX5_setQuality_6 : decode cX5_setQuality 6 = .ok (.iconst 1, 1) := by decide +kernel
theorem dX5_setQuality_7 : decode cX5_setQuality 7 = .ok (.bipush 9, 2) := by decide +kernel
theorem dX5_setQuality_9 : decode cX5_setQuality 9 = .ok (.invokestatic 32, 3) := by decide +kernel
theorem dX5_setQuality_12 : decode cX5_setQuality 12 = .ok (.ifCond .ne 9, 3) := by decide +kernel
theorem dX5_setQuality_15 : decode cX5_setQuality 15 = .ok (.aload_n 0, 1) := by decide +kernel
theorem dX5_setQuality_16 : decode cX5_setQuality 16 = .ok (.iconst 1, 1) := by decide +kernel
theorem dX5_setQuality_17 : decode cX5_setQuality 17 = .ok (.invokevirtual 89, 3) := by decide +kernel
theorem dX5_setQuality_20 : decode cX5_setQuality 20 = .ok (.ireturn, 1) := by decide +kernel
theorem dX5_setQuality_21 : decode cX5_setQuality 21 = .ok (.aload_n 0, 1) := by decide +kernel
theorem dX5_setQuality_22 : decode cX5_setQuality 22 = .ok (.getfield 19, 3) := by decide +kernel
theorem dX5_setQuality_25 : decode cX5_setQuality 25 = .ok (.istore_n 2, 1) := by decide +kernel
theorem dX5_setQuality_26 : decode cX5_setQuality 26 = .ok (.aload_n 0, 1) := by decide +kernel
theorem dX5_setQuality_27 : decode cX5_setQuality 27 = .ok (.iload_n 1, 1) := by decide +kernel
theorem dX5_setQuality_28 : decode cX5_setQuality 28 = .ok (.putfield 19, 3) := by decide +kernel
theorem dX5_setQuality_31 : decode cX5_setQuality 31 = .ok (.iload_n 2, 1) := by decide +kernel
theorem dX5_setQuality_32 : decode cX5_setQuality 32 = .ok (.ireturn, 1) := by decide +kernel
set_option maxRecDepth 20000 in
theorem ggX5_send_X5_fail : GoodIn wsX5_send wsX5_fail := goodIn_r _ [15, 1, 62, 63, 64, 65, 66, 67, 68, 69, 70, 71, 72, 73, 74, 75, 76, 77, 78] (by decide +kernel) (by decide +kernel)
set_option maxRecDepth 20000 in
theorem gX5_send_X5_fail : GoodIn wsX5_send (wsV RX5 89 RX5 yX5_fail wsX5_fail) := goodIn_app (goodIn_of _ (by decide +kernel)) ggX5_send_X5_fail
set_option maxRecDepth 20000 in
theorem ggX5_send_X5_priceNow : GoodIn wsX5_send wsX5_priceNow := goodIn_r _ [19, 20, 21, 22, 14, 23, 24, 2, 25, 26, 27, 28, 29, 30, 31, 32, 33, 34, 35, 36, 37, 38, 39, 40, 41, 42, 43, 44, 45, 46, 47, 48, 49, 62, 63, 64, 65, 66, 67, 68, 69, 70, 71, 72, 73, 74, 75, 76, 77, 78] (by decide +kernel) (by decide +kernel)
set_option maxRecDepth 20000 in
theorem gX5_send_X5_priceNow : GoodIn wsX5_send (wsV RX5 107 RX5 yX5_priceNow wsX5_priceNow) := goodIn_app (goodIn_of _ (by decide +kernel)) ggX5_send_X5_priceNow
set_option maxRecDepth 20000 in
theorem ggX5_send_X5_all : GoodIn wsX5_send wsX5_all := goodIn_r _ [53, 24, 31, 27, 28, 29, 14, 30, 2, 25, 32, 33, 34, 35, 36, 37, 26, 62, 63, 64, 65, 66, 67, 68, 69, 70, 71, 72, 73, 74, 75, 76, 77, 78] (by decide +kernel) (by decide +kernel)
set_option maxRecDepth 20000 in
theorem gX5_send_X5_all : GoodIn wsX5_send (wsV RX5 98 RX5 yX5_all wsX5_all) := goodIn_app (goodIn_of _ (by decide +kernel)) ggX5_send_X5_all
set_option maxRecDepth 20000 in
theorem ggX5_send_X5_go : GoodIn wsX5_send wsX5_go := goodIn_r _ [57, 6, 8, 10, 58, 5, 59, 60, 14, 61, 62, 63, 64, 65, 66, 67, 68, 69, 70, 71, 72, 73, 74, 75, 76, 77, 78] (by decide +kernel) (by decide +kernel)
set_option maxRecDepth 20000 in
theorem gX5_send_X5_go : GoodIn wsX5_send (wsV RX5 116 RX5 yX5_go wsX5_go) := goodIn_app (goodIn_of _ (by decide +kernel)) ggX5_send_X5_go
theorem dX5_send_0 : decode cX5_send 0 = .ok (.aload_n 0, 1) := by decide +kernel
theorem dX5_send_1 : decode cX5_send 1 = .ok (.iconst 0, 1) := by decide +kernel
theorem dX5_send_2 : decode cX5_send 2 = .ok (.putfield 29, 3) := by decide +kernel
theorem dX5_send_5 : decode cX5_send 5 = .ok (.aload_n 0, 1) := by decide +kernel
theorem dX5_send_6 : decode cX5_send 6 = .ok (.getfield 39, 3) := by decide +kernel
theorem dX5_send_9 : decode cX5_send 9 = .ok (.ifCond .ne 9, 3) := by decide +kernel
theorem dX5_send_12 : decode cX5_send 12 = .ok (.aload_n 0, 1) := by decide +kernel
theorem dX5_send_13 : decode cX5_send 13 = .ok (.iconst 1, 1) := by decide +kernel
theorem dX5_send_14 : decode cX5_send 14 = .ok (.invokevirtual 89, 3) := by decide +kernel
theorem dX5_send_17 : decode cX5_send 17 = .ok (.ireturn, 1) := by decide +kernel
theorem dX5_send_18 : decode cX5_send 18 = .ok (.aload_n 0, 1) := by decide +kernel
theorem dX5_send_19 : decode cX5_send 19 = .ok (.dup, 1) := by decide +kernel
theorem dX5_send_20 : decode cX5_send 20 = .ok (.getfield 113, 3) := by decide +kernel
theorem dX5_send_23 : decode cX5_send 23 = .ok (.aload_n 0, 1) := by decide +kernel
theorem dX5_send_24 : decode cX5_send 24 = .ok (.invokevirtual 107, 3) := by decide +kernel
theorem dX5_send_27 : decode cX5_send 27 = .ok (.iadd, 1) := by decide +kernel
theorem dX5_send_28 : decode cX5_send 28 = .ok (.putfield 113, 3) := by decide +kernel
theorem dX5_send_31 : decode cX5_send 31 = .ok (.aload_n 0, 1) := by decide +kernel
theorem dX5_send_32 : decode cX5_send 32 = .ok (.aload_n 0, 1) := by decide +kernel
theorem dX5_send_33 : decode cX5_send 33 = .ok (.invokevirtual 98, 3) := by decide +kernel
theorem dX5_send_36 : decode cX5_send 36 = .ok (.aload_n 0, 1) := by decide +kernel
theorem dX5_send_37 : decode cX5_send 37 = .ok (.getfield 19, 3) := by decide +kernel
theorem dX5_send_40 : decode cX5_send 40 = .ok (.invokevirtual 116, 3) := by decide +kernel
theorem dX5_send_43 : decode cX5_send 43 = .ok (.aload_n 0, 1) := by decide +kernel
theorem dX5_send_44 : decode cX5_send 44 = .ok (.dup, 1) := by decide +kernel
theorem dX5_send_45 : decode cX5_send 45 = .ok (.getfield 78, 3) := by decide +kernel
theorem dX5_send_48 : decode cX5_send 48 = .ok (.aload_n 0, 1) := by decide +kernel
theorem dX5_send_49 : decode cX5_send 49 = .ok (.getfield 66, 3) := by decide +kernel
theorem dX5_send_52 : decode cX5_send 52 = .ok (.iadd, 1) := by decide +kernel
theorem dX5_send_53 : decode cX5_send 53 = .ok (.putfield 78, 3) := by decide +kernel
theorem dX5_send_56 : decode cX5_send 56 = .ok (.aload_n 0, 1) := by decide +kernel
theorem dX5_send_57 : decode cX5_send 57 = .ok (.dup, 1) := by decide +kernel
theorem dX5_send_58 : decode cX5_send 58 = .ok (.getfield 119, 3) := by decide +kernel
theorem dX5_send_61 : decode cX5_send 61 = .ok (.aload_n 0, 1) := by decide +kernel
theorem dX5_send_62 : decode cX5_send 62 = .ok (.getfield 69, 3) := by decide +kernel
theorem dX5_send_65 : decode cX5_send 65 = .ok (.iadd, 1) := by decide +kernel
theorem dX5_send_66 : decode cX5_send 66 = .ok (.putfield 119, 3) := by decide +kernel
theorem dX5_send_69 : decode cX5_send 69 = .ok (.aload_n 0, 1) := by decide +kernel
theorem dX5_send_70 : decode cX5_send 70 = .ok (.dup, 1) := by decide +kernel
theorem dX5_send_71 : decode cX5_send 71 = .ok (.getfield 122, 3) := by decide +kernel
theorem dX5_send_74 : decode cX5_send 74 = .ok (.aload_n 0, 1) := by decide +kernel
theorem dX5_send_75 : decode cX5_send 75 = .ok (.getfield 72, 3) := by decide +kernel
theorem dX5_send_78 : decode cX5_send 78 = .ok (.iadd, 1) := by decide +kernel
theorem dX5_send_79 : decode cX5_send 79 = .ok (.putfield 122, 3) := by decide +kernel
theorem dX5_send_82 : decode cX5_send 82 = .ok (.aload_n 0, 1) := by decide +kernel
theorem dX5_send_83 : decode cX5_send 83 = .ok (.iconst 0, 1) := by decide +kernel
theorem dX5_send_84 : decode cX5_send 84 = .ok (.putfield 39, 3) := by decide +kernel
theorem dX5_send_87 : decode cX5_send 87 = .ok (.aload_n 0, 1) := by decide +kernel
theorem dX5_send_88 : decode cX5_send 88 = .ok (.getfield 72, 3) := by decide +kernel
theorem dX5_send_91 : decode cX5_send 91 = .ok (.ireturn, 1) := by decide +kernel
set_option maxRecDepth 20000 in
theorem ggX5_sentGroups_X5_told : GoodIn wsX5_sentGroups wsX5_told := goodIn_r _ [6, 7, 8, 9, 10, 11, 12, 13, 14, 15, 16, 17, 18, 19, 20, 21, 22, 23, 24] (by decide +kernel) (by decide +kernel)
set_option maxRecDepth 20000 in
theorem gX5_sentGroups_X5_told : GoodIn wsX5_sentGroups (wsV RX5 95 RX5 yX5_told wsX5_told) := goodIn_app (goodIn_of _ (by decide +kernel)) ggX5_sentGroups_X5_told
theorem dX5_sentGroups_0 : decode cX5_sentGroups 0 = .ok (.aload_n 0, 1) := by decide +kernel
theorem dX5_sentGroups_1 : decode cX5_sentGroups 1 = .ok (.aload_n 0, 1) := by decide +kernel
theorem dX5_sentGroups_2 : decode cX5_sentGroups 2 = .ok (.getfield 78, 3) := by decide +kernel
theorem dX5_sentGroups_5 : decode cX5_sentGroups 5 = .ok (.invokevirtual 95, 3) := by decide +kernel
theorem dX5_sentGroups_8 : decode cX5_sentGroups 8 = .ok (.ireturn, 1) := by decide +kernel
set_option maxRecDepth 20000 in
theorem ggX5_repeats_X5_told : GoodIn wsX5_repeats wsX5_told := goodIn_r _ [6, 7, 8, 9, 10, 11, 12, 13, 14, 15, 16, 17, 18, 19, 20, 21, 22, 23, 24] (by decide +kernel) (by decide +kernel)
set_option maxRecDepth 20000 in
theorem gX5_repeats_X5_told : GoodIn wsX5_repeats (wsV RX5 95 RX5 yX5_told wsX5_told) := goodIn_app (goodIn_of _ (by decide +kernel)) ggX5_repeats_X5_told
theorem dX5_repeats_0 : decode cX5_repeats 0 = .ok (.aload_n 0, 1) := by decide +kernel
theorem dX5_repeats_1 : decode cX5_repeats 1 = .ok (.aload_n 0, 1) := by decide +kernel
theorem dX5_repeats_2 : decode cX5_repeats 2 = .ok (.getfield 119, 3) := by decide +kernel
theorem dX5_repeats_5 : decode cX5_repeats 5 = .ok (.invokevirtual 95, 3) := by decide +kernel
theorem dX5_repeats_8 : decode cX5_repeats 8 = .ok (.ireturn, 1) := by decide +kernel
set_option maxRecDepth 20000 in
theorem ggX5_lost_X5_told : GoodIn wsX5_lost wsX5_told := goodIn_r _ [6, 7, 8, 9, 10, 11, 12, 13, 14, 15, 16, 17, 18, 19, 20, 21, 22, 23, 24] (by decide +kernel) (by decide +kernel)
set_option maxRecDepth 20000 in
theorem gX5_lost_X5_told : GoodIn wsX5_lost (wsV RX5 95 RX5 yX5_told wsX5_told) := goodIn_app (goodIn_of _ (by decide +kernel)) ggX5_lost_X5_told
theorem dX5_lost_0 : decode cX5_lost 0 = .ok (.aload_n 0, 1) := by decide +kernel
theorem dX5_lost_1 : decode cX5_lost 1 = .ok (.aload_n 0, 1) := by decide +kernel
theorem dX5_lost_2 : decode cX5_lost 2 = .ok (.getfield 122, 3) := by decide +kernel
theorem dX5_lost_5 : decode cX5_lost 5 = .ok (.invokevirtual 95, 3) := by decide +kernel
theorem dX5_lost_8 : decode cX5_lost 8 = .ok (.ireturn, 1) := by decide +kernel
set_option maxRecDepth 20000 in
theorem ggX5_earned_X5_told : GoodIn wsX5_earned wsX5_told := goodIn_r _ [6, 7, 8, 9, 10, 11, 12, 13, 14, 15, 16, 17, 18, 19, 20, 21, 22, 23, 24] (by decide +kernel) (by decide +kernel)
set_option maxRecDepth 20000 in
theorem gX5_earned_X5_told : GoodIn wsX5_earned (wsV RX5 95 RX5 yX5_told wsX5_told) := goodIn_app (goodIn_of _ (by decide +kernel)) ggX5_earned_X5_told
theorem dX5_earned_0 : decode cX5_earned 0 = .ok (.aload_n 0, 1) := by decide +kernel
theorem dX5_earned_1 : decode cX5_earned 1 = .ok (.aload_n 0, 1) := by decide +kernel
theorem dX5_earned_2 : decode cX5_earned 2 = .ok (.getfield 113, 3) := by decide +kernel
theorem dX5_earned_5 : decode cX5_earned 5 = .ok (.invokevirtual 95, 3) := by decide +kernel
theorem dX5_earned_8 : decode cX5_earned 8 = .ok (.ireturn, 1) := by decide +kernel
set_option maxRecDepth 20000 in
theorem ggX5_until_X5_isGarbled : GoodIn wsX5_until wsX5_isGarbled := goodIn_r _ [6] (by decide +kernel) (by decide +kernel)
set_option maxRecDepth 20000 in
theorem gX5_until_X5_isGarbled : GoodIn wsX5_until (va_wsS RX5 81 yX5_isGarbled wsX5_isGarbled) := goodIn_app (goodIn_of _ (by decide +kernel)) ggX5_until_X5_isGarbled
theorem dX5_until_0 : decode cX5_until 0 = .ok (.iconst 1, 1) := by decide +kernel
theorem dX5_until_1 : decode cX5_until 1 = .ok (.istore_n 1, 1) := by decide +kernel
theorem dX5_until_2 : decode cX5_until 2 = .ok (.aload_n 0, 1) := by decide +kernel
theorem dX5_until_3 : decode cX5_until 3 = .ok (.getfield 78, 3) := by decide +kernel
theorem dX5_until_6 : decode cX5_until 6 = .ok (.iload_n 1, 1) := by decide +kernel
theorem dX5_until_7 : decode cX5_until 7 = .ok (.iadd, 1) := by decide +kernel
theorem dX5_until_8 : decode cX5_until 8 = .ok (.aload_n 0, 1) := by decide +kernel
theorem dX5_until_9 : decode cX5_until 9 = .ok (.getfield 19, 3) := by decide +kernel
theorem dX5_until_12 : decode cX5_until 12 = .ok (.invokestatic 81, 3) := by decide +kernel
theorem dX5_until_15 : decode cX5_until 15 = .ok (.ifCond .ne 9, 3) := by decide +kernel
theorem dX5_until_18 : decode cX5_until 18 = .ok (.iinc 1 1, 3) := by decide +kernel
theorem dX5_until_21 : decode cX5_until 21 = .ok (.goto (-19), 3) := by decide +kernel
theorem dX5_until_24 : decode cX5_until 24 = .ok (.iload_n 1, 1) := by decide +kernel
theorem dX5_until_25 : decode cX5_until 25 = .ok (.ireturn, 1) := by decide +kernel
set_option maxRecDepth 20000 in
theorem ggX5_untilGarbled_X5_until : GoodIn wsX5_untilGarbled wsX5_until := goodIn_r _ [5, 6, 7, 8, 9, 4, 10, 16, 17, 18, 19, 20, 21, 22, 23, 24, 25, 26, 27, 28, 29, 30, 31, 32] (by decide +kernel) (by decide +kernel)
set_option maxRecDepth 20000 in
theorem gX5_untilGarbled_X5_until : GoodIn wsX5_untilGarbled (wsV RX5 125 RX5 yX5_until wsX5_until) := goodIn_app (goodIn_of _ (by decide +kernel)) ggX5_untilGarbled_X5_until
set_option maxRecDepth 20000 in
theorem ggX5_untilGarbled_X5_told : GoodIn wsX5_untilGarbled wsX5_told := goodIn_r _ [14, 15, 16, 17, 18, 19, 20, 21, 22, 23, 24, 25, 26, 27, 28, 29, 30, 31, 32] (by decide +kernel) (by decide +kernel)
set_option maxRecDepth 20000 in
theorem gX5_untilGarbled_X5_told : GoodIn wsX5_untilGarbled (wsV RX5 95 RX5 yX5_told wsX5_told) := goodIn_app (goodIn_of _ (by decide +kernel)) ggX5_untilGarbled_X5_told
theorem dX5_untilGarbled_0 : decode cX5_untilGarbled 0 = .ok (.aload_n 0, 1) := by decide +kernel
theorem dX5_untilGarbled_1 : decode cX5_untilGarbled 1 = .ok (.aload_n 0, 1) := by decide +kernel
theorem dX5_untilGarbled_2 : decode cX5_untilGarbled 2 = .ok (.invokevirtual 125, 3) := by decide +kernel
theorem dX5_untilGarbled_5 : decode cX5_untilGarbled 5 = .ok (.invokevirtual 95, 3) := by decide +kernel
theorem dX5_untilGarbled_8 : decode cX5_untilGarbled 8 = .ok (.ireturn, 1) := by decide +kernel
set_option maxRecDepth 20000 in
theorem ggX5_garbled_X5_all : GoodIn wsX5_garbled wsX5_all := goodIn_r _ [7, 8, 9, 10, 11, 12, 6, 13, 14, 15, 16, 17, 18, 19, 20, 21, 22, 34, 35, 36, 37, 38, 39, 40, 41, 42, 43, 44, 45, 46, 47, 48, 49, 50] (by decide +kernel) (by decide +kernel)
set_option maxRecDepth 20000 in
theorem gX5_garbled_X5_all : GoodIn wsX5_garbled (wsV RX5 98 RX5 yX5_all wsX5_all) := goodIn_app (goodIn_of _ (by decide +kernel)) ggX5_garbled_X5_all
set_option maxRecDepth 20000 in
theorem ggX5_garbled_X5_go : GoodIn wsX5_garbled wsX5_go := goodIn_r _ [26, 27, 28, 29, 2, 30, 31, 32, 6, 33, 34, 35, 36, 37, 38, 39, 40, 41, 42, 43, 44, 45, 46, 47, 48, 49, 50] (by decide +kernel) (by decide +kernel)
set_option maxRecDepth 20000 in
theorem gX5_garbled_X5_go : GoodIn wsX5_garbled (wsV RX5 116 RX5 yX5_go wsX5_go) := goodIn_app (goodIn_of _ (by decide +kernel)) ggX5_garbled_X5_go
theorem dX5_garbled_0 : decode cX5_garbled 0 = .ok (.aload_n 0, 1) := by decide +kernel
theorem dX5_garbled_1 : decode cX5_garbled 1 = .ok (.aload_n 0, 1) := by decide +kernel
theorem dX5_garbled_2 : decode cX5_garbled 2 = .ok (.invokevirtual 98, 3) := by decide +kernel
theorem dX5_garbled_5 : decode cX5_garbled 5 = .ok (.aload_n 0, 1) := by decide +kernel
theorem dX5_garbled_6 : decode cX5_garbled 6 = .ok (.getfield 19, 3) := by decide +kernel
theorem dX5_garbled_9 : decode cX5_garbled 9 = .ok (.invokevirtual 116, 3) := by decide +kernel
theorem dX5_garbled_12 : decode cX5_garbled 12 = .ok (.aload_n 0, 1) := by decide +kernel
theorem dX5_garbled_13 : decode cX5_garbled 13 = .ok (.getfield 75, 3) := by decide +kernel
theorem dX5_garbled_16 : decode cX5_garbled 16 = .ok (.ireturn, 1) := by decide +kernel
set_option maxRecDepth 20000 in
theorem ggX5_wouldBeGarbled_X5_garbled : GoodIn wsX5_wouldBeGarbled wsX5_garbled := goodIn_r _ [5, 6, 7, 8, 9, 10, 4, 11, 12, 13, 14, 15, 16, 17, 18, 19, 20, 21, 22, 23, 24, 25, 26, 27, 28, 29, 30, 31, 32, 33, 34, 35, 36, 37, 43, 44, 45, 46, 47, 48, 49, 50, 51, 52, 53, 54, 55, 56, 57, 58, 59] (by decide +kernel) (by decide +kernel)
set_option maxRecDepth 20000 in
theorem gX5_wouldBeGarbled_X5_garbled : GoodIn wsX5_wouldBeGarbled (wsV RX5 128 RX5 yX5_garbled wsX5_garbled) := goodIn_app (goodIn_of _ (by decide +kernel)) ggX5_wouldBeGarbled_X5_garbled
set_option maxRecDepth 20000 in
theorem ggX5_wouldBeGarbled_X5_told : GoodIn wsX5_wouldBeGarbled wsX5_told := goodIn_r _ [41, 42, 43, 44, 45, 46, 47, 48, 49, 50, 51, 52, 53, 54, 55, 56, 57, 58, 59] (by decide +kernel) (by decide +kernel)
set_option maxRecDepth 20000 in
theorem gX5_wouldBeGarbled_X5_told : GoodIn wsX5_wouldBeGarbled (wsV RX5 95 RX5 yX5_told wsX5_told) := goodIn_app (goodIn_of _ (by decide +kernel)) ggX5_wouldBeGarbled_X5_told
theorem dX5_wouldBeGarbled_0 : decode cX5_wouldBeGarbled 0 = .ok (.aload_n 0, 1) := by decide +kernel
theorem dX5_wouldBeGarbled_1 : decode cX5_wouldBeGarbled 1 = .ok (.aload_n 0, 1) := by decide +kernel
theorem dX5_wouldBeGarbled_2 : decode cX5_wouldBeGarbled 2 = .ok (.invokevirtual 128, 3) := by decide +kernel
theorem dX5_wouldBeGarbled_5 : decode cX5_wouldBeGarbled 5 = .ok (.invokevirtual 95, 3) := by decide +kernel
theorem dX5_wouldBeGarbled_8 : decode cX5_wouldBeGarbled 8 = .ok (.ireturn, 1) := by decide +kernel
set_option maxRecDepth 20000 in
theorem ggX5_again_X5_all : GoodIn wsX5_again wsX5_all := goodIn_r _ [7, 8, 9, 10, 11, 12, 6, 13, 14, 15, 16, 17, 18, 19, 20, 21, 22, 34, 35, 36, 37, 38, 39, 40, 41, 42, 43, 44, 45, 46, 47, 48, 49, 50] (by decide +kernel) (by decide +kernel)
set_option maxRecDepth 20000 in
theorem gX5_again_X5_all : GoodIn wsX5_again (wsV RX5 98 RX5 yX5_all wsX5_all) := goodIn_app (goodIn_of _ (by decide +kernel)) ggX5_again_X5_all
set_option maxRecDepth 20000 in
theorem ggX5_again_X5_go : GoodIn wsX5_again wsX5_go := goodIn_r _ [26, 27, 2, 28, 29, 30, 31, 32, 6, 33, 34, 35, 36, 37, 38, 39, 40, 41, 42, 43, 44, 45, 46, 47, 48, 49, 50] (by decide +kernel) (by decide +kernel)
set_option maxRecDepth 20000 in
theorem gX5_again_X5_go : GoodIn wsX5_again (wsV RX5 116 RX5 yX5_go wsX5_go) := goodIn_app (goodIn_of _ (by decide +kernel)) ggX5_again_X5_go
theorem dX5_again_0 : decode cX5_again 0 = .ok (.aload_n 0, 1) := by decide +kernel
theorem dX5_again_1 : decode cX5_again 1 = .ok (.aload_n 0, 1) := by decide +kernel
theorem dX5_again_2 : decode cX5_again 2 = .ok (.invokevirtual 98, 3) := by decide +kernel
theorem dX5_again_5 : decode cX5_again 5 = .ok (.aload_n 0, 1) := by decide +kernel
theorem dX5_again_6 : decode cX5_again 6 = .ok (.getfield 19, 3) := by decide +kernel
theorem dX5_again_9 : decode cX5_again 9 = .ok (.invokevirtual 116, 3) := by decide +kernel
theorem dX5_again_12 : decode cX5_again 12 = .ok (.aload_n 0, 1) := by decide +kernel
theorem dX5_again_13 : decode cX5_again 13 = .ok (.getfield 69, 3) := by decide +kernel
theorem dX5_again_16 : decode cX5_again 16 = .ok (.ireturn, 1) := by decide +kernel
set_option maxRecDepth 20000 in
theorem ggX5_repeatsIfSent_X5_again : GoodIn wsX5_repeatsIfSent wsX5_again := goodIn_r _ [5, 6, 7, 8, 9, 10, 4, 11, 12, 13, 14, 15, 16, 17, 18, 19, 20, 21, 22, 23, 24, 25, 26, 27, 28, 29, 30, 31, 32, 33, 34, 35, 36, 37, 43, 44, 45, 46, 47, 48, 49, 50, 51, 52, 53, 54, 55, 56, 57, 58, 59] (by decide +kernel) (by decide +kernel)
set_option maxRecDepth 20000 in
theorem gX5_repeatsIfSent_X5_again : GoodIn wsX5_repeatsIfSent (wsV RX5 131 RX5 yX5_again wsX5_again) := goodIn_app (goodIn_of _ (by decide +kernel)) ggX5_repeatsIfSent_X5_again
set_option maxRecDepth 20000 in
theorem ggX5_repeatsIfSent_X5_told : GoodIn wsX5_repeatsIfSent wsX5_told := goodIn_r _ [41, 42, 43, 44, 45, 46, 47, 48, 49, 50, 51, 52, 53, 54, 55, 56, 57, 58, 59] (by decide +kernel) (by decide +kernel)
set_option maxRecDepth 20000 in
theorem gX5_repeatsIfSent_X5_told : GoodIn wsX5_repeatsIfSent (wsV RX5 95 RX5 yX5_told wsX5_told) := goodIn_app (goodIn_of _ (by decide +kernel)) ggX5_repeatsIfSent_X5_told
theorem dX5_repeatsIfSent_0 : decode cX5_repeatsIfSent 0 = .ok (.aload_n 0, 1) := by decide +kernel
theorem dX5_repeatsIfSent_1 : decode cX5_repeatsIfSent 1 = .ok (.aload_n 0, 1) := by decide +kernel
theorem dX5_repeatsIfSent_2 : decode cX5_repeatsIfSent 2 = .ok (.invokevirtual 131, 3) := by decide +kernel
theorem dX5_repeatsIfSent_5 : decode cX5_repeatsIfSent 5 = .ok (.invokevirtual 95, 3) := by decide +kernel
theorem dX5_repeatsIfSent_8 : decode cX5_repeatsIfSent 8 = .ok (.ireturn, 1) := by decide +kernel
set_option maxRecDepth 20000 in
theorem ggX5_wanted_X5_all : GoodIn wsX5_wanted wsX5_all := goodIn_r _ [6, 7, 8, 9, 10, 11, 5, 12, 13, 14, 15, 16, 17, 18, 19, 20, 21, 33, 34, 35, 36, 37, 38, 39, 40, 41, 42, 43, 44, 45, 46, 47, 48, 49] (by decide +kernel) (by decide +kernel)
set_option maxRecDepth 20000 in
theorem gX5_wanted_X5_all : GoodIn wsX5_wanted (wsV RX5 98 RX5 yX5_all wsX5_all) := goodIn_app (goodIn_of _ (by decide +kernel)) ggX5_wanted_X5_all
set_option maxRecDepth 20000 in
theorem ggX5_wanted_X5_go : GoodIn wsX5_wanted wsX5_go := goodIn_r _ [25, 26, 27, 1, 28, 29, 30, 31, 5, 32, 33, 34, 35, 36, 37, 38, 39, 40, 41, 42, 43, 44, 45, 46, 47, 48, 49] (by decide +kernel) (by decide +kernel)
set_option maxRecDepth 20000 in
theorem gX5_wanted_X5_go : GoodIn wsX5_wanted (wsV RX5 116 RX5 yX5_go wsX5_go) := goodIn_app (goodIn_of _ (by decide +kernel)) ggX5_wanted_X5_go
theorem dX5_wanted_0 : decode cX5_wanted 0 = .ok (.aload_n 0, 1) := by decide +kernel
theorem dX5_wanted_1 : decode cX5_wanted 1 = .ok (.invokevirtual 98, 3) := by decide +kernel
theorem dX5_wanted_4 : decode cX5_wanted 4 = .ok (.istore_n 1, 1) := by decide +kernel
theorem dX5_wanted_5 : decode cX5_wanted 5 = .ok (.iconst 1, 1) := by decide +kernel
theorem dX5_wanted_6 : decode cX5_wanted 6 = .ok (.istore_n 2, 1) := by decide +kernel
theorem dX5_wanted_7 : decode cX5_wanted 7 = .ok (.iload_n 2, 1) := by decide +kernel
theorem dX5_wanted_8 : decode cX5_wanted 8 = .ok (.bipush 9, 2) := by decide +kernel
theorem dX5_wanted_10 : decode cX5_wanted 10 = .ok (.if_icmp .gt 24, 3) := by decide +kernel
theorem dX5_wanted_13 : decode cX5_wanted 13 = .ok (.aload_n 0, 1) := by decide +kernel
theorem dX5_wanted_14 : decode cX5_wanted 14 = .ok (.iload_n 1, 1) := by decide +kernel
theorem dX5_wanted_15 : decode cX5_wanted 15 = .ok (.iload_n 2, 1) := by decide +kernel
theorem dX5_wanted_16 : decode cX5_wanted 16 = .ok (.invokevirtual 116, 3) := by decide +kernel
theorem dX5_wanted_19 : decode cX5_wanted 19 = .ok (.aload_n 0, 1) := by decide +kernel
theorem dX5_wanted_20 : decode cX5_wanted 20 = .ok (.getfield 72, 3) := by decide +kernel
theorem dX5_wanted_23 : decode cX5_wanted 23 = .ok (.ifCond .ne 5, 3) := by decide +kernel
theorem dX5_wanted_26 : decode cX5_wanted 26 = .ok (.iload_n 2, 1) := by decide +kernel
theorem dX5_wanted_27 : decode cX5_wanted 27 = .ok (.ireturn, 1) := by decide +kernel
theorem dX5_wanted_28 : decode cX5_wanted 28 = .ok (.iinc 2 1, 3) := by decide +kernel
theorem dX5_wanted_31 : decode cX5_wanted 31 = .ok (.goto (-24), 3) := by decide +kernel
theorem dX5_wanted_34 : decode cX5_wanted 34 = .ok (.iconst (-1), 1) := by decide +kernel
theorem dX5_wanted_35 : decode cX5_wanted 35 = .ok (.ireturn, 1) := by decide +kernel
set_option maxRecDepth 20000 in
theorem ggX5_qualityWanted_X5_wanted : GoodIn wsX5_qualityWanted wsX5_wanted := goodIn_r _ [5, 6, 7, 8, 9, 4, 10, 11, 12, 13, 14, 15, 16, 17, 18, 19, 20, 21, 22, 23, 24, 25, 26, 27, 28, 29, 30, 31, 32, 33, 34, 35, 36, 42, 43, 44, 45, 46, 47, 48, 49, 50, 51, 52, 53, 54, 55, 56, 57, 58] (by decide +kernel) (by decide +kernel)
set_option maxRecDepth 20000 in
theorem gX5_qualityWanted_X5_wanted : GoodIn wsX5_qualityWanted (wsV RX5 134 RX5 yX5_wanted wsX5_wanted) := goodIn_app (goodIn_of _ (by decide +kernel)) ggX5_qualityWanted_X5_wanted
set_option maxRecDepth 20000 in
theorem ggX5_qualityWanted_X5_told : GoodIn wsX5_qualityWanted wsX5_told := goodIn_r _ [40, 41, 42, 43, 44, 45, 46, 47, 48, 49, 50, 51, 52, 53, 54, 55, 56, 57, 58] (by decide +kernel) (by decide +kernel)
set_option maxRecDepth 20000 in
theorem gX5_qualityWanted_X5_told : GoodIn wsX5_qualityWanted (wsV RX5 95 RX5 yX5_told wsX5_told) := goodIn_app (goodIn_of _ (by decide +kernel)) ggX5_qualityWanted_X5_told
theorem dX5_qualityWanted_0 : decode cX5_qualityWanted 0 = .ok (.aload_n 0, 1) := by decide +kernel
theorem dX5_qualityWanted_1 : decode cX5_qualityWanted 1 = .ok (.aload_n 0, 1) := by decide +kernel
theorem dX5_qualityWanted_2 : decode cX5_qualityWanted 2 = .ok (.invokevirtual 134, 3) := by decide +kernel
theorem dX5_qualityWanted_5 : decode cX5_qualityWanted 5 = .ok (.invokevirtual 95, 3) := by decide +kernel
theorem dX5_qualityWanted_8 : decode cX5_qualityWanted 8 = .ok (.ireturn, 1) := by decide +kernel
set_option maxRecDepth 20000 in
theorem ggX5_useless_X5_all : GoodIn wsX5_useless wsX5_all := goodIn_r _ [7, 1, 2, 8, 9, 10, 6, 11, 12, 13, 14, 15, 16, 17, 18, 19, 20, 21, 22, 23, 24, 25, 26, 27, 28, 29, 30, 31, 32, 33, 34, 35, 36, 37] (by decide +kernel) (by decide +kernel)
set_option maxRecDepth 20000 in
theorem gX5_useless_X5_all : GoodIn wsX5_useless (wsV RX5 98 RX5 yX5_all wsX5_all) := goodIn_app (goodIn_of _ (by decide +kernel)) ggX5_useless_X5_all
set_option maxRecDepth 20000 in
theorem ggX5_useless_X5_part : GoodIn wsX5_useless wsX5_part := goodIn_r _ [11, 2, 12, 13, 14, 15, 16, 17, 18, 6, 19, 20, 21, 22, 23, 24, 25, 26, 27, 28, 29, 30, 31, 32, 33, 34, 35, 36, 37] (by decide +kernel) (by decide +kernel)
set_option maxRecDepth 20000 in
theorem gX5_useless_X5_part : GoodIn wsX5_useless (wsV RX5 46 RX5 yX5_part wsX5_part) := goodIn_app (goodIn_of _ (by decide +kernel)) ggX5_useless_X5_part
theorem dX5_useless_0 : decode cX5_useless 0 = .ok (.aload_n 0, 1) := by decide +kernel
theorem dX5_useless_1 : decode cX5_useless 1 = .ok (.invokevirtual 98, 3) := by decide +kernel
theorem dX5_useless_4 : decode cX5_useless 4 = .ok (.istore_n 1, 1) := by decide +kernel
theorem dX5_useless_5 : decode cX5_useless 5 = .ok (.iconst 0, 1) := by decide +kernel
theorem dX5_useless_6 : decode cX5_useless 6 = .ok (.istore_n 2, 1) := by decide +kernel
theorem dX5_useless_7 : decode cX5_useless 7 = .ok (.iload_n 2, 1) := by decide +kernel
theorem dX5_useless_8 : decode cX5_useless 8 = .ok (.aload_n 0, 1) := by decide +kernel
theorem dX5_useless_9 : decode cX5_useless 9 = .ok (.getfield 36, 3) := by decide +kernel
theorem dX5_useless_12 : decode cX5_useless 12 = .ok (.if_icmp .ge 30, 3) := by decide +kernel
theorem dX5_useless_15 : decode cX5_useless 15 = .ok (.aload_n 0, 1) := by decide +kernel
theorem dX5_useless_16 : decode cX5_useless 16 = .ok (.aload_n 0, 1) := by decide +kernel
theorem dX5_useless_17 : decode cX5_useless 17 = .ok (.getfield 36, 3) := by decide +kernel
theorem dX5_useless_20 : decode cX5_useless 20 = .ok (.iload_n 2, 1) := by decide +kernel
theorem dX5_useless_21 : decode cX5_useless 21 = .ok (.invokevirtual 46, 3) := by decide +kernel
theorem dX5_useless_24 : decode cX5_useless 24 = .ok (.aload_n 0, 1) := by decide +kernel
theorem dX5_useless_25 : decode cX5_useless 25 = .ok (.getfield 23, 3) := by decide +kernel
theorem dX5_useless_28 : decode cX5_useless 28 = .ok (.iconst 0, 1) := by decide +kernel
theorem dX5_useless_29 : decode cX5_useless 29 = .ok (.iaload, 1) := by decide +kernel
theorem dX5_useless_30 : decode cX5_useless 30 = .ok (.iload_n 1, 1) := by decide +kernel
theorem dX5_useless_31 : decode cX5_useless 31 = .ok (.if_icmp .ne 5, 3) := by decide +kernel
theorem dX5_useless_34 : decode cX5_useless 34 = .ok (.iload_n 2, 1) := by decide +kernel
theorem dX5_useless_35 : decode cX5_useless 35 = .ok (.ireturn, 1) := by decide +kernel
theorem dX5_useless_36 : decode cX5_useless 36 = .ok (.iinc 2 1, 3) := by decide +kernel
theorem dX5_useless_39 : decode cX5_useless 39 = .ok (.goto (-32), 3) := by decide +kernel
theorem dX5_useless_42 : decode cX5_useless 42 = .ok (.iconst (-1), 1) := by decide +kernel
theorem dX5_useless_43 : decode cX5_useless 43 = .ok (.ireturn, 1) := by decide +kernel
set_option maxRecDepth 20000 in
theorem ggX5_uselessCode_X5_useless : GoodIn wsX5_uselessCode wsX5_useless := goodIn_r _ [5, 6, 7, 8, 9, 10, 4, 11, 12, 13, 14, 15, 16, 17, 18, 19, 20, 21, 22, 23, 24, 30, 31, 32, 33, 34, 35, 36, 37, 38, 39, 40, 41, 42, 43, 44, 45, 46] (by decide +kernel) (by decide +kernel)
set_option maxRecDepth 20000 in
theorem gX5_uselessCode_X5_useless : GoodIn wsX5_uselessCode (wsV RX5 137 RX5 yX5_useless wsX5_useless) := goodIn_app (goodIn_of _ (by decide +kernel)) ggX5_uselessCode_X5_useless
set_option maxRecDepth 20000 in
theorem ggX5_uselessCode_X5_told : GoodIn wsX5_uselessCode wsX5_told := goodIn_r _ [28, 29, 30, 31, 32, 33, 34, 35, 36, 37, 38, 39, 40, 41, 42, 43, 44, 45, 46] (by decide +kernel) (by decide +kernel)
set_option maxRecDepth 20000 in
theorem gX5_uselessCode_X5_told : GoodIn wsX5_uselessCode (wsV RX5 95 RX5 yX5_told wsX5_told) := goodIn_app (goodIn_of _ (by decide +kernel)) ggX5_uselessCode_X5_told
theorem dX5_uselessCode_0 : decode cX5_uselessCode 0 = .ok (.aload_n 0, 1) := by decide +kernel
theorem dX5_uselessCode_1 : decode cX5_uselessCode 1 = .ok (.aload_n 0, 1) := by decide +kernel
theorem dX5_uselessCode_2 : decode cX5_uselessCode 2 = .ok (.invokevirtual 137, 3) := by decide +kernel
theorem dX5_uselessCode_5 : decode cX5_uselessCode 5 = .ok (.invokevirtual 95, 3) := by decide +kernel
theorem dX5_uselessCode_8 : decode cX5_uselessCode 8 = .ok (.ireturn, 1) := by decide +kernel
set_option maxRecDepth 20000 in
theorem ggX5_bestNew_X5_keyAt : GoodIn wsX5_bestNew wsX5_keyAt := goodIn_r _ [10, 1, 11, 17, 18, 19, 20, 21, 22, 23, 24, 25, 26, 27, 28, 29, 30, 31, 32, 33] (by decide +kernel) (by decide +kernel)
set_option maxRecDepth 20000 in
theorem gX5_bestNew_X5_keyAt : GoodIn wsX5_bestNew (wsV RX5 42 RX5 yX5_keyAt wsX5_keyAt) := goodIn_app (goodIn_of _ (by decide +kernel)) ggX5_bestNew_X5_keyAt
set_option maxRecDepth 20000 in
theorem ggX5_bestNew_X5_part : GoodIn wsX5_bestNew wsX5_part := goodIn_r _ [15, 5, 1, 16, 4, 2, 6, 7, 8, 9, 10, 11, 17, 18, 19, 20, 21, 22, 23, 24, 25, 26, 27, 28, 29, 30, 31, 32, 33] (by decide +kernel) (by decide +kernel)
set_option maxRecDepth 20000 in
theorem gX5_bestNew_X5_part : GoodIn wsX5_bestNew (wsV RX5 46 RX5 yX5_part wsX5_part) := goodIn_app (goodIn_of _ (by decide +kernel)) ggX5_bestNew_X5_part
theorem dX5_bestNew_0 : decode cX5_bestNew 0 = .ok (.iconst (-1), 1) := by decide +kernel
theorem dX5_bestNew_1 : decode cX5_bestNew 1 = .ok (.istore_n 2, 1) := by decide +kernel
theorem dX5_bestNew_2 : decode cX5_bestNew 2 = .ok (.bipush 25, 2) := by decide +kernel
theorem dX5_bestNew_4 : decode cX5_bestNew 4 = .ok (.istore_n 3, 1) := by decide +kernel
theorem dX5_bestNew_5 : decode cX5_bestNew 5 = .ok (.iconst 0, 1) := by decide +kernel
theorem dX5_bestNew_6 : decode cX5_bestNew 6 = .ok (.istore 4, 2) := by decide +kernel
theorem dX5_bestNew_8 : decode cX5_bestNew 8 = .ok (.iload 4, 2) := by decide +kernel
theorem dX5_bestNew_10 : decode cX5_bestNew 10 = .ok (.iload_n 1, 1) := by decide +kernel
theorem dX5_bestNew_11 : decode cX5_bestNew 11 = .ok (.iadd, 1) := by decide +kernel
theorem dX5_bestNew_12 : decode cX5_bestNew 12 = .ok (.aload_n 0, 1) := by decide +kernel
theorem dX5_bestNew_13 : decode cX5_bestNew 13 = .ok (.getfield 39, 3) := by decide +kernel
theorem dX5_bestNew_16 : decode cX5_bestNew 16 = .ok (.if_icmp .gt 69, 3) := by decide +kernel
theorem dX5_bestNew_19 : decode cX5_bestNew 19 = .ok (.aload_n 0, 1) := by decide +kernel
theorem dX5_bestNew_20 : decode cX5_bestNew 20 = .ok (.getfield 9, 3) := by decide +kernel
theorem dX5_bestNew_23 : decode cX5_bestNew 23 = .ok (.aload_n 0, 1) := by decide +kernel
theorem dX5_bestNew_24 : decode cX5_bestNew 24 = .ok (.getfield 36, 3) := by decide +kernel
theorem dX5_bestNew_27 : decode cX5_bestNew 27 = .ok (.aload_n 0, 1) := by decide +kernel
theorem dX5_bestNew_28 : decode cX5_bestNew 28 = .ok (.iload 4, 2) := by decide +kernel
theorem dX5_bestNew_30 : decode cX5_bestNew 30 = .ok (.iload_n 1, 1) := by decide +kernel
theorem dX5_bestNew_31 : decode cX5_bestNew 31 = .ok (.invokevirtual 42, 3) := by decide +kernel
theorem dX5_bestNew_34 : decode cX5_bestNew 34 = .ok (.iastore, 1) := by decide +kernel
theorem dX5_bestNew_35 : decode cX5_bestNew 35 = .ok (.aload_n 0, 1) := by decide +kernel
theorem dX5_bestNew_36 : decode cX5_bestNew 36 = .ok (.getfield 13, 3) := by decide +kernel
theorem dX5_bestNew_39 : decode cX5_bestNew 39 = .ok (.aload_n 0, 1) := by decide +kernel
theorem dX5_bestNew_40 : decode cX5_bestNew 40 = .ok (.getfield 36, 3) := by decide +kernel
theorem dX5_bestNew_43 : decode cX5_bestNew 43 = .ok (.iload_n 1, 1) := by decide +kernel
theorem dX5_bestNew_44 : decode cX5_bestNew 44 = .ok (.iastore, 1) := by decide +kernel
theorem dX5_bestNew_45 : decode cX5_bestNew 45 = .ok (.aload_n 0, 1) := by decide +kernel
theorem dX5_bestNew_46 : decode cX5_bestNew 46 = .ok (.aload_n 0, 1) := by decide +kernel
theorem dX5_bestNew_47 : decode cX5_bestNew 47 = .ok (.getfield 36, 3) := by decide +kernel
theorem dX5_bestNew_50 : decode cX5_bestNew 50 = .ok (.iconst 1, 1) := by decide +kernel
theorem dX5_bestNew_51 : decode cX5_bestNew 51 = .ok (.iadd, 1) := by decide +kernel
theorem dX5_bestNew_52 : decode cX5_bestNew 52 = .ok (.iconst (-1), 1) := by decide +kernel
theorem dX5_bestNew_53 : decode cX5_bestNew 53 = .ok (.invokevirtual 46, 3) := by decide +kernel
theorem dX5_bestNew_56 : decode cX5_bestNew 56 = .ok (.aload_n 0, 1) := by decide +kernel
theorem dX5_bestNew_57 : decode cX5_bestNew 57 = .ok (.getfield 23, 3) := by decide +kernel
theorem dX5_bestNew_60 : decode cX5_bestNew 60 = .ok (.iconst 0, 1) := by decide +kernel
theorem dX5_bestNew_61 : decode cX5_bestNew 61 = .ok (.iaload, 1) := by decide +kernel
theorem dX5_bestNew_62 : decode cX5_bestNew 62 = .ok (.iload_n 3, 1) := by decide +kernel
theorem dX5_bestNew_63 : decode cX5_bestNew 63 = .ok (.if_icmp .lt 6, 3) := by decide +kernel
theorem dX5_bestNew_66 : decode cX5_bestNew 66 = .ok (.goto 13, 3) := by decide +kernel
theorem dX5_bestNew_69 : decode cX5_bestNew 69 = .ok (.iload 4, 2) := by decide +kernel
theorem dX5_bestNew_71 : decode cX5_bestNew 71 = .ok (.istore_n 2, 1) := by decide +kernel
theorem dX5_bestNew_72 : decode cX5_bestNew 72 = .ok (.aload_n 0, 1) := by decide +kernel
theorem dX5_bestNew_73 : decode cX5_bestNew 73 = .ok (.getfield 23, 3) := by decide +kernel
theorem dX5_bestNew_76 : decode cX5_bestNew 76 = .ok (.iconst 0, 1) := by decide +kernel
theorem dX5_bestNew_77 : decode cX5_bestNew 77 = .ok (.iaload, 1) := by decide +kernel
theorem dX5_bestNew_78 : decode cX5_bestNew 78 = .ok (.istore_n 3, 1) := by decide +kernel
theorem dX5_bestNew_79 : decode cX5_bestNew 79 = .ok (.iinc 4 1, 3) := by decide +kernel
theorem dX5_bestNew_82 : decode cX5_bestNew 82 = .ok (.goto (-74), 3) := by decide +kernel
theorem dX5_bestNew_85 : decode cX5_bestNew 85 = .ok (.iload_n 2, 1) := by decide +kernel
theorem dX5_bestNew_86 : decode cX5_bestNew 86 = .ok (.ireturn, 1) := by decide +kernel
set_option maxRecDepth 20000 in
theorem ggX5_bestNewCode_X5_isIn : GoodIn wsX5_bestNewCode wsX5_isIn := goodIn_r _ [5] (by decide +kernel) (by decide +kernel)
set_option maxRecDepth 20000 in
theorem gX5_bestNewCode_X5_isIn : GoodIn wsX5_bestNewCode (va_wsS RX5 32 yX5_isIn wsX5_isIn) := goodIn_app (goodIn_of _ (by decide +kernel)) ggX5_bestNewCode_X5_isIn
set_option maxRecDepth 20000 in
theorem ggX5_bestNewCode_X5_bestNew : GoodIn wsX5_bestNewCode wsX5_bestNew := goodIn_r _ [9, 10, 11, 12, 13, 14, 15, 16, 17, 4, 18, 19, 20, 21, 22, 23, 24, 29, 30, 31, 32, 33, 34, 35, 36, 37, 38, 39, 40, 41, 42, 43, 44, 45] (by decide +kernel) (by decide +kernel)
set_option maxRecDepth 20000 in
theorem gX5_bestNewCode_X5_bestNew : GoodIn wsX5_bestNewCode (wsV RX5 140 RX5 yX5_bestNew wsX5_bestNew) := goodIn_app (goodIn_of _ (by decide +kernel)) ggX5_bestNewCode_X5_bestNew
set_option maxRecDepth 20000 in
theorem ggX5_bestNewCode_X5_fail : GoodIn wsX5_bestNewCode wsX5_fail := goodIn_r _ [28, 1, 29, 30, 31, 32, 33, 34, 35, 36, 37, 38, 39, 40, 41, 42, 43, 44, 45] (by decide +kernel) (by decide +kernel)
set_option maxRecDepth 20000 in
theorem gX5_bestNewCode_X5_fail : GoodIn wsX5_bestNewCode (wsV RX5 89 RX5 yX5_fail wsX5_fail) := goodIn_app (goodIn_of _ (by decide +kernel)) ggX5_bestNewCode_X5_fail
theorem dX5_bestNewCode_0 : decode cX5_bestNewCode 0 = .ok (.aload_n 0, 1) := by decide +kernel
theorem dX5_bestNewCode_1 : decode cX5_bestNewCode 1 = .ok (.iconst 0, 1) := by decide +kernel
theorem dX5_bestNewCode_2 : decode cX5_bestNewCode 2 = .ok (.putfield 29, 3) := by decide +kernel
theorem dX5_bestNewCode_5 : decode cX5_bestNewCode 5 = .ok (.iload_n 1, 1) := by decide +kernel
theorem dX5_bestNewCode_6 : decode cX5_bestNewCode 6 = .ok (.iconst 2, 1) := by decide +kernel
theorem dX5_bestNewCode_7 : decode cX5_bestNewCode 7 = .ok (.iconst 4, 1) := by decide +kernel
theorem dX5_bestNewCode_8 : decode cX5_bestNewCode 8 = .ok (.invokestatic 32, 3) := by decide +kernel
theorem dX5_bestNewCode_11 : decode cX5_bestNewCode 11 = .ok (.ifCond .eq 11, 3) := by decide +kernel
theorem dX5_bestNewCode_14 : decode cX5_bestNewCode 14 = .ok (.aload_n 0, 1) := by decide +kernel
theorem dX5_bestNewCode_15 : decode cX5_bestNewCode 15 = .ok (.iload_n 1, 1) := by decide +kernel
theorem dX5_bestNewCode_16 : decode cX5_bestNewCode 16 = .ok (.invokevirtual 140, 3) := by decide +kernel
theorem dX5_bestNewCode_19 : decode cX5_bestNewCode 19 = .ok (.goto 8, 3) := by decide +kernel
theorem dX5_bestNewCode_22 : decode cX5_bestNewCode 22 = .ok (.aload_n 0, 1) := by decide +kernel
theorem dX5_bestNewCode_23 : decode cX5_bestNewCode 23 = .ok (.iconst 1, 1) := by decide +kernel
theorem dX5_bestNewCode_24 : decode cX5_bestNewCode 24 = .ok (.invokevirtual 89, 3) := by decide +kernel
theorem dX5_bestNewCode_27 : decode cX5_bestNewCode 27 = .ok (.ireturn, 1) := by decide +kernel
theorem dX5_meanLength_0 : decode cX5_meanLength 0 = .ok (.aload_n 0, 1) := by decide +kernel
theorem dX5_meanLength_1 : decode cX5_meanLength 1 = .ok (.iconst 0, 1) := by decide +kernel
theorem dX5_meanLength_2 : decode cX5_meanLength 2 = .ok (.putfield 29, 3) := by decide +kernel
theorem dX5_meanLength_5 : decode cX5_meanLength 5 = .ok (.iconst 0, 1) := by decide +kernel
theorem dX5_meanLength_6 : decode cX5_meanLength 6 = .ok (.istore_n 1, 1) := by decide +kernel
theorem dX5_meanLength_7 : decode cX5_meanLength 7 = .ok (.iconst 0, 1) := by decide +kernel
theorem dX5_meanLength_8 : decode cX5_meanLength 8 = .ok (.istore_n 2, 1) := by decide +kernel
theorem dX5_meanLength_9 : decode cX5_meanLength 9 = .ok (.iload_n 2, 1) := by decide +kernel
theorem dX5_meanLength_10 : decode cX5_meanLength 10 = .ok (.aload_n 0, 1) := by decide +kernel
theorem dX5_meanLength_11 : decode cX5_meanLength 11 = .ok (.getfield 36, 3) := by decide +kernel
theorem dX5_meanLength_14 : decode cX5_meanLength 14 = .ok (.if_icmp .ge 18, 3) := by decide +kernel
theorem dX5_meanLength_17 : decode cX5_meanLength 17 = .ok (.iload_n 1, 1) := by decide +kernel
theorem dX5_meanLength_18 : decode cX5_meanLength 18 = .ok (.aload_n 0, 1) := by decide +kernel
theorem dX5_meanLength_19 : decode cX5_meanLength 19 = .ok (.getfield 13, 3) := by decide +kernel
theorem dX5_meanLength_22 : decode cX5_meanLength 22 = .ok (.iload_n 2, 1) := by decide +kernel
theorem dX5_meanLength_23 : decode cX5_meanLength 23 = .ok (.iaload, 1) := by decide +kernel
theorem dX5_meanLength_24 : decode cX5_meanLength 24 = .ok (.iadd, 1) := by decide +kernel
theorem dX5_meanLength_25 : decode cX5_meanLength 25 = .ok (.istore_n 1, 1) := by decide +kernel
theorem dX5_meanLength_26 : decode cX5_meanLength 26 = .ok (.iinc 2 1, 3) := by decide +kernel
theorem dX5_meanLength_29 : decode cX5_meanLength 29 = .ok (.goto (-20), 3) := by decide +kernel
theorem dX5_meanLength_32 : decode cX5_meanLength 32 = .ok (.aload_n 0, 1) := by decide +kernel
theorem dX5_meanLength_33 : decode cX5_meanLength 33 = .ok (.getfield 36, 3) := by decide +kernel
theorem dX5_meanLength_36 : decode cX5_meanLength 36 = .ok (.ifCond .ne 7, 3) := by decide +kernel
theorem dX5_meanLength_39 : decode cX5_meanLength 39 = .ok (.dconst 0, 1) := by decide +kernel
theorem dX5_meanLength_40 : decode cX5_meanLength 40 = .ok (.goto 11, 3) := by decide +kernel
theorem dX5_meanLength_43 : decode cX5_meanLength 43 = .ok (.iload_n 1, 1) := by decide +kernel
theorem dX5_meanLength_44 : decode cX5_meanLength 44 = .ok (.i2d, 1) := by decide +kernel
theorem dX5_meanLength_45 : decode cX5_meanLength 45 = .ok (.aload_n 0, 1) := by decide +kernel
theorem dX5_meanLength_46 : decode cX5_meanLength 46 = .ok (.getfield 36, 3) := by decide +kernel
theorem dX5_meanLength_49 : decode cX5_meanLength 49 = .ok (.i2d, 1) := by decide +kernel
theorem dX5_meanLength_50 : decode cX5_meanLength 50 = .ok (.ddiv, 1) := by decide +kernel
theorem dX5_meanLength_51 : decode cX5_meanLength 51 = .ok (.dreturn, 1) := by decide +kernel
set_option maxRecDepth 20000 in
theorem ggX5_digest_X5_all : GoodIn wsX5_digest wsX5_all := goodIn_r _ [18, 3, 19, 20, 21, 22, 17, 23, 4, 13, 11, 24, 25, 26, 27, 28, 12, 93, 94, 95, 96, 97, 98, 99, 100, 101, 102, 103, 104, 105, 106, 107, 108, 109] (by decide +kernel) (by decide +kernel)
set_option maxRecDepth 20000 in
theorem gX5_digest_X5_all : GoodIn wsX5_digest (wsV RX5 98 RX5 yX5_all wsX5_all) := goodIn_app (goodIn_of _ (by decide +kernel)) ggX5_digest_X5_all
set_option maxRecDepth 20000 in
theorem ggX5_digest_X5_count : GoodIn wsX5_digest wsX5_count := goodIn_r _ [32, 3, 4, 13, 12, 20, 21, 22, 17, 23, 19, 11, 24, 25, 26, 27, 28, 33, 34, 35, 36, 93, 94, 95, 96, 97, 98, 99, 100, 101, 102, 103, 104, 105, 106, 107, 108, 109] (by decide +kernel) (by decide +kernel)
set_option maxRecDepth 20000 in
theorem gX5_digest_X5_count : GoodIn wsX5_digest (wsV RX5 59 RX5 yX5_count wsX5_count) := goodIn_app (goodIn_of _ (by decide +kernel)) ggX5_digest_X5_count
set_option maxRecDepth 20000 in
theorem ggX5_digest_X5_priceNow : GoodIn wsX5_digest wsX5_priceNow := goodIn_r _ [40, 29, 30, 31, 17, 32, 3, 4, 13, 12, 20, 21, 22, 23, 19, 11, 24, 25, 26, 27, 28, 33, 34, 35, 36, 41, 42, 43, 44, 45, 46, 47, 48, 93, 94, 95, 96, 97, 98, 99, 100, 101, 102, 103, 104, 105, 106, 107, 108, 109] (by decide +kernel) (by decide +kernel)
set_option maxRecDepth 20000 in
theorem gX5_digest_X5_priceNow : GoodIn wsX5_digest (wsV RX5 107 RX5 yX5_priceNow wsX5_priceNow) := goodIn_app (goodIn_of _ (by decide +kernel)) ggX5_digest_X5_priceNow
set_option maxRecDepth 20000 in
theorem ggX5_digest_X5_priceOfWords : GoodIn wsX5_digest wsX5_priceOfWords := goodIn_r _ [52, 4, 12, 41, 42, 43, 17, 44, 45, 46, 47, 48, 93, 94, 95, 96, 97, 98, 99, 100, 101, 102, 103, 104, 105, 106, 107, 108, 109] (by decide +kernel) (by decide +kernel)
set_option maxRecDepth 20000 in
theorem gX5_digest_X5_priceOfWords : GoodIn wsX5_digest (wsV RX5 110 RX5 yX5_priceOfWords wsX5_priceOfWords) := goodIn_app (goodIn_of _ (by decide +kernel)) ggX5_digest_X5_priceOfWords
set_option maxRecDepth 20000 in
theorem ggX5_digest_X5_until : GoodIn wsX5_digest wsX5_until := goodIn_r _ [56, 5, 57, 58, 59, 17, 60, 93, 94, 95, 96, 97, 98, 99, 100, 101, 102, 103, 104, 105, 106, 107, 108, 109] (by decide +kernel) (by decide +kernel)
set_option maxRecDepth 20000 in
theorem gX5_digest_X5_until : GoodIn wsX5_digest (wsV RX5 125 RX5 yX5_until wsX5_until) := goodIn_app (goodIn_of _ (by decide +kernel)) ggX5_digest_X5_until
set_option maxRecDepth 20000 in
theorem ggX5_digest_X5_garbled : GoodIn wsX5_digest wsX5_garbled := goodIn_r _ [64, 57, 65, 14, 15, 16, 17, 18, 3, 19, 20, 21, 22, 23, 4, 13, 11, 24, 25, 26, 27, 28, 12, 66, 67, 68, 69, 70, 71, 72, 5, 58, 59, 60, 93, 94, 95, 96, 97, 98, 99, 100, 101, 102, 103, 104, 105, 106, 107, 108, 109] (by decide +kernel) (by decide +kernel)
set_option maxRecDepth 20000 in
theorem gX5_digest_X5_garbled : GoodIn wsX5_digest (wsV RX5 128 RX5 yX5_garbled wsX5_garbled) := goodIn_app (goodIn_of _ (by decide +kernel)) ggX5_digest_X5_garbled
set_option maxRecDepth 20000 in
theorem ggX5_digest_X5_again : GoodIn wsX5_digest wsX5_again := goodIn_r _ [76, 57, 71, 14, 15, 16, 17, 18, 3, 19, 20, 21, 22, 23, 4, 13, 11, 24, 25, 26, 27, 28, 12, 66, 67, 68, 69, 70, 72, 65, 5, 58, 59, 60, 93, 94, 95, 96, 97, 98, 99, 100, 101, 102, 103, 104, 105, 106, 107, 108, 109] (by decide +kernel) (by decide +kernel)
set_option maxRecDepth 20000 in
theorem gX5_digest_X5_again : GoodIn wsX5_digest (wsV RX5 131 RX5 yX5_again wsX5_again) := goodIn_app (goodIn_of _ (by decide +kernel)) ggX5_digest_X5_again
set_option maxRecDepth 20000 in
theorem ggX5_digest_X5_wanted : GoodIn wsX5_digest wsX5_wanted := goodIn_r _ [80, 72, 14, 15, 16, 17, 18, 3, 19, 20, 21, 22, 23, 4, 13, 11, 24, 25, 26, 27, 28, 12, 66, 67, 68, 69, 70, 71, 65, 5, 58, 59, 60, 93, 94, 95, 96, 97, 98, 99, 100, 101, 102, 103, 104, 105, 106, 107, 108, 109] (by decide +kernel) (by decide +kernel)
set_option maxRecDepth 20000 in
theorem gX5_digest_X5_wanted : GoodIn wsX5_digest (wsV RX5 134 RX5 yX5_wanted wsX5_wanted) := goodIn_app (goodIn_of _ (by decide +kernel)) ggX5_digest_X5_wanted
set_option maxRecDepth 20000 in
theorem ggX5_digest_X5_useless : GoodIn wsX5_digest wsX5_useless := goodIn_r _ [84, 3, 19, 14, 15, 16, 17, 18, 20, 21, 22, 23, 4, 13, 11, 24, 25, 26, 27, 28, 12, 93, 94, 95, 96, 97, 98, 99, 100, 101, 102, 103, 104, 105, 106, 107, 108, 109] (by decide +kernel) (by decide +kernel)
set_option maxRecDepth 20000 in
theorem gX5_digest_X5_useless : GoodIn wsX5_digest (wsV RX5 137 RX5 yX5_useless wsX5_useless) := goodIn_app (goodIn_of _ (by decide +kernel)) ggX5_digest_X5_useless
set_option maxRecDepth 20000 in
theorem ggX5_digest_X5_bestNew : GoodIn wsX5_digest wsX5_bestNew := goodIn_r _ [88, 4, 24, 3, 11, 19, 25, 26, 27, 17, 28, 12, 20, 21, 22, 23, 13, 93, 94, 95, 96, 97, 98, 99, 100, 101, 102, 103, 104, 105, 106, 107, 108, 109] (by decide +kernel) (by decide +kernel)
set_option maxRecDepth 20000 in
theorem gX5_digest_X5_bestNew : GoodIn wsX5_digest (wsV RX5 140 RX5 yX5_bestNew wsX5_bestNew) := goodIn_app (goodIn_of _ (by decide +kernel)) ggX5_digest_X5_bestNew
set_option maxRecDepth 20000 in
theorem ggX5_digest_X5_uses : GoodIn wsX5_digest wsX5_uses := goodIn_r _ [92, 3, 4, 13, 20, 21, 22, 17, 23, 19, 11, 24, 25, 26, 27, 28, 12, 33, 34, 35, 36, 93, 94, 95, 96, 97, 98, 99, 100, 101, 102, 103, 104, 105, 106, 107, 108, 109] (by decide +kernel) (by decide +kernel)
set_option maxRecDepth 20000 in
theorem gX5_digest_X5_uses : GoodIn wsX5_digest (wsV RX5 104 RX5 yX5_uses wsX5_uses) := goodIn_app (goodIn_of _ (by decide +kernel)) ggX5_digest_X5_uses
set_option maxRecDepth 20000 in
theorem ggX5_digest_X5_part : GoodIn wsX5_digest wsX5_part := goodIn_r _ [23, 19, 4, 13, 11, 24, 25, 26, 27, 17, 28, 12, 93, 94, 95, 96, 97, 98, 99, 100, 101, 102, 103, 104, 105, 106, 107, 108, 109] (by decide +kernel) (by decide +kernel)
set_option maxRecDepth 20000 in
theorem gX5_digest_X5_part : GoodIn wsX5_digest (wsV RX5 46 RX5 yX5_part wsX5_part) := goodIn_app (goodIn_of _ (by decide +kernel)) ggX5_digest_X5_part
set_option maxRecDepth 20000 in
theorem ggX5_digest_X5_next : GoodIn wsX5_digest wsX5_next := goodIn_r _ [36, 13, 11, 93, 94, 95, 96, 97, 98, 99, 100, 101, 102, 103, 104, 105, 106, 107, 108, 109] (by decide +kernel) (by decide +kernel)
set_option maxRecDepth 20000 in
theorem gX5_digest_X5_next : GoodIn wsX5_digest (wsV RX5 50 RX5 yX5_next wsX5_next) := goodIn_app (goodIn_of _ (by decide +kernel)) ggX5_digest_X5_next
theorem dX5_digest_0 : decode cX5_digest 0 = .ok (.aload_n 0, 1) := by decide +kernel
theorem dX5_digest_1 : decode cX5_digest 1 = .ok (.iconst 0, 1) := by decide +kernel
theorem dX5_digest_2 : decode cX5_digest 2 = .ok (.putfield 29, 3) := by decide +kernel
theorem dX5_digest_5 : decode cX5_digest 5 = .ok (.bipush 18, 2) := by decide +kernel
theorem dX5_digest_7 : decode cX5_digest 7 = .ok (.newarray .int, 2) := by decide +kernel
theorem dX5_digest_9 : decode cX5_digest 9 = .ok (.dup, 1) := by decide +kernel
theorem dX5_digest_10 : decode cX5_digest 10 = .ok (.iconst 0, 1) := by decide +kernel
theorem dX5_digest_11 : decode cX5_digest 11 = .ok (.aload_n 0, 1) := by decide +kernel
theorem dX5_digest_12 : decode cX5_digest 12 = .ok (.getfield 36, 3) := by decide +kernel
theorem dX5_digest_15 : decode cX5_digest 15 = .ok (.iastore, 1) := by decide +kernel
theorem dX5_digest_16 : decode cX5_digest 16 = .ok (.dup, 1) := by decide +kernel
theorem dX5_digest_17 : decode cX5_digest 17 = .ok (.iconst 1, 1) := by decide +kernel
theorem dX5_digest_18 : decode cX5_digest 18 = .ok (.aload_n 0, 1) := by decide +kernel
theorem dX5_digest_19 : decode cX5_digest 19 = .ok (.getfield 39, 3) := by decide +kernel
theorem dX5_digest_22 : decode cX5_digest 22 = .ok (.iastore, 1) := by decide +kernel
theorem dX5_digest_23 : decode cX5_digest 23 = .ok (.dup, 1) := by decide +kernel
theorem dX5_digest_24 : decode cX5_digest 24 = .ok (.iconst 2, 1) := by decide +kernel
theorem dX5_digest_25 : decode cX5_digest 25 = .ok (.aload_n 0, 1) := by decide +kernel
theorem dX5_digest_26 : decode cX5_digest 26 = .ok (.invokevirtual 98, 3) := by decide +kernel
theorem dX5_digest_29 : decode cX5_digest 29 = .ok (.iastore, 1) := by decide +kernel
theorem dX5_digest_30 : decode cX5_digest 30 = .ok (.dup, 1) := by decide +kernel
theorem dX5_digest_31 : decode cX5_digest 31 = .ok (.iconst 3, 1) := by decide +kernel
theorem dX5_digest_32 : decode cX5_digest 32 = .ok (.aload_n 0, 1) := by decide +kernel
theorem dX5_digest_33 : decode cX5_digest 33 = .ok (.invokevirtual 59, 3) := by decide +kernel
theorem dX5_digest_36 : decode cX5_digest 36 = .ok (.iastore, 1) := by decide +kernel
theorem dX5_digest_37 : decode cX5_digest 37 = .ok (.dup, 1) := by decide +kernel
theorem dX5_digest_38 : decode cX5_digest 38 = .ok (.iconst 4, 1) := by decide +kernel
theorem dX5_digest_39 : decode cX5_digest 39 = .ok (.aload_n 0, 1) := by decide +kernel
theorem dX5_digest_40 : decode cX5_digest 40 = .ok (.invokevirtual 107, 3) := by decide +kernel
theorem dX5_digest_43 : decode cX5_digest 43 = .ok (.iastore, 1) := by decide +kernel
theorem dX5_digest_44 : decode cX5_digest 44 = .ok (.dup, 1) := by decide +kernel
theorem dX5_digest_45 : decode cX5_digest 45 = .ok (.iconst 5, 1) := by decide +kernel
theorem dX5_digest_46 : decode cX5_digest 46 = .ok (.aload_n 0, 1) := by decide +kernel
theorem dX5_digest_47 : decode cX5_digest 47 = .ok (.invokevirtual 110, 3) := by decide +kernel
theorem dX5_digest_50 : decode cX5_digest 50 = .ok (.aload_n 0, 1) := by decide +kernel
theorem dX5_digest_51 : decode cX5_digest 51 = .ok (.invokevirtual 107, 3) := by decide +kernel
theorem dX5_digest_54 : decode cX5_digest 54 = .ok (.isub, 1) := by decide +kernel
theorem dX5_digest_55 : decode cX5_digest 55 = .ok (.iastore, 1) := by decide +kernel
theorem dX5_digest_56 : decode cX5_digest 56 = .ok (.dup, 1) := by decide +kernel
theorem dX5_digest_57 : decode cX5_digest 57 = .ok (.bipush 6, 2) := by decide +kernel
theorem dX5_digest_59 : decode cX5_digest 59 = .ok (.aload_n 0, 1) := by decide +kernel
theorem dX5_digest_60 : decode cX5_digest 60 = .ok (.getfield 78, 3) := by decide +kernel
theorem dX5_digest_63 : decode cX5_digest 63 = .ok (.iastore, 1) := by decide +kernel
theorem dX5_digest_64 : decode cX5_digest 64 = .ok (.dup, 1) := by decide +kernel
theorem dX5_digest_65 : decode cX5_digest 65 = .ok (.bipush 7, 2) := by decide +kernel
theorem dX5_digest_67 : decode cX5_digest 67 = .ok (.aload_n 0, 1) := by decide +kernel
theorem dX5_digest_68 : decode cX5_digest 68 = .ok (.getfield 119, 3) := by decide +kernel
theorem dX5_digest_71 : decode cX5_digest 71 = .ok (.iastore, 1) := by decide +kernel
theorem dX5_digest_72 : decode cX5_digest 72 = .ok (.dup, 1) := by decide +kernel
theorem dX5_digest_73 : decode cX5_digest 73 = .ok (.bipush 8, 2) := by decide +kernel
theorem dX5_digest_75 : decode cX5_digest 75 = .ok (.aload_n 0, 1) := by decide +kernel
theorem dX5_digest_76 : decode cX5_digest 76 = .ok (.getfield 122, 3) := by decide +kernel
theorem dX5_digest_79 : decode cX5_digest 79 = .ok (.iastore, 1) := by decide +kernel
theorem dX5_digest_80 : decode cX5_digest 80 = .ok (.dup, 1) := by decide +kernel
theorem dX5_digest_81 : decode cX5_digest 81 = .ok (.bipush 9, 2) := by decide +kernel
theorem dX5_digest_83 : decode cX5_digest 83 = .ok (.aload_n 0, 1) := by decide +kernel
theorem dX5_digest_84 : decode cX5_digest 84 = .ok (.getfield 113, 3) := by decide +kernel
theorem dX5_digest_87 : decode cX5_digest 87 = .ok (.iastore, 1) := by decide +kernel
theorem dX5_digest_88 : decode cX5_digest 88 = .ok (.dup, 1) := by decide +kernel
theorem dX5_digest_89 : decode cX5_digest 89 = .ok (.bipush 10, 2) := by decide +kernel
theorem dX5_digest_91 : decode cX5_digest 91 = .ok (.aload_n 0, 1) := by decide +kernel
theorem dX5_digest_92 : decode cX5_digest 92 = .ok (.invokevirtual 125, 3) := by decide +kernel
theorem dX5_digest_95 : decode cX5_digest 95 = .ok (.iastore, 1) := by decide +kernel
theorem dX5_digest_96 : decode cX5_digest 96 = .ok (.dup, 1) := by decide +kernel
theorem dX5_digest_97 : decode cX5_digest 97 = .ok (.bipush 11, 2) := by decide +kernel
theorem dX5_digest_99 : decode cX5_digest 99 = .ok (.aload_n 0, 1) := by decide +kernel
theorem dX5_digest_100 : decode cX5_digest 100 = .ok (.invokevirtual 128, 3) := by decide +kernel
theorem dX5_digest_103 : decode cX5_digest 103 = .ok (.iastore, 1) := by decide +kernel
theorem dX5_digest_104 : decode cX5_digest 104 = .ok (.dup, 1) := by decide +kernel
theorem dX5_digest_105 : decode cX5_digest 105 = .ok (.bipush 12, 2) := by decide +kernel
theorem dX5_digest_107 : decode cX5_digest 107 = .ok (.aload_n 0, 1) := by decide +kernel
theorem dX5_digest_108 : decode cX5_digest 108 = .ok (.invokevirtual 131, 3) := by decide +kernel
theorem dX5_digest_111 : decode cX5_digest 111 = .ok (.iastore, 1) := by decide +kernel
theorem dX5_digest_112 : decode cX5_digest 112 = .ok (.dup, 1) := by decide +kernel
theorem dX5_digest_113 : decode cX5_digest 113 = .ok (.bipush 13, 2) := by decide +kernel
theorem dX5_digest_115 : decode cX5_digest 115 = .ok (.aload_n 0, 1) := by decide +kernel
theorem dX5_digest_116 : decode cX5_digest 116 = .ok (.invokevirtual 134, 3) := by decide +kernel
theorem dX5_digest_119 : decode cX5_digest 119 = .ok (.iastore, 1) := by decide +kernel
theorem dX5_digest_120 : decode cX5_digest 120 = .ok (.dup, 1) := by decide +kernel
theorem dX5_digest_121 : decode cX5_digest 121 = .ok (.bipush 14, 2) := by decide +kernel
theorem dX5_digest_123 : decode cX5_digest 123 = .ok (.aload_n 0, 1) := by decide +kernel
theorem dX5_digest_124 : decode cX5_digest 124 = .ok (.invokevirtual 137, 3) := by decide +kernel
theorem dX5_digest_127 : decode cX5_digest 127 = .ok (.iastore, 1) := by decide +kernel
theorem dX5_digest_128 : decode cX5_digest 128 = .ok (.dup, 1) := by decide +kernel
theorem dX5_digest_129 : decode cX5_digest 129 = .ok (.bipush 15, 2) := by decide +kernel
theorem dX5_digest_131 : decode cX5_digest 131 = .ok (.aload_n 0, 1) := by decide +kernel
theorem dX5_digest_132 : decode cX5_digest 132 = .ok (.iconst 2, 1) := by decide +kernel
theorem dX5_digest_133 : decode cX5_digest 133 = .ok (.invokevirtual 140, 3) := by decide +kernel
theorem dX5_digest_136 : decode cX5_digest 136 = .ok (.iastore, 1) := by decide +kernel
theorem dX5_digest_137 : decode cX5_digest 137 = .ok (.dup, 1) := by decide +kernel
theorem dX5_digest_138 : decode cX5_digest 138 = .ok (.bipush 16, 2) := by decide +kernel
theorem dX5_digest_140 : decode cX5_digest 140 = .ok (.aload_n 0, 1) := by decide +kernel
theorem dX5_digest_141 : decode cX5_digest 141 = .ok (.iconst 3, 1) := by decide +kernel
theorem dX5_digest_142 : decode cX5_digest 142 = .ok (.invokevirtual 140, 3) := by decide +kernel
theorem dX5_digest_145 : decode cX5_digest 145 = .ok (.iastore, 1) := by decide +kernel
theorem dX5_digest_146 : decode cX5_digest 146 = .ok (.dup, 1) := by decide +kernel
theorem dX5_digest_147 : decode cX5_digest 147 = .ok (.bipush 17, 2) := by decide +kernel
theorem dX5_digest_149 : decode cX5_digest 149 = .ok (.aload_n 0, 1) := by decide +kernel
theorem dX5_digest_150 : decode cX5_digest 150 = .ok (.iconst 4, 1) := by decide +kernel
theorem dX5_digest_151 : decode cX5_digest 151 = .ok (.invokevirtual 140, 3) := by decide +kernel
theorem dX5_digest_154 : decode cX5_digest 154 = .ok (.iastore, 1) := by decide +kernel
theorem dX5_digest_155 : decode cX5_digest 155 = .ok (.astore_n 1, 1) := by decide +kernel
theorem dX5_digest_156 : decode cX5_digest 156 = .ok (.ldc2_w 143, 3) := by decide +kernel
theorem dX5_digest_159 : decode cX5_digest 159 = .ok (.lstore_n 2, 1) := by decide +kernel
theorem dX5_digest_160 : decode cX5_digest 160 = .ok (.aload_n 1, 1) := by decide +kernel
theorem dX5_digest_161 : decode cX5_digest 161 = .ok (.astore 4, 2) := by decide +kernel
theorem dX5_digest_163 : decode cX5_digest 163 = .ok (.aload 4, 2) := by decide +kernel
theorem dX5_digest_165 : decode cX5_digest 165 = .ok (.arraylength, 1) := by decide +kernel
theorem dX5_digest_166 : decode cX5_digest 166 = .ok (.istore 5, 2) := by decide +kernel
theorem dX5_digest_168 : decode cX5_digest 168 = .ok (.iconst 0, 1) := by decide +kernel
theorem dX5_digest_169 : decode cX5_digest 169 = .ok (.istore 6, 2) := by decide +kernel
theorem dX5_digest_171 : decode cX5_digest 171 = .ok (.iload 6, 2) := by decide +kernel
theorem dX5_digest_173 : decode cX5_digest 173 = .ok (.iload 5, 2) := by decide +kernel
theorem dX5_digest_175 : decode cX5_digest 175 = .ok (.if_icmp .ge 26, 3) := by decide +kernel
theorem dX5_digest_178 : decode cX5_digest 178 = .ok (.aload 4, 2) := by decide +kernel
theorem dX5_digest_180 : decode cX5_digest 180 = .ok (.iload 6, 2) := by decide +kernel
theorem dX5_digest_182 : decode cX5_digest 182 = .ok (.iaload, 1) := by decide +kernel
theorem dX5_digest_183 : decode cX5_digest 183 = .ok (.istore 7, 2) := by decide +kernel
theorem dX5_digest_185 : decode cX5_digest 185 = .ok (.lload_n 2, 1) := by decide +kernel
theorem dX5_digest_186 : decode cX5_digest 186 = .ok (.ldc2_w 145, 3) := by decide +kernel
theorem dX5_digest_189 : decode cX5_digest 189 = .ok (.lmul, 1) := by decide +kernel
theorem dX5_digest_190 : decode cX5_digest 190 = .ok (.iload 7, 2) := by decide +kernel
theorem dX5_digest_192 : decode cX5_digest 192 = .ok (.i2l, 1) := by decide +kernel
theorem dX5_digest_193 : decode cX5_digest 193 = .ok (.ladd, 1) := by decide +kernel
theorem dX5_digest_194 : decode cX5_digest 194 = .ok (.lstore_n 2, 1) := by decide +kernel
theorem dX5_digest_195 : decode cX5_digest 195 = .ok (.iinc 6 1, 3) := by decide +kernel
theorem dX5_digest_198 : decode cX5_digest 198 = .ok (.goto (-27), 3) := by decide +kernel
theorem dX5_digest_201 : decode cX5_digest 201 = .ok (.iconst 0, 1) := by decide +kernel
theorem dX5_digest_202 : decode cX5_digest 202 = .ok (.istore 4, 2) := by decide +kernel
theorem dX5_digest_204 : decode cX5_digest 204 = .ok (.iload 4, 2) := by decide +kernel
theorem dX5_digest_206 : decode cX5_digest 206 = .ok (.aload_n 0, 1) := by decide +kernel
theorem dX5_digest_207 : decode cX5_digest 207 = .ok (.getfield 36, 3) := by decide +kernel
theorem dX5_digest_210 : decode cX5_digest 210 = .ok (.if_icmp .ge 38, 3) := by decide +kernel
theorem dX5_digest_213 : decode cX5_digest 213 = .ok (.lload_n 2, 1) := by decide +kernel
theorem dX5_digest_214 : decode cX5_digest 214 = .ok (.ldc2_w 145, 3) := by decide +kernel
theorem dX5_digest_217 : decode cX5_digest 217 = .ok (.lmul, 1) := by decide +kernel
theorem dX5_digest_218 : decode cX5_digest 218 = .ok (.aload_n 0, 1) := by decide +kernel
theorem dX5_digest_219 : decode cX5_digest 219 = .ok (.getfield 13, 3) := by decide +kernel
theorem dX5_digest_222 : decode cX5_digest 222 = .ok (.iload 4, 2) := by decide +kernel
theorem dX5_digest_224 : decode cX5_digest 224 = .ok (.iaload, 1) := by decide +kernel
theorem dX5_digest_225 : decode cX5_digest 225 = .ok (.i2l, 1) := by decide +kernel
theorem dX5_digest_226 : decode cX5_digest 226 = .ok (.ladd, 1) := by decide +kernel
theorem dX5_digest_227 : decode cX5_digest 227 = .ok (.lstore_n 2, 1) := by decide +kernel
theorem dX5_digest_228 : decode cX5_digest 228 = .ok (.lload_n 2, 1) := by decide +kernel
theorem dX5_digest_229 : decode cX5_digest 229 = .ok (.ldc2_w 145, 3) := by decide +kernel
theorem dX5_digest_232 : decode cX5_digest 232 = .ok (.lmul, 1) := by decide +kernel
theorem dX5_digest_233 : decode cX5_digest 233 = .ok (.aload_n 0, 1) := by decide +kernel
theorem dX5_digest_234 : decode cX5_digest 234 = .ok (.iload 4, 2) := by decide +kernel
theorem dX5_digest_236 : decode cX5_digest 236 = .ok (.invokevirtual 104, 3) := by decide +kernel
theorem dX5_digest_239 : decode cX5_digest 239 = .ok (.i2l, 1) := by decide +kernel
theorem dX5_digest_240 : decode cX5_digest 240 = .ok (.ladd, 1) := by decide +kernel
theorem dX5_digest_241 : decode cX5_digest 241 = .ok (.lstore_n 2, 1) := by decide +kernel
theorem dX5_digest_242 : decode cX5_digest 242 = .ok (.iinc 4 1, 3) := by decide +kernel
theorem dX5_digest_245 : decode cX5_digest 245 = .ok (.goto (-41), 3) := by decide +kernel
theorem dX5_digest_248 : decode cX5_digest 248 = .ok (.iconst 0, 1) := by decide +kernel
theorem dX5_digest_249 : decode cX5_digest 249 = .ok (.istore 4, 2) := by decide +kernel
theorem dX5_digest_251 : decode cX5_digest 251 = .ok (.iload 4, 2) := by decide +kernel
theorem dX5_digest_253 : decode cX5_digest 253 = .ok (.aload_n 0, 1) := by decide +kernel
theorem dX5_digest_254 : decode cX5_digest 254 = .ok (.getfield 39, 3) := by decide +kernel
theorem dX5_digest_257 : decode cX5_digest 257 = .ok (.if_icmp .ge 24, 3) := by decide +kernel
theorem dX5_digest_260 : decode cX5_digest 260 = .ok (.lload_n 2, 1) := by decide +kernel
theorem dX5_digest_261 : decode cX5_digest 261 = .ok (.ldc2_w 145, 3) := by decide +kernel
theorem dX5_digest_264 : decode cX5_digest 264 = .ok (.lmul, 1) := by decide +kernel
theorem dX5_digest_265 : decode cX5_digest 265 = .ok (.aload_n 0, 1) := by decide +kernel
theorem dX5_digest_266 : decode cX5_digest 266 = .ok (.getfield 16, 3) := by decide +kernel
theorem dX5_digest_269 : decode cX5_digest 269 = .ok (.iload 4, 2) := by decide +kernel
theorem dX5_digest_271 : decode cX5_digest 271 = .ok (.iaload, 1) := by decide +kernel
theorem dX5_digest_272 : decode cX5_digest 272 = .ok (.i2l, 1) := by decide +kernel
theorem dX5_digest_273 : decode cX5_digest 273 = .ok (.ladd, 1) := by decide +kernel
theorem dX5_digest_274 : decode cX5_digest 274 = .ok (.lstore_n 2, 1) := by decide +kernel
theorem dX5_digest_275 : decode cX5_digest 275 = .ok (.iinc 4 1, 3) := by decide +kernel
theorem dX5_digest_278 : decode cX5_digest 278 = .ok (.goto (-27), 3) := by decide +kernel
theorem dX5_digest_281 : decode cX5_digest 281 = .ok (.aload_n 0, 1) := by decide +kernel
theorem dX5_digest_282 : decode cX5_digest 282 = .ok (.aload_n 0, 1) := by decide +kernel
theorem dX5_digest_283 : decode cX5_digest 283 = .ok (.getfield 36, 3) := by decide +kernel
theorem dX5_digest_286 : decode cX5_digest 286 = .ok (.iconst (-1), 1) := by decide +kernel
theorem dX5_digest_287 : decode cX5_digest 287 = .ok (.invokevirtual 46, 3) := by decide +kernel
theorem dX5_digest_290 : decode cX5_digest 290 = .ok (.iconst 0, 1) := by decide +kernel
theorem dX5_digest_291 : decode cX5_digest 291 = .ok (.istore 4, 2) := by decide +kernel
theorem dX5_digest_293 : decode cX5_digest 293 = .ok (.iload 4, 2) := by decide +kernel
theorem dX5_digest_295 : decode cX5_digest 295 = .ok (.aload_n 0, 1) := by decide +kernel
theorem dX5_digest_296 : decode cX5_digest 296 = .ok (.getfield 39, 3) := by decide +kernel
theorem dX5_digest_299 : decode cX5_digest 299 = .ok (.if_icmp .ge 39, 3) := by decide +kernel
theorem dX5_digest_302 : decode cX5_digest 302 = .ok (.lload_n 2, 1) := by decide +kernel
theorem dX5_digest_303 : decode cX5_digest 303 = .ok (.ldc2_w 145, 3) := by decide +kernel
theorem dX5_digest_306 : decode cX5_digest 306 = .ok (.lmul, 1) := by decide +kernel
theorem dX5_digest_307 : decode cX5_digest 307 = .ok (.aload_n 0, 1) := by decide +kernel
theorem dX5_digest_308 : decode cX5_digest 308 = .ok (.getfield 26, 3) := by decide +kernel
theorem dX5_digest_311 : decode cX5_digest 311 = .ok (.iload 4, 2) := by decide +kernel
theorem dX5_digest_313 : decode cX5_digest 313 = .ok (.iaload, 1) := by decide +kernel
theorem dX5_digest_314 : decode cX5_digest 314 = .ok (.i2l, 1) := by decide +kernel
theorem dX5_digest_315 : decode cX5_digest 315 = .ok (.ladd, 1) := by decide +kernel
theorem dX5_digest_316 : decode cX5_digest 316 = .ok (.lstore_n 2, 1) := by decide +kernel
theorem dX5_digest_317 : decode cX5_digest 317 = .ok (.lload_n 2, 1) := by decide +kernel
theorem dX5_digest_318 : decode cX5_digest 318 = .ok (.ldc2_w 145, 3) := by decide +kernel
theorem dX5_digest_321 : decode cX5_digest 321 = .ok (.lmul, 1) := by decide +kernel
theorem dX5_digest_322 : decode cX5_digest 322 = .ok (.iload 4, 2) := by decide +kernel
theorem dX5_digest_324 : decode cX5_digest 324 = .ok (.i2l, 1) := by decide +kernel
theorem dX5_digest_325 : decode cX5_digest 325 = .ok (.ladd, 1) := by decide +kernel
theorem dX5_digest_326 : decode cX5_digest 326 = .ok (.lstore_n 2, 1) := by decide +kernel
theorem dX5_digest_327 : decode cX5_digest 327 = .ok (.aload_n 0, 1) := by decide +kernel
theorem dX5_digest_328 : decode cX5_digest 328 = .ok (.iload 4, 2) := by decide +kernel
theorem dX5_digest_330 : decode cX5_digest 330 = .ok (.invokevirtual 50, 3) := by decide +kernel
theorem dX5_digest_333 : decode cX5_digest 333 = .ok (.istore 4, 2) := by decide +kernel
theorem dX5_digest_335 : decode cX5_digest 335 = .ok (.goto (-42), 3) := by decide +kernel
theorem dX5_digest_338 : decode cX5_digest 338 = .ok (.lload_n 2, 1) := by decide +kernel
theorem dX5_digest_339 : decode cX5_digest 339 = .ok (.lreturn, 1) := by decide +kernel
theorem dJ9_max_7cf53_0 : decode cJ9_max_7cf53 0 = .ok (.iload_n 0, 1) := by decide +kernel
theorem dJ9_max_7cf53_1 : decode cJ9_max_7cf53 1 = .ok (.iload_n 1, 1) := by decide +kernel
theorem dJ9_max_7cf53_2 : decode cJ9_max_7cf53 2 = .ok (.if_icmp .lt 7, 3) := by decide +kernel
theorem dJ9_max_7cf53_5 : decode cJ9_max_7cf53 5 = .ok (.iload_n 0, 1) := by decide +kernel
theorem dJ9_max_7cf53_6 : decode cJ9_max_7cf53 6 = .ok (.goto 4, 3) := by decide +kernel
theorem dJ9_max_7cf53_9 : decode cJ9_max_7cf53 9 = .ok (.iload_n 1, 1) := by decide +kernel
theorem dJ9_max_7cf53_10 : decode cJ9_max_7cf53 10 = .ok (.ireturn, 1) := by decide +kernel
theorem dJ9_min_7cf53_0 : decode cJ9_min_7cf53 0 = .ok (.iload_n 0, 1) := by decide +kernel
theorem dJ9_min_7cf53_1 : decode cJ9_min_7cf53 1 = .ok (.iload_n 1, 1) := by decide +kernel
theorem dJ9_min_7cf53_2 : decode cJ9_min_7cf53 2 = .ok (.if_icmp .gt 7, 3) := by decide +kernel
theorem dJ9_min_7cf53_5 : decode cJ9_min_7cf53 5 = .ok (.iload_n 0, 1) := by decide +kernel
theorem dJ9_min_7cf53_6 : decode cJ9_min_7cf53 6 = .ok (.goto 4, 3) := by decide +kernel
theorem dJ9_min_7cf53_9 : decode cJ9_min_7cf53 9 = .ok (.iload_n 1, 1) := by decide +kernel
theorem dJ9_min_7cf53_10 : decode cJ9_min_7cf53 10 = .ok (.ireturn, 1) := by decide +kernel
set_option maxRecDepth 20000 in
theorem ggL_addCode_X4_addCode : GoodIn wsL_addCode wsX4_addCode := goodIn_ca (goodIn_ca (goodIn_r _ [7, 8, 9, 10, 11, 12, 13, 14, 6, 15, 16, 17, 18, 19, 20, 21, 22, 23, 24, 25, 26, 27, 28, 29, 30, 31, 32, 33, 34, 35, 36, 37, 38, 39, 40, 41, 42, 43, 44, 45, 46, 47, 48, 49, 50, 51, 52, 53, 54, 55, 56, 57, 58, 59, 60, 61, 62, 63, 64, 65, 66, 67, 68, 69, 70, 71, 72, 73, 74, 75, 76, 77, 78, 79, 80, 81, 82, 83, 84, 85, 86, 87, 88, 89, 90, 91, 92, 93, 94, 95, 96, 97, 98, 99, 100, 101, 102, 103, 104, 105, 106, 107, 108, 109, 110, 111, 112, 113, 114, 115, 116, 117, 118, 119, 120, 121, 122, 123, 124, 125, 126, 127, 128, 129, 130, 131, 132, 133] (by decide +kernel) (by decide +kernel)) (goodIn_sub (fun _ h => List.mem_cons_of_mem _ (List.mem_append_left _ (List.mem_append_right _ h))) (by decide +kernel))) (goodIn_sub (fun _ h => List.mem_cons_of_mem _ (List.mem_append_right _ h)) (by decide +kernel))
set_option maxRecDepth 20000 in
theorem gL_addCode_X4_addCode : GoodIn wsL_addCode (wsV RL 7 RX4 yX4_addCode wsX4_addCode) := goodIn_app (goodIn_of _ (by decide +kernel)) ggL_addCode_X4_addCode
