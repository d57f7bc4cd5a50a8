theorem dX5_init_0 : decode cX5_init 0 = .ok (.aload_n 0, 1) := by decide +kernel
theorem dX5_init_1 : decode cX5_init 1 = .ok (.invokespecial 1, 3) := by decide +kernel
theorem dX5_init_4 : decode cX5_init 4 = .ok (.aload_n 0, 1) := by decide +kernel
theorem dX5_init_5 : decode cX5_init 5 = .ok (.iconst 0, 1) := by decide +kernel
theorem dX5_init_6 : decode cX5_init 6 = .ok (.anewarray 7, 3) := by decide +kernel
theorem dX5_init_9 : decode cX5_init 9 = .ok (.putfield 9, 3) := by decide +kernel
theorem dX5_init_12 : decode cX5_init 12 = .ok (.aload_n 0, 1) := by decide +kernel
theorem dX5_init_13 : decode cX5_init 13 = .ok (.iconst 0, 1) := by decide +kernel
theorem dX5_init_14 : decode cX5_init 14 = .ok (.newarray .int, 2) := by decide +kernel
theorem dX5_init_16 : decode cX5_init 16 = .ok (.putfield 15, 3) := by decide +kernel
theorem dX5_init_19 : decode cX5_init 19 = .ok (.aload_n 0, 1) := by decide +kernel
theorem dX5_init_20 : decode cX5_init 20 = .ok (.bipush 7, 2) := by decide +kernel
theorem dX5_init_22 : decode cX5_init 22 = .ok (.putfield 18, 3) := by decide +kernel
theorem dX5_init_25 : decode cX5_init 25 = .ok (.return_, 1) := by decide +kernel
theorem dX5_with_0 : decode cX5_with 0 = .ok (.aload_n 0, 1) := by decide +kernel
theorem dX5_with_1 : decode cX5_with 1 = .ok (.arraylength, 1) := by decide +kernel
theorem dX5_with_2 : decode cX5_with 2 = .ok (.iconst 1, 1) := by decide +kernel
theorem dX5_with_3 : decode cX5_with 3 = .ok (.iadd, 1) := by decide +kernel
theorem dX5_with_4 : decode cX5_with 4 = .ok (.anewarray 7, 3) := by decide +kernel
theorem dX5_with_7 : decode cX5_with 7 = .ok (.astore_n 2, 1) := by decide +kernel
theorem dX5_with_8 : decode cX5_with 8 = .ok (.iconst 0, 1) := by decide +kernel
theorem dX5_with_9 : decode cX5_with 9 = .ok (.istore_n 3, 1) := by decide +kernel
theorem dX5_with_10 : decode cX5_with 10 = .ok (.iload_n 3, 1) := by decide +kernel
theorem dX5_with_11 : decode cX5_with 11 = .ok (.aload_n 0, 1) := by decide +kernel
theorem dX5_with_12 : decode cX5_with 12 = .ok (.arraylength, 1) := by decide +kernel
theorem dX5_with_13 : decode cX5_with 13 = .ok (.if_icmp .ge 15, 3) := by decide +kernel
theorem dX5_with_16 : decode cX5_with 16 = .ok (.aload_n 2, 1) := by decide +kernel
theorem dX5_with_17 : decode cX5_with 17 = .ok (.iload_n 3, 1) := by decide +kernel
theorem dX5_with_18 : decode cX5_with 18 = .ok (.aload_n 0, 1) := by decide +kernel
theorem dX5_with_19 : decode cX5_with 19 = .ok (.iload_n 3, 1) := by decide +kernel
theorem dX5_with_20 : decode cX5_with 20 = .ok (.aaload, 1) := by decide +kernel
theorem dX5_with_21 : decode cX5_with 21 = .ok (.aastore, 1) := by decide +kernel
theorem dX5_with_22 : decode cX5_with 22 = .ok (.iinc 3 1, 3) := by decide +kernel
theorem dX5_with_25 : decode cX5_with 25 = .ok (.goto (-15), 3) := by decide +kernel
theorem dX5_with_28 : decode cX5_with 28 = .ok (.aload_n 2, 1) := by decide +kernel
theorem dX5_with_29 : decode cX5_with 29 = .ok (.aload_n 0, 1) := by decide +kernel
theorem dX5_with_30 : decode cX5_with 30 = .ok (.arraylength, 1) := by decide +kernel
theorem dX5_with_31 : decode cX5_with 31 = .ok (.aload_n 1, 1) := by decide +kernel
theorem dX5_with_32 : decode cX5_with 32 = .ok (.aastore, 1) := by decide +kernel
theorem dX5_with_33 : decode cX5_with 33 = .ok (.aload_n 2, 1) := by decide +kernel
theorem dX5_with_34 : decode cX5_with 34 = .ok (.areturn, 1) := by decide +kernel
theorem dX5_without_0 : decode cX5_without 0 = .ok (.aload_n 0, 1) := by decide +kernel
theorem dX5_without_1 : decode cX5_without 1 = .ok (.arraylength, 1) := by decide +kernel
theorem dX5_without_2 : decode cX5_without 2 = .ok (.iconst 1, 1) := by decide +kernel
theorem dX5_without_3 : decode cX5_without 3 = .ok (.isub, 1) := by decide +kernel
theorem dX5_without_4 : decode cX5_without 4 = .ok (.anewarray 7, 3) := by decide +kernel
theorem dX5_without_7 : decode cX5_without 7 = .ok (.astore_n 2, 1) := by decide +kernel
theorem dX5_without_8 : decode cX5_without 8 = .ok (.iconst 0, 1) := by decide +kernel
theorem dX5_without_9 : decode cX5_without 9 = .ok (.istore_n 3, 1) := by decide +kernel
theorem dX5_without_10 : decode cX5_without 10 = .ok (.iload_n 3, 1) := by decide +kernel
theorem dX5_without_11 : decode cX5_without 11 = .ok (.aload_n 2, 1) := by decide +kernel
theorem dX5_without_12 : decode cX5_without 12 = .ok (.arraylength, 1) := by decide +kernel
theorem dX5_without_13 : decode cX5_without 13 = .ok (.if_icmp .ge 26, 3) := by decide +kernel
theorem dX5_without_16 : decode cX5_without 16 = .ok (.aload_n 2, 1) := by decide +kernel
theorem dX5_without_17 : decode cX5_without 17 = .ok (.iload_n 3, 1) := by decide +kernel
theorem dX5_without_18 : decode cX5_without 18 = .ok (.aload_n 0, 1) := by decide +kernel
theorem dX5_without_19 : decode cX5_without 19 = .ok (.iload_n 3, 1) := by decide +kernel
theorem dX5_without_20 : decode cX5_without 20 = .ok (.iload_n 1, 1) := by decide +kernel
theorem dX5_without_21 : decode cX5_without 21 = .ok (.if_icmp .ge 7, 3) := by decide +kernel
theorem dX5_without_24 : decode cX5_without 24 = .ok (.iload_n 3, 1) := by decide +kernel
theorem dX5_without_25 : decode cX5_without 25 = .ok (.goto 6, 3) := by decide +kernel
theorem dX5_without_28 : decode cX5_without 28 = .ok (.iload_n 3, 1) := by decide +kernel
theorem dX5_without_29 : decode cX5_without 29 = .ok (.iconst 1, 1) := by decide +kernel
theorem dX5_without_30 : decode cX5_without 30 = .ok (.iadd, 1) := by decide +kernel
theorem dX5_without_31 : decode cX5_without 31 = .ok (.aaload, 1) := by decide +kernel
theorem dX5_without_32 : decode cX5_without 32 = .ok (.aastore, 1) := by decide +kernel
theorem dX5_without_33 : decode cX5_without 33 = .ok (.iinc 3 1, 3) := by decide +kernel
theorem dX5_without_36 : decode cX5_without 36 = .ok (.goto (-26), 3) := by decide +kernel
theorem dX5_without_39 : decode cX5_without 39 = .ok (.aload_n 2, 1) := by decide +kernel
theorem dX5_without_40 : decode cX5_without 40 = .ok (.areturn, 1) := by decide +kernel
theorem dX5_with__0 : decode cX5_with_ 0 = .ok (.aload_n 0, 1) := by decide +kernel
theorem dX5_with__1 : decode cX5_with_ 1 = .ok (.arraylength, 1) := by decide +kernel
theorem dX5_with__2 : decode cX5_with_ 2 = .ok (.iconst 1, 1) := by decide +kernel
theorem dX5_with__3 : decode cX5_with_ 3 = .ok (.iadd, 1) := by decide +kernel
theorem dX5_with__4 : decode cX5_with_ 4 = .ok (.newarray .int, 2) := by decide +kernel
theorem dX5_with__6 : decode cX5_with_ 6 = .ok (.astore_n 2, 1) := by decide +kernel
theorem dX5_with__7 : decode cX5_with_ 7 = .ok (.iconst 0, 1) := by decide +kernel
theorem dX5_with__8 : decode cX5_with_ 8 = .ok (.istore_n 3, 1) := by decide +kernel
theorem dX5_with__9 : decode cX5_with_ 9 = .ok (.iload_n 3, 1) := by decide +kernel
theorem dX5_with__10 : decode cX5_with_ 10 = .ok (.aload_n 0, 1) := by decide +kernel
theorem dX5_with__11 : decode cX5_with_ 11 = .ok (.arraylength, 1) := by decide +kernel
theorem dX5_with__12 : decode cX5_with_ 12 = .ok (.if_icmp .ge 15, 3) := by decide +kernel
theorem dX5_with__15 : decode cX5_with_ 15 = .ok (.aload_n 2, 1) := by decide +kernel
theorem dX5_with__16 : decode cX5_with_ 16 = .ok (.iload_n 3, 1) := by decide +kernel
theorem dX5_with__17 : decode cX5_with_ 17 = .ok (.aload_n 0, 1) := by decide +kernel
theorem dX5_with__18 : decode cX5_with_ 18 = .ok (.iload_n 3, 1) := by decide +kernel
theorem dX5_with__19 : decode cX5_with_ 19 = .ok (.iaload, 1) := by decide +kernel
theorem dX5_with__20 : decode cX5_with_ 20 = .ok (.iastore, 1) := by decide +kernel
theorem dX5_with__21 : decode cX5_with_ 21 = .ok (.iinc 3 1, 3) := by decide +kernel
theorem dX5_with__24 : decode cX5_with_ 24 = .ok (.goto (-15), 3) := by decide +kernel
theorem dX5_with__27 : decode cX5_with_ 27 = .ok (.aload_n 2, 1) := by decide +kernel
theorem dX5_with__28 : decode cX5_with_ 28 = .ok (.aload_n 0, 1) := by decide +kernel
theorem dX5_with__29 : decode cX5_with_ 29 = .ok (.arraylength, 1) := by decide +kernel
theorem dX5_with__30 : decode cX5_with_ 30 = .ok (.iload_n 1, 1) := by decide +kernel
theorem dX5_with__31 : decode cX5_with_ 31 = .ok (.iastore, 1) := by decide +kernel
theorem dX5_with__32 : decode cX5_with_ 32 = .ok (.aload_n 2, 1) := by decide +kernel
theorem dX5_with__33 : decode cX5_with_ 33 = .ok (.areturn, 1) := by decide +kernel
theorem dX5_isThere_0 : decode cX5_isThere 0 = .ok (.iload_n 2, 1) := by decide +kernel
theorem dX5_isThere_1 : decode cX5_isThere 1 = .ok (.aload_n 0, 1) := by decide +kernel
theorem dX5_isThere_2 : decode cX5_isThere 2 = .ok (.arraylength, 1) := by decide +kernel
theorem dX5_isThere_3 : decode cX5_isThere 3 = .ok (.iadd, 1) := by decide +kernel
theorem dX5_isThere_4 : decode cX5_isThere 4 = .ok (.aload_n 1, 1) := by decide +kernel
theorem dX5_isThere_5 : decode cX5_isThere 5 = .ok (.arraylength, 1) := by decide +kernel
theorem dX5_isThere_6 : decode cX5_isThere 6 = .ok (.if_icmp .le 5, 3) := by decide +kernel
theorem dX5_isThere_9 : decode cX5_isThere 9 = .ok (.iconst 0, 1) := by decide +kernel
theorem dX5_isThere_10 : decode cX5_isThere 10 = .ok (.ireturn, 1) := by decide +kernel
theorem dX5_isThere_11 : decode cX5_isThere 11 = .ok (.iconst 0, 1) := by decide +kernel
theorem dX5_isThere_12 : decode cX5_isThere 12 = .ok (.istore_n 3, 1) := by decide +kernel
theorem dX5_isThere_13 : decode cX5_isThere 13 = .ok (.iload_n 3, 1) := by decide +kernel
theorem dX5_isThere_14 : decode cX5_isThere 14 = .ok (.aload_n 0, 1) := by decide +kernel
theorem dX5_isThere_15 : decode cX5_isThere 15 = .ok (.arraylength, 1) := by decide +kernel
theorem dX5_isThere_16 : decode cX5_isThere 16 = .ok (.if_icmp .ge 22, 3) := by decide +kernel
theorem dX5_isThere_19 : decode cX5_isThere 19 = .ok (.aload_n 1, 1) := by decide +kernel
theorem dX5_isThere_20 : decode cX5_isThere 20 = .ok (.iload_n 2, 1) := by decide +kernel
theorem dX5_isThere_21 : decode cX5_isThere 21 = .ok (.iload_n 3, 1) := by decide +kernel
theorem dX5_isThere_22 : decode cX5_isThere 22 = .ok (.iadd, 1) := by decide +kernel
theorem dX5_isThere_23 : decode cX5_isThere 23 = .ok (.iaload, 1) := by decide +kernel
theorem dX5_isThere_24 : decode cX5_isThere 24 = .ok (.aload_n 0, 1) := by decide +kernel
theorem dX5_isThere_25 : decode cX5_isThere 25 = .ok (.iload_n 3, 1) := by decide +kernel
theorem dX5_isThere_26 : decode cX5_isThere 26 = .ok (.iaload, 1) := by decide +kernel
theorem dX5_isThere_27 : decode cX5_isThere 27 = .ok (.if_icmp .eq 5, 3) := by decide +kernel
theorem dX5_isThere_30 : decode cX5_isThere 30 = .ok (.iconst 0, 1) := by decide +kernel
theorem dX5_isThere_31 : decode cX5_isThere 31 = .ok (.ireturn, 1) := by decide +kernel
theorem dX5_isThere_32 : decode cX5_isThere 32 = .ok (.iinc 3 1, 3) := by decide +kernel
theorem dX5_isThere_35 : decode cX5_isThere 35 = .ok (.goto (-22), 3) := by decide +kernel
theorem dX5_isThere_38 : decode cX5_isThere 38 = .ok (.iconst 1, 1) := by decide +kernel
theorem dX5_isThere_39 : decode cX5_isThere 39 = .ok (.ireturn, 1) := by decide +kernel
set_option maxRecDepth 20000 in
theorem ggX5_parted_X5_isThere : GoodIn wsX5_parted wsX5_isThere := goodIn_r _ [6] (by decide +kernel) (by decide +kernel)
set_option maxRecDepth 20000 in
theorem gX5_parted_X5_isThere : GoodIn wsX5_parted (va_wsS RX5 22 yX5_isThere wsX5_isThere) := goodIn_app (goodIn_of _ (by decide +kernel)) ggX5_parted_X5_isThere
theorem dX5_parted_0 : decode cX5_parted 0 = .ok (.aload_n 1, 1) := by decide +kernel
theorem dX5_parted_1 : decode cX5_parted 1 = .ok (.arraylength, 1) := by decide +kernel
theorem dX5_parted_2 : decode cX5_parted 2 = .ok (.istore_n 2, 1) := by decide +kernel
theorem dX5_parted_3 : decode cX5_parted 3 = .ok (.iload_n 2, 1) := by decide +kernel
theorem dX5_parted_4 : decode cX5_parted 4 = .ok (.iconst 1, 1) := by decide +kernel
theorem dX5_parted_5 : decode cX5_parted 5 = .ok (.iadd, 1) := by decide +kernel
theorem dX5_parted_6 : decode cX5_parted 6 = .ok (.newarray .int, 2) := by decide +kernel
theorem dX5_parted_8 : decode cX5_parted 8 = .ok (.astore_n 3, 1) := by decide +kernel
theorem dX5_parted_9 : decode cX5_parted 9 = .ok (.iload_n 2, 1) := by decide +kernel
theorem dX5_parted_10 : decode cX5_parted 10 = .ok (.iconst 1, 1) := by decide +kernel
theorem dX5_parted_11 : decode cX5_parted 11 = .ok (.iadd, 1) := by decide +kernel
theorem dX5_parted_12 : decode cX5_parted 12 = .ok (.newarray .int, 2) := by decide +kernel
theorem dX5_parted_14 : decode cX5_parted 14 = .ok (.astore 4, 2) := by decide +kernel
theorem dX5_parted_16 : decode cX5_parted 16 = .ok (.iload_n 2, 1) := by decide +kernel
theorem dX5_parted_17 : decode cX5_parted 17 = .ok (.iconst 1, 1) := by decide +kernel
theorem dX5_parted_18 : decode cX5_parted 18 = .ok (.isub, 1) := by decide +kernel
theorem dX5_parted_19 : decode cX5_parted 19 = .ok (.istore 5, 2) := by decide +kernel
theorem dX5_parted_21 : decode cX5_parted 21 = .ok (.iload 5, 2) := by decide +kernel
theorem dX5_parted_23 : decode cX5_parted 23 = .ok (.ifCond .lt 158, 3) := by decide +kernel
theorem dX5_parted_26 : decode cX5_parted 26 = .ok (.aload_n 3, 1) := by decide +kernel
theorem dX5_parted_27 : decode cX5_parted 27 = .ok (.iload 5, 2) := by decide +kernel
theorem dX5_parted_29 : decode cX5_parted 29 = .ok (.bipush 99, 2) := by decide +kernel
theorem dX5_parted_31 : decode cX5_parted 31 = .ok (.iastore, 1) := by decide +kernel
theorem dX5_parted_32 : decode cX5_parted 32 = .ok (.iconst 1, 1) := by decide +kernel
theorem dX5_parted_33 : decode cX5_parted 33 = .ok (.istore 6, 2) := by decide +kernel
theorem dX5_parted_35 : decode cX5_parted 35 = .ok (.iload 6, 2) := by decide +kernel
theorem dX5_parted_37 : decode cX5_parted 37 = .ok (.iconst 4, 1) := by decide +kernel
theorem dX5_parted_38 : decode cX5_parted 38 = .ok (.if_icmp .gt 137, 3) := by decide +kernel
theorem dX5_parted_41 : decode cX5_parted 41 = .ok (.iload 5, 2) := by decide +kernel
theorem dX5_parted_43 : decode cX5_parted 43 = .ok (.iload 6, 2) := by decide +kernel
theorem dX5_parted_45 : decode cX5_parted 45 = .ok (.iadd, 1) := by decide +kernel
theorem dX5_parted_46 : decode cX5_parted 46 = .ok (.iload_n 2, 1) := by decide +kernel
theorem dX5_parted_47 : decode cX5_parted 47 = .ok (.if_icmp .gt 128, 3) := by decide +kernel
theorem dX5_parted_50 : decode cX5_parted 50 = .ok (.iload 6, 2) := by decide +kernel
theorem dX5_parted_52 : decode cX5_parted 52 = .ok (.iconst 1, 1) := by decide +kernel
theorem dX5_parted_53 : decode cX5_parted 53 = .ok (.if_icmp .ne 7, 3) := by decide +kernel
theorem dX5_parted_56 : decode cX5_parted 56 = .ok (.iconst 1, 1) := by decide +kernel
theorem dX5_parted_57 : decode cX5_parted 57 = .ok (.goto 4, 3) := by decide +kernel
theorem dX5_parted_60 : decode cX5_parted 60 = .ok (.iconst 0, 1) := by decide +kernel
theorem dX5_parted_61 : decode cX5_parted 61 = .ok (.istore 7, 2) := by decide +kernel
theorem dX5_parted_63 : decode cX5_parted 63 = .ok (.aload_n 0, 1) := by decide +kernel
theorem dX5_parted_64 : decode cX5_parted 64 = .ok (.astore 8, 2) := by decide +kernel
theorem dX5_parted_66 : decode cX5_parted 66 = .ok (.aload 8, 2) := by decide +kernel
theorem dX5_parted_68 : decode cX5_parted 68 = .ok (.arraylength, 1) := by decide +kernel
theorem dX5_parted_69 : decode cX5_parted 69 = .ok (.istore 9, 2) := by decide +kernel
theorem dX5_parted_71 : decode cX5_parted 71 = .ok (.iconst 0, 1) := by decide +kernel
theorem dX5_parted_72 : decode cX5_parted 72 = .ok (.istore 10, 2) := by decide +kernel
theorem dX5_parted_74 : decode cX5_parted 74 = .ok (.iload 10, 2) := by decide +kernel
theorem dX5_parted_76 : decode cX5_parted 76 = .ok (.iload 9, 2) := by decide +kernel
theorem dX5_parted_78 : decode cX5_parted 78 = .ok (.if_icmp .ge 47, 3) := by decide +kernel
theorem dX5_parted_81 : decode cX5_parted 81 = .ok (.aload 8, 2) := by decide +kernel
theorem dX5_parted_83 : decode cX5_parted 83 = .ok (.iload 10, 2) := by decide +kernel
theorem dX5_parted_85 : decode cX5_parted 85 = .ok (.aaload, 1) := by decide +kernel
theorem dX5_parted_86 : decode cX5_parted 86 = .ok (.astore 11, 2) := by decide +kernel
theorem dX5_parted_88 : decode cX5_parted 88 = .ok (.iload 7, 2) := by decide +kernel
theorem dX5_parted_90 : decode cX5_parted 90 = .ok (.ifCond .ne 22, 3) := by decide +kernel
theorem dX5_parted_93 : decode cX5_parted 93 = .ok (.aload 11, 2) := by decide +kernel
theorem dX5_parted_95 : decode cX5_parted 95 = .ok (.arraylength, 1) := by decide +kernel
theorem dX5_parted_96 : decode cX5_parted 96 = .ok (.iload 6, 2) := by decide +kernel
theorem dX5_parted_98 : decode cX5_parted 98 = .ok (.if_icmp .ne 18, 3) := by decide +kernel
theorem dX5_parted_101 : decode cX5_parted 101 = .ok (.aload 11, 2) := by decide +kernel
theorem dX5_parted_103 : decode cX5_parted 103 = .ok (.aload_n 1, 1) := by decide +kernel
theorem dX5_parted_104 : decode cX5_parted 104 = .ok (.iload 5, 2) := by decide +kernel
theorem dX5_parted_106 : decode cX5_parted 106 = .ok (.invokestatic 22, 3) := by decide +kernel
theorem dX5_parted_109 : decode cX5_parted 109 = .ok (.ifCond .eq 7, 3) := by decide +kernel
theorem dX5_parted_112 : decode cX5_parted 112 = .ok (.iconst 1, 1) := by decide +kernel
theorem dX5_parted_113 : decode cX5_parted 113 = .ok (.goto 4, 3) := by decide +kernel
theorem dX5_parted_116 : decode cX5_parted 116 = .ok (.iconst 0, 1) := by decide +kernel
theorem dX5_parted_117 : decode cX5_parted 117 = .ok (.istore 7, 2) := by decide +kernel
theorem dX5_parted_119 : decode cX5_parted 119 = .ok (.iinc 10 1, 3) := by decide +kernel
theorem dX5_parted_122 : decode cX5_parted 122 = .ok (.goto (-48), 3) := by decide +kernel
theorem dX5_parted_125 : decode cX5_parted 125 = .ok (.iload 7, 2) := by decide +kernel
theorem dX5_parted_127 : decode cX5_parted 127 = .ok (.ifCond .eq 42, 3) := by decide +kernel
theorem dX5_parted_130 : decode cX5_parted 130 = .ok (.aload_n 3, 1) := by decide +kernel
theorem dX5_parted_131 : decode cX5_parted 131 = .ok (.iload 5, 2) := by decide +kernel
theorem dX5_parted_133 : decode cX5_parted 133 = .ok (.iload 6, 2) := by decide +kernel
theorem dX5_parted_135 : decode cX5_parted 135 = .ok (.iadd, 1) := by decide +kernel
theorem dX5_parted_136 : decode cX5_parted 136 = .ok (.iaload, 1) := by decide +kernel
theorem dX5_parted_137 : decode cX5_parted 137 = .ok (.iconst 1, 1) := by decide +kernel
theorem dX5_parted_138 : decode cX5_parted 138 = .ok (.iadd, 1) := by decide +kernel
theorem dX5_parted_139 : decode cX5_parted 139 = .ok (.aload_n 3, 1) := by decide +kernel
theorem dX5_parted_140 : decode cX5_parted 140 = .ok (.iload 5, 2) := by decide +kernel
theorem dX5_parted_142 : decode cX5_parted 142 = .ok (.iaload, 1) := by decide +kernel
theorem dX5_parted_143 : decode cX5_parted 143 = .ok (.if_icmp .le 6, 3) := by decide +kernel
theorem dX5_parted_146 : decode cX5_parted 146 = .ok (.goto 23, 3) := by decide +kernel
theorem dX5_parted_149 : decode cX5_parted 149 = .ok (.aload_n 3, 1) := by decide +kernel
theorem dX5_parted_150 : decode cX5_parted 150 = .ok (.iload 5, 2) := by decide +kernel
theorem dX5_parted_152 : decode cX5_parted 152 = .ok (.aload_n 3, 1) := by decide +kernel
theorem dX5_parted_153 : decode cX5_parted 153 = .ok (.iload 5, 2) := by decide +kernel
theorem dX5_parted_155 : decode cX5_parted 155 = .ok (.iload 6, 2) := by decide +kernel
theorem dX5_parted_157 : decode cX5_parted 157 = .ok (.iadd, 1) := by decide +kernel
theorem dX5_parted_158 : decode cX5_parted 158 = .ok (.iaload, 1) := by decide +kernel
theorem dX5_parted_159 : decode cX5_parted 159 = .ok (.iconst 1, 1) := by decide +kernel
theorem dX5_parted_160 : decode cX5_parted 160 = .ok (.iadd, 1) := by decide +kernel
theorem dX5_parted_161 : decode cX5_parted 161 = .ok (.iastore, 1) := by decide +kernel
theorem dX5_parted_162 : decode cX5_parted 162 = .ok (.aload 4, 2) := by decide +kernel
theorem dX5_parted_164 : decode cX5_parted 164 = .ok (.iload 5, 2) := by decide +kernel
theorem dX5_parted_166 : decode cX5_parted 166 = .ok (.iload 6, 2) := by decide +kernel
theorem dX5_parted_168 : decode cX5_parted 168 = .ok (.iastore, 1) := by decide +kernel
theorem dX5_parted_169 : decode cX5_parted 169 = .ok (.iinc 6 1, 3) := by decide +kernel
theorem dX5_parted_172 : decode cX5_parted 172 = .ok (.goto (-137), 3) := by decide +kernel
theorem dX5_parted_175 : decode cX5_parted 175 = .ok (.iinc 5 (-1), 3) := by decide +kernel
theorem dX5_parted_178 : decode cX5_parted 178 = .ok (.goto (-157), 3) := by decide +kernel
theorem dX5_parted_181 : decode cX5_parted 181 = .ok (.iconst 2, 1) := by decide +kernel
theorem dX5_parted_182 : decode cX5_parted 182 = .ok (.anewarray 7, 3) := by decide +kernel
theorem dX5_parted_185 : decode cX5_parted 185 = .ok (.dup, 1) := by decide +kernel
theorem dX5_parted_186 : decode cX5_parted 186 = .ok (.iconst 0, 1) := by decide +kernel
theorem dX5_parted_187 : decode cX5_parted 187 = .ok (.aload_n 3, 1) := by decide +kernel
theorem dX5_parted_188 : decode cX5_parted 188 = .ok (.aastore, 1) := by decide +kernel
theorem dX5_parted_189 : decode cX5_parted 189 = .ok (.dup, 1) := by decide +kernel
theorem dX5_parted_190 : decode cX5_parted 190 = .ok (.iconst 1, 1) := by decide +kernel
theorem dX5_parted_191 : decode cX5_parted 191 = .ok (.aload 4, 2) := by decide +kernel
theorem dX5_parted_193 : decode cX5_parted 193 = .ok (.aastore, 1) := by decide +kernel
theorem dX5_parted_194 : decode cX5_parted 194 = .ok (.areturn, 1) := by decide +kernel
set_option maxRecDepth 20000 in
theorem ggX5_groups_X5_parted : GoodIn wsX5_groups wsX5_parted := goodIn_r _ [6, 7, 8, 9, 10, 5, 11] (by decide +kernel) (by decide +kernel)
set_option maxRecDepth 20000 in
theorem gX5_groups_X5_parted : GoodIn wsX5_groups (va_wsS RX5 26 yX5_parted wsX5_parted) := goodIn_app (goodIn_of _ (by decide +kernel)) ggX5_groups_X5_parted
theorem dX5_groups_0 : decode cX5_groups 0 = .ok (.aload_n 0, 1) := by decide +kernel
theorem dX5_groups_1 : decode cX5_groups 1 = .ok (.getfield 9, 3) := by decide +kernel
theorem dX5_groups_4 : decode cX5_groups 4 = .ok (.aload_n 0, 1) := by decide +kernel
theorem dX5_groups_5 : decode cX5_groups 5 = .ok (.getfield 15, 3) := by decide +kernel
theorem dX5_groups_8 : decode cX5_groups 8 = .ok (.invokestatic 26, 3) := by decide +kernel
theorem dX5_groups_11 : decode cX5_groups 11 = .ok (.iconst 0, 1) := by decide +kernel
theorem dX5_groups_12 : decode cX5_groups 12 = .ok (.aaload, 1) := by decide +kernel
theorem dX5_groups_13 : decode cX5_groups 13 = .ok (.iconst 0, 1) := by decide +kernel
theorem dX5_groups_14 : decode cX5_groups 14 = .ok (.iaload, 1) := by decide +kernel
theorem dX5_groups_15 : decode cX5_groups 15 = .ok (.ireturn, 1) := by decide +kernel
set_option maxRecDepth 20000 in
theorem ggX5_codeAt_X5_isThere : GoodIn wsX5_codeAt wsX5_isThere := goodIn_r _ [6] (by decide +kernel) (by decide +kernel)
set_option maxRecDepth 20000 in
theorem gX5_codeAt_X5_isThere : GoodIn wsX5_codeAt (va_wsS RX5 22 yX5_isThere wsX5_isThere) := goodIn_app (goodIn_of _ (by decide +kernel)) ggX5_codeAt_X5_isThere
theorem dX5_codeAt_0 : decode cX5_codeAt 0 = .ok (.iconst 0, 1) := by decide +kernel
theorem dX5_codeAt_1 : decode cX5_codeAt 1 = .ok (.istore_n 3, 1) := by decide +kernel
theorem dX5_codeAt_2 : decode cX5_codeAt 2 = .ok (.iload_n 3, 1) := by decide +kernel
theorem dX5_codeAt_3 : decode cX5_codeAt 3 = .ok (.aload_n 0, 1) := by decide +kernel
theorem dX5_codeAt_4 : decode cX5_codeAt 4 = .ok (.getfield 9, 3) := by decide +kernel
theorem dX5_codeAt_7 : decode cX5_codeAt 7 = .ok (.arraylength, 1) := by decide +kernel
theorem dX5_codeAt_8 : decode cX5_codeAt 8 = .ok (.if_icmp .ge 39, 3) := by decide +kernel
theorem dX5_codeAt_11 : decode cX5_codeAt 11 = .ok (.aload_n 0, 1) := by decide +kernel
theorem dX5_codeAt_12 : decode cX5_codeAt 12 = .ok (.getfield 9, 3) := by decide +kernel
theorem dX5_codeAt_15 : decode cX5_codeAt 15 = .ok (.iload_n 3, 1) := by decide +kernel
theorem dX5_codeAt_16 : decode cX5_codeAt 16 = .ok (.aaload, 1) := by decide +kernel
theorem dX5_codeAt_17 : decode cX5_codeAt 17 = .ok (.arraylength, 1) := by decide +kernel
theorem dX5_codeAt_18 : decode cX5_codeAt 18 = .ok (.iload_n 2, 1) := by decide +kernel
theorem dX5_codeAt_19 : decode cX5_codeAt 19 = .ok (.if_icmp .ne 22, 3) := by decide +kernel
theorem dX5_codeAt_22 : decode cX5_codeAt 22 = .ok (.aload_n 0, 1) := by decide +kernel
theorem dX5_codeAt_23 : decode cX5_codeAt 23 = .ok (.getfield 9, 3) := by decide +kernel
theorem dX5_codeAt_26 : decode cX5_codeAt 26 = .ok (.iload_n 3, 1) := by decide +kernel
theorem dX5_codeAt_27 : decode cX5_codeAt 27 = .ok (.aaload, 1) := by decide +kernel
theorem dX5_codeAt_28 : decode cX5_codeAt 28 = .ok (.aload_n 0, 1) := by decide +kernel
theorem dX5_codeAt_29 : decode cX5_codeAt 29 = .ok (.getfield 15, 3) := by decide +kernel
theorem dX5_codeAt_32 : decode cX5_codeAt 32 = .ok (.iload_n 1, 1) := by decide +kernel
theorem dX5_codeAt_33 : decode cX5_codeAt 33 = .ok (.invokestatic 22, 3) := by decide +kernel
theorem dX5_codeAt_36 : decode cX5_codeAt 36 = .ok (.ifCond .eq 5, 3) := by decide +kernel
theorem dX5_codeAt_39 : decode cX5_codeAt 39 = .ok (.iload_n 3, 1) := by decide +kernel
theorem dX5_codeAt_40 : decode cX5_codeAt 40 = .ok (.ireturn, 1) := by decide +kernel
theorem dX5_codeAt_41 : decode cX5_codeAt 41 = .ok (.iinc 3 1, 3) := by decide +kernel
theorem dX5_codeAt_44 : decode cX5_codeAt 44 = .ok (.goto (-42), 3) := by decide +kernel
theorem dX5_codeAt_47 : decode cX5_codeAt 47 = .ok (.iconst (-1), 1) := by decide +kernel
theorem dX5_codeAt_48 : decode cX5_codeAt 48 = .ok (.ireturn, 1) := by decide +kernel
set_option maxRecDepth 20000 in
theorem ggX5_counted_X5_parted : GoodIn wsX5_counted wsX5_parted := goodIn_r _ [5, 6, 7, 8, 9, 4, 10] (by decide +kernel) (by decide +kernel)
set_option maxRecDepth 20000 in
theorem gX5_counted_X5_parted : GoodIn wsX5_counted (va_wsS RX5 26 yX5_parted wsX5_parted) := goodIn_app (goodIn_of _ (by decide +kernel)) ggX5_counted_X5_parted
theorem dX5_counted_0 : decode cX5_counted 0 = .ok (.aload_n 1, 1) := by decide +kernel
theorem dX5_counted_1 : decode cX5_counted 1 = .ok (.aload_n 0, 1) := by decide +kernel
theorem dX5_counted_2 : decode cX5_counted 2 = .ok (.getfield 15, 3) := by decide +kernel
theorem dX5_counted_5 : decode cX5_counted 5 = .ok (.invokestatic 26, 3) := by decide +kernel
theorem dX5_counted_8 : decode cX5_counted 8 = .ok (.iconst 1, 1) := by decide +kernel
theorem dX5_counted_9 : decode cX5_counted 9 = .ok (.aaload, 1) := by decide +kernel
theorem dX5_counted_10 : decode cX5_counted 10 = .ok (.astore_n 2, 1) := by decide +kernel
theorem dX5_counted_11 : decode cX5_counted 11 = .ok (.iconst 0, 1) := by decide +kernel
theorem dX5_counted_12 : decode cX5_counted 12 = .ok (.istore_n 3, 1) := by decide +kernel
theorem dX5_counted_13 : decode cX5_counted 13 = .ok (.iconst 0, 1) := by decide +kernel
theorem dX5_counted_14 : decode cX5_counted 14 = .ok (.istore 4, 2) := by decide +kernel
theorem dX5_counted_16 : decode cX5_counted 16 = .ok (.iload 4, 2) := by decide +kernel
theorem dX5_counted_18 : decode cX5_counted 18 = .ok (.aload_n 0, 1) := by decide +kernel
theorem dX5_counted_19 : decode cX5_counted 19 = .ok (.getfield 15, 3) := by decide +kernel
theorem dX5_counted_22 : decode cX5_counted 22 = .ok (.arraylength, 1) := by decide +kernel
theorem dX5_counted_23 : decode cX5_counted 23 = .ok (.if_icmp .ge 43, 3) := by decide +kernel
theorem dX5_counted_26 : decode cX5_counted 26 = .ok (.iload_n 3, 1) := by decide +kernel
theorem dX5_counted_27 : decode cX5_counted 27 = .ok (.aload_n 2, 1) := by decide +kernel
theorem dX5_counted_28 : decode cX5_counted 28 = .ok (.iload 4, 2) := by decide +kernel
theorem dX5_counted_30 : decode cX5_counted 30 = .ok (.iaload, 1) := by decide +kernel
theorem dX5_counted_31 : decode cX5_counted 31 = .ok (.iconst 1, 1) := by decide +kernel
theorem dX5_counted_32 : decode cX5_counted 32 = .ok (.if_icmp .ne 19, 3) := by decide +kernel
theorem dX5_counted_35 : decode cX5_counted 35 = .ok (.aload_n 0, 1) := by decide +kernel
theorem dX5_counted_36 : decode cX5_counted 36 = .ok (.getfield 15, 3) := by decide +kernel
theorem dX5_counted_39 : decode cX5_counted 39 = .ok (.iload 4, 2) := by decide +kernel
theorem dX5_counted_41 : decode cX5_counted 41 = .ok (.iaload, 1) := by decide +kernel
theorem dX5_counted_42 : decode cX5_counted 42 = .ok (.bipush 8, 2) := by decide +kernel
theorem dX5_counted_44 : decode cX5_counted 44 = .ok (.if_icmp .lt 7, 3) := by decide +kernel
theorem dX5_counted_47 : decode cX5_counted 47 = .ok (.iconst 2, 1) := by decide +kernel
theorem dX5_counted_48 : decode cX5_counted 48 = .ok (.goto 4, 3) := by decide +kernel
theorem dX5_counted_51 : decode cX5_counted 51 = .ok (.iconst 1, 1) := by decide +kernel
theorem dX5_counted_52 : decode cX5_counted 52 = .ok (.iadd, 1) := by decide +kernel
theorem dX5_counted_53 : decode cX5_counted 53 = .ok (.istore_n 3, 1) := by decide +kernel
theorem dX5_counted_54 : decode cX5_counted 54 = .ok (.iload 4, 2) := by decide +kernel
theorem dX5_counted_56 : decode cX5_counted 56 = .ok (.aload_n 2, 1) := by decide +kernel
theorem dX5_counted_57 : decode cX5_counted 57 = .ok (.iload 4, 2) := by decide +kernel
theorem dX5_counted_59 : decode cX5_counted 59 = .ok (.iaload, 1) := by decide +kernel
theorem dX5_counted_60 : decode cX5_counted 60 = .ok (.iadd, 1) := by decide +kernel
theorem dX5_counted_61 : decode cX5_counted 61 = .ok (.istore 4, 2) := by decide +kernel
theorem dX5_counted_63 : decode cX5_counted 63 = .ok (.goto (-47), 3) := by decide +kernel
theorem dX5_counted_66 : decode cX5_counted 66 = .ok (.iload_n 3, 1) := by decide +kernel
theorem dX5_counted_67 : decode cX5_counted 67 = .ok (.ireturn, 1) := by decide +kernel
set_option maxRecDepth 20000 in
theorem ggX5_cost_X5_counted : GoodIn wsX5_cost wsX5_counted := goodIn_r _ [6, 1, 7, 8, 5, 9, 10, 11, 12, 13, 14, 15, 16, 17, 18, 19, 20, 21] (by decide +kernel) (by decide +kernel)
set_option maxRecDepth 20000 in
theorem gX5_cost_X5_counted : GoodIn wsX5_cost (wsV RX5 30 RX5 yX5_counted wsX5_counted) := goodIn_app (goodIn_of _ (by decide +kernel)) ggX5_cost_X5_counted
theorem dX5_cost_0 : decode cX5_cost 0 = .ok (.aload_n 0, 1) := by decide +kernel
theorem dX5_cost_1 : decode cX5_cost 1 = .ok (.aload_n 1, 1) := by decide +kernel
theorem dX5_cost_2 : decode cX5_cost 2 = .ok (.invokevirtual 30, 3) := by decide +kernel
theorem dX5_cost_5 : decode cX5_cost 5 = .ok (.istore_n 2, 1) := by decide +kernel
theorem dX5_cost_6 : decode cX5_cost 6 = .ok (.aload_n 0, 1) := by decide +kernel
theorem dX5_cost_7 : decode cX5_cost 7 = .ok (.getfield 15, 3) := by decide +kernel
theorem dX5_cost_10 : decode cX5_cost 10 = .ok (.arraylength, 1) := by decide +kernel
theorem dX5_cost_11 : decode cX5_cost 11 = .ok (.ifCond .ne 7, 3) := by decide +kernel
theorem dX5_cost_14 : decode cX5_cost 14 = .ok (.iconst 0, 1) := by decide +kernel
theorem dX5_cost_15 : decode cX5_cost 15 = .ok (.goto 20, 3) := by decide +kernel
theorem dX5_cost_18 : decode cX5_cost 18 = .ok (.iload_n 2, 1) := by decide +kernel
theorem dX5_cost_19 : decode cX5_cost 19 = .ok (.bipush 11, 2) := by decide +kernel
theorem dX5_cost_21 : decode cX5_cost 21 = .ok (.if_icmp .ge 8, 3) := by decide +kernel
theorem dX5_cost_24 : decode cX5_cost 24 = .ok (.bipush 20, 2) := by decide +kernel
theorem dX5_cost_26 : decode cX5_cost 26 = .ok (.goto 9, 3) := by decide +kernel
theorem dX5_cost_29 : decode cX5_cost 29 = .ok (.iconst 3, 1) := by decide +kernel
theorem dX5_cost_30 : decode cX5_cost 30 = .ok (.iload_n 2, 1) := by decide +kernel
theorem dX5_cost_31 : decode cX5_cost 31 = .ok (.imul, 1) := by decide +kernel
theorem dX5_cost_32 : decode cX5_cost 32 = .ok (.bipush 10, 2) := by decide +kernel
theorem dX5_cost_34 : decode cX5_cost 34 = .ok (.isub, 1) := by decide +kernel
theorem dX5_cost_35 : decode cX5_cost 35 = .ok (.ireturn, 1) := by decide +kernel
theorem dX5_isGarbled_0 : decode cX5_isGarbled 0 = .ok (.iload_n 0, 1) := by decide +kernel
theorem dX5_isGarbled_1 : decode cX5_isGarbled 1 = .ok (.bipush 7, 2) := by decide +kernel
theorem dX5_isGarbled_3 : decode cX5_isGarbled 3 = .ok (.imul, 1) := by decide +kernel
theorem dX5_isGarbled_4 : decode cX5_isGarbled 4 = .ok (.iload_n 0, 1) := by decide +kernel
theorem dX5_isGarbled_5 : decode cX5_isGarbled 5 = .ok (.bipush 10, 2) := by decide +kernel
theorem dX5_isGarbled_7 : decode cX5_isGarbled 7 = .ok (.idiv, 1) := by decide +kernel
theorem dX5_isGarbled_8 : decode cX5_isGarbled 8 = .ok (.iadd, 1) := by decide +kernel
theorem dX5_isGarbled_9 : decode cX5_isGarbled 9 = .ok (.bipush 10, 2) := by decide +kernel
theorem dX5_isGarbled_11 : decode cX5_isGarbled 11 = .ok (.irem, 1) := by decide +kernel
theorem dX5_isGarbled_12 : decode cX5_isGarbled 12 = .ok (.iload_n 1, 1) := by decide +kernel
theorem dX5_isGarbled_13 : decode cX5_isGarbled 13 = .ok (.if_icmp .lt 7, 3) := by decide +kernel
theorem dX5_isGarbled_16 : decode cX5_isGarbled 16 = .ok (.iconst 1, 1) := by decide +kernel
theorem dX5_isGarbled_17 : decode cX5_isGarbled 17 = .ok (.goto 4, 3) := by decide +kernel
theorem dX5_isGarbled_20 : decode cX5_isGarbled 20 = .ok (.iconst 0, 1) := by decide +kernel
theorem dX5_isGarbled_21 : decode cX5_isGarbled 21 = .ok (.ireturn, 1) := by decide +kernel
set_option maxRecDepth 20000 in
theorem ggX5_send_X5_isGarbled : GoodIn wsX5_send wsX5_isGarbled := goodIn_r _ [6] (by decide +kernel) (by decide +kernel)
set_option maxRecDepth 20000 in
theorem gX5_send_X5_isGarbled : GoodIn wsX5_send (va_wsS RX5 37 yX5_isGarbled wsX5_isGarbled) := goodIn_app (goodIn_of _ (by decide +kernel)) ggX5_send_X5_isGarbled
theorem dX5_send_0 : decode cX5_send 0 = .ok (.iconst 4, 1) := by decide +kernel
theorem dX5_send_1 : decode cX5_send 1 = .ok (.newarray .int, 2) := by decide +kernel
theorem dX5_send_3 : decode cX5_send 3 = .ok (.astore_n 3, 1) := by decide +kernel
theorem dX5_send_4 : decode cX5_send 4 = .ok (.iconst 0, 1) := by decide +kernel
theorem dX5_send_5 : decode cX5_send 5 = .ok (.istore 4, 2) := by decide +kernel
theorem dX5_send_7 : decode cX5_send 7 = .ok (.iload 4, 2) := by decide +kernel
theorem dX5_send_9 : decode cX5_send 9 = .ok (.iload_n 1, 1) := by decide +kernel
theorem dX5_send_10 : decode cX5_send 10 = .ok (.if_icmp .ge 114, 3) := by decide +kernel
theorem dX5_send_13 : decode cX5_send 13 = .ok (.iconst 1, 1) := by decide +kernel
theorem dX5_send_14 : decode cX5_send 14 = .ok (.istore 5, 2) := by decide +kernel
theorem dX5_send_16 : decode cX5_send 16 = .ok (.aload_n 0, 1) := by decide +kernel
theorem dX5_send_17 : decode cX5_send 17 = .ok (.getfield 34, 3) := by decide +kernel
theorem dX5_send_20 : decode cX5_send 20 = .ok (.aload_n 3, 1) := by decide +kernel
theorem dX5_send_21 : decode cX5_send 21 = .ok (.iconst 0, 1) := by decide +kernel
theorem dX5_send_22 : decode cX5_send 22 = .ok (.iaload, 1) := by decide +kernel
theorem dX5_send_23 : decode cX5_send 23 = .ok (.iadd, 1) := by decide +kernel
theorem dX5_send_24 : decode cX5_send 24 = .ok (.iload 5, 2) := by decide +kernel
theorem dX5_send_26 : decode cX5_send 26 = .ok (.iadd, 1) := by decide +kernel
theorem dX5_send_27 : decode cX5_send 27 = .ok (.iload_n 2, 1) := by decide +kernel
theorem dX5_send_28 : decode cX5_send 28 = .ok (.invokestatic 37, 3) := by decide +kernel
theorem dX5_send_31 : decode cX5_send 31 = .ok (.ifCond .eq 15, 3) := by decide +kernel
theorem dX5_send_34 : decode cX5_send 34 = .ok (.iload 5, 2) := by decide +kernel
theorem dX5_send_36 : decode cX5_send 36 = .ok (.iconst 4, 1) := by decide +kernel
theorem dX5_send_37 : decode cX5_send 37 = .ok (.if_icmp .ge 9, 3) := by decide +kernel
theorem dX5_send_40 : decode cX5_send 40 = .ok (.iinc 5 1, 3) := by decide +kernel
theorem dX5_send_43 : decode cX5_send 43 = .ok (.goto (-27), 3) := by decide +kernel
theorem dX5_send_46 : decode cX5_send 46 = .ok (.aload_n 3, 1) := by decide +kernel
theorem dX5_send_47 : decode cX5_send 47 = .ok (.iconst 3, 1) := by decide +kernel
theorem dX5_send_48 : decode cX5_send 48 = .ok (.dup2, 1) := by decide +kernel
theorem dX5_send_49 : decode cX5_send 49 = .ok (.iaload, 1) := by decide +kernel
theorem dX5_send_50 : decode cX5_send 50 = .ok (.aload_n 0, 1) := by decide +kernel
theorem dX5_send_51 : decode cX5_send 51 = .ok (.getfield 34, 3) := by decide +kernel
theorem dX5_send_54 : decode cX5_send 54 = .ok (.aload_n 3, 1) := by decide +kernel
theorem dX5_send_55 : decode cX5_send 55 = .ok (.iconst 0, 1) := by decide +kernel
theorem dX5_send_56 : decode cX5_send 56 = .ok (.iaload, 1) := by decide +kernel
theorem dX5_send_57 : decode cX5_send 57 = .ok (.iadd, 1) := by decide +kernel
theorem dX5_send_58 : decode cX5_send 58 = .ok (.iconst 1, 1) := by decide +kernel
theorem dX5_send_59 : decode cX5_send 59 = .ok (.iadd, 1) := by decide +kernel
theorem dX5_send_60 : decode cX5_send 60 = .ok (.iload_n 2, 1) := by decide +kernel
theorem dX5_send_61 : decode cX5_send 61 = .ok (.invokestatic 37, 3) := by decide +kernel
theorem dX5_send_64 : decode cX5_send 64 = .ok (.ifCond .eq 7, 3) := by decide +kernel
theorem dX5_send_67 : decode cX5_send 67 = .ok (.iconst 1, 1) := by decide +kernel
theorem dX5_send_68 : decode cX5_send 68 = .ok (.goto 4, 3) := by decide +kernel
theorem dX5_send_71 : decode cX5_send 71 = .ok (.iconst 0, 1) := by decide +kernel
theorem dX5_send_72 : decode cX5_send 72 = .ok (.iadd, 1) := by decide +kernel
theorem dX5_send_73 : decode cX5_send 73 = .ok (.iastore, 1) := by decide +kernel
theorem dX5_send_74 : decode cX5_send 74 = .ok (.aload_n 3, 1) := by decide +kernel
theorem dX5_send_75 : decode cX5_send 75 = .ok (.iconst 0, 1) := by decide +kernel
theorem dX5_send_76 : decode cX5_send 76 = .ok (.dup2, 1) := by decide +kernel
theorem dX5_send_77 : decode cX5_send 77 = .ok (.iaload, 1) := by decide +kernel
theorem dX5_send_78 : decode cX5_send 78 = .ok (.iload 5, 2) := by decide +kernel
theorem dX5_send_80 : decode cX5_send 80 = .ok (.iadd, 1) := by decide +kernel
theorem dX5_send_81 : decode cX5_send 81 = .ok (.iastore, 1) := by decide +kernel
theorem dX5_send_82 : decode cX5_send 82 = .ok (.aload_n 3, 1) := by decide +kernel
theorem dX5_send_83 : decode cX5_send 83 = .ok (.iconst 1, 1) := by decide +kernel
theorem dX5_send_84 : decode cX5_send 84 = .ok (.dup2, 1) := by decide +kernel
theorem dX5_send_85 : decode cX5_send 85 = .ok (.iaload, 1) := by decide +kernel
theorem dX5_send_86 : decode cX5_send 86 = .ok (.iload 5, 2) := by decide +kernel
theorem dX5_send_88 : decode cX5_send 88 = .ok (.iconst 1, 1) := by decide +kernel
theorem dX5_send_89 : decode cX5_send 89 = .ok (.isub, 1) := by decide +kernel
theorem dX5_send_90 : decode cX5_send 90 = .ok (.iadd, 1) := by decide +kernel
theorem dX5_send_91 : decode cX5_send 91 = .ok (.iastore, 1) := by decide +kernel
theorem dX5_send_92 : decode cX5_send 92 = .ok (.aload_n 3, 1) := by decide +kernel
theorem dX5_send_93 : decode cX5_send 93 = .ok (.iconst 2, 1) := by decide +kernel
theorem dX5_send_94 : decode cX5_send 94 = .ok (.dup2, 1) := by decide +kernel
theorem dX5_send_95 : decode cX5_send 95 = .ok (.iaload, 1) := by decide +kernel
theorem dX5_send_96 : decode cX5_send 96 = .ok (.aload_n 0, 1) := by decide +kernel
theorem dX5_send_97 : decode cX5_send 97 = .ok (.getfield 34, 3) := by decide +kernel
theorem dX5_send_100 : decode cX5_send 100 = .ok (.aload_n 3, 1) := by decide +kernel
theorem dX5_send_101 : decode cX5_send 101 = .ok (.iconst 0, 1) := by decide +kernel
theorem dX5_send_102 : decode cX5_send 102 = .ok (.iaload, 1) := by decide +kernel
theorem dX5_send_103 : decode cX5_send 103 = .ok (.iadd, 1) := by decide +kernel
theorem dX5_send_104 : decode cX5_send 104 = .ok (.iload_n 2, 1) := by decide +kernel
theorem dX5_send_105 : decode cX5_send 105 = .ok (.invokestatic 37, 3) := by decide +kernel
theorem dX5_send_108 : decode cX5_send 108 = .ok (.ifCond .eq 7, 3) := by decide +kernel
theorem dX5_send_111 : decode cX5_send 111 = .ok (.iconst 1, 1) := by decide +kernel
theorem dX5_send_112 : decode cX5_send 112 = .ok (.goto 4, 3) := by decide +kernel
theorem dX5_send_115 : decode cX5_send 115 = .ok (.iconst 0, 1) := by decide +kernel
theorem dX5_send_116 : decode cX5_send 116 = .ok (.iadd, 1) := by decide +kernel
theorem dX5_send_117 : decode cX5_send 117 = .ok (.iastore, 1) := by decide +kernel
theorem dX5_send_118 : decode cX5_send 118 = .ok (.iinc 4 1, 3) := by decide +kernel
theorem dX5_send_121 : decode cX5_send 121 = .ok (.goto (-114), 3) := by decide +kernel
theorem dX5_send_124 : decode cX5_send 124 = .ok (.aload_n 3, 1) := by decide +kernel
theorem dX5_send_125 : decode cX5_send 125 = .ok (.areturn, 1) := by decide +kernel
set_option maxRecDepth 20000 in
theorem ggX5_isSame_X5_parted : GoodIn wsX5_isSame wsX5_parted := goodIn_r _ [12, 8, 3, 13, 14, 11, 15] (by decide +kernel) (by decide +kernel)
set_option maxRecDepth 20000 in
theorem gX5_isSame_X5_parted : GoodIn wsX5_isSame (va_wsS RX5 26 yX5_parted wsX5_parted) := goodIn_app (goodIn_of _ (by decide +kernel)) ggX5_isSame_X5_parted
set_option maxRecDepth 20000 in
theorem ggX5_isSame_X4_codes : GoodIn wsX5_isSame wsX4_codes := goodIn_r _ [20, 21, 22, 23, 24, 25, 26, 27, 188, 189, 190, 191, 192, 193, 194, 195, 196, 197, 198, 199, 200] (by decide +kernel) (by decide +kernel)
set_option maxRecDepth 20000 in
theorem gX5_isSame_X4_codes : GoodIn wsX5_isSame (wsV RX5 41 RX4 yX4_codes wsX4_codes) := goodIn_app (goodIn_of _ (by decide +kernel)) ggX5_isSame_X4_codes
set_option maxRecDepth 20000 in
theorem ggX5_isSame_X4_words : GoodIn wsX5_isSame wsX4_words := goodIn_r _ [31, 32, 33, 34, 35, 36, 37, 38, 188, 189, 190, 191, 192, 193, 194, 195, 196, 197, 201, 202] (by decide +kernel) (by decide +kernel)
set_option maxRecDepth 20000 in
theorem gX5_isSame_X4_words : GoodIn wsX5_isSame (wsV RX5 46 RX4 yX4_words wsX4_words) := goodIn_app (goodIn_of _ (by decide +kernel)) ggX5_isSame_X4_words
set_option maxRecDepth 20000 in
theorem ggX5_isSame_X4_groups : GoodIn wsX5_isSame wsX4_groups := goodIn_r _ [42, 43, 44, 45, 46, 47, 48, 49, 188, 189, 190, 191, 192, 193, 194, 195, 196, 197, 203, 204, 205, 206, 207] (by decide +kernel) (by decide +kernel)
set_option maxRecDepth 20000 in
theorem gX5_isSame_X4_groups : GoodIn wsX5_isSame (wsV RX5 49 RX4 yX4_groups wsX4_groups) := goodIn_app (goodIn_of _ (by decide +kernel)) ggX5_isSame_X4_groups
set_option maxRecDepth 20000 in
theorem ggX5_isSame_X4_counted : GoodIn wsX5_isSame wsX4_counted := goodIn_r _ [53, 43, 32, 44, 45, 46, 47, 48, 49, 54, 55, 56, 57, 58, 59, 60, 61, 62, 63, 64, 65, 66, 67, 68, 69, 70, 71, 36, 72, 73, 74, 75, 76, 77, 78, 79, 80, 81, 38, 188, 189, 190, 191, 192, 193, 194, 195, 196, 197, 203, 204, 205, 206, 207, 201, 202] (by decide +kernel) (by decide +kernel)
set_option maxRecDepth 20000 in
theorem gX5_isSame_X4_counted : GoodIn wsX5_isSame (wsV RX5 52 RX4 yX4_counted wsX4_counted) := goodIn_app (goodIn_of _ (by decide +kernel)) ggX5_isSame_X4_counted
set_option maxRecDepth 20000 in
theorem ggX5_isSame_X5_counted : GoodIn wsX5_isSame wsX5_counted := goodIn_r _ [85, 2, 9, 10, 11, 12, 8, 3, 13, 14, 15, 181, 182, 183, 184, 185, 186, 187] (by decide +kernel) (by decide +kernel)
set_option maxRecDepth 20000 in
theorem gX5_isSame_X5_counted : GoodIn wsX5_isSame (wsV RX5 30 RX5 yX5_counted wsX5_counted) := goodIn_app (goodIn_of _ (by decide +kernel)) ggX5_isSame_X5_counted
set_option maxRecDepth 20000 in
theorem ggX5_isSame_X4_cost : GoodIn wsX5_isSame wsX4_cost := goodIn_r _ [89, 90, 51, 52, 19, 53, 43, 32, 44, 45, 46, 47, 48, 49, 54, 55, 56, 57, 58, 59, 60, 61, 62, 63, 64, 65, 66, 67, 68, 69, 70, 71, 36, 72, 73, 74, 75, 76, 77, 78, 79, 80, 81, 38, 91, 92, 93, 94, 95, 96, 97, 98, 33, 34, 35, 37, 188, 189, 190, 191, 192, 193, 194, 195, 196, 197, 203, 204, 205, 206, 207, 201, 202] (by decide +kernel) (by decide +kernel)
set_option maxRecDepth 20000 in
theorem gX5_isSame_X4_cost : GoodIn wsX5_isSame (wsV RX5 54 RX4 yX4_cost wsX4_cost) := goodIn_app (goodIn_of _ (by decide +kernel)) ggX5_isSame_X4_cost
set_option maxRecDepth 20000 in
theorem ggX5_isSame_X5_cost : GoodIn wsX5_isSame wsX5_cost := goodIn_r _ [102, 2, 82, 83, 84, 11, 85, 9, 10, 12, 8, 3, 13, 14, 15, 181, 182, 183, 184, 185, 186, 187] (by decide +kernel) (by decide +kernel)
set_option maxRecDepth 20000 in
theorem gX5_isSame_X5_cost : GoodIn wsX5_isSame (wsV RX5 57 RX5 yX5_cost wsX5_cost) := goodIn_app (goodIn_of _ (by decide +kernel)) ggX5_isSame_X5_cost
set_option maxRecDepth 20000 in
theorem ggX5_isSame_X4_saved : GoodIn wsX5_isSame wsX4_saved := goodIn_r _ [106, 32, 107, 108, 109, 36, 110, 38, 111, 70, 71, 72, 73, 74, 75, 76, 77, 78, 79, 80, 81, 91, 92, 93, 19, 94, 95, 96, 97, 98, 33, 34, 35, 37, 112, 87, 88, 89, 90, 51, 52, 53, 43, 44, 45, 46, 47, 48, 49, 54, 55, 56, 57, 58, 59, 60, 61, 62, 63, 64, 65, 66, 67, 68, 69, 188, 189, 190, 191, 192, 193, 194, 195, 196, 197, 201, 202, 203, 204, 205, 206, 207] (by decide +kernel) (by decide +kernel)
set_option maxRecDepth 20000 in
theorem gX5_isSame_X4_saved : GoodIn wsX5_isSame (wsV RX5 59 RX4 yX4_saved wsX4_saved) := goodIn_app (goodIn_of _ (by decide +kernel)) ggX5_isSame_X4_saved
set_option maxRecDepth 20000 in
theorem ggX5_isSame_X4_sentGroups : GoodIn wsX5_isSame wsX4_sentGroups := goodIn_r _ [116, 117, 188, 189, 190, 191, 192, 193, 194, 195, 196, 197] (by decide +kernel) (by decide +kernel)
set_option maxRecDepth 20000 in
theorem gX5_isSame_X4_sentGroups : GoodIn wsX5_isSame (wsV RX5 62 RX4 yX4_sentGroups wsX4_sentGroups) := goodIn_app (goodIn_of _ (by decide +kernel)) ggX5_isSame_X4_sentGroups
set_option maxRecDepth 20000 in
theorem ggX5_isSame_X4_repeats : GoodIn wsX5_isSame wsX4_repeats := goodIn_r _ [121, 122, 188, 189, 190, 191, 192, 193, 194, 195, 196, 197] (by decide +kernel) (by decide +kernel)
set_option maxRecDepth 20000 in
theorem gX5_isSame_X4_repeats : GoodIn wsX5_isSame (wsV RX5 65 RX4 yX4_repeats wsX4_repeats) := goodIn_app (goodIn_of _ (by decide +kernel)) ggX5_isSame_X4_repeats
set_option maxRecDepth 20000 in
theorem ggX5_isSame_X4_lost : GoodIn wsX5_isSame wsX4_lost := goodIn_r _ [126, 127, 188, 189, 190, 191, 192, 193, 194, 195, 196, 197] (by decide +kernel) (by decide +kernel)
set_option maxRecDepth 20000 in
theorem gX5_isSame_X4_lost : GoodIn wsX5_isSame (wsV RX5 70 RX4 yX4_lost wsX4_lost) := goodIn_app (goodIn_of _ (by decide +kernel)) ggX5_isSame_X4_lost
set_option maxRecDepth 20000 in
theorem ggX5_isSame_X4_earned : GoodIn wsX5_isSame wsX4_earned := goodIn_r _ [131, 132, 188, 189, 190, 191, 192, 193, 194, 195, 196, 197] (by decide +kernel) (by decide +kernel)
set_option maxRecDepth 20000 in
theorem gX5_isSame_X4_earned : GoodIn wsX5_isSame (wsV RX5 75 RX4 yX4_earned wsX4_earned) := goodIn_app (goodIn_of _ (by decide +kernel)) ggX5_isSame_X4_earned
set_option maxRecDepth 20000 in
theorem ggX5_isSame_X5_codeAt : GoodIn wsX5_isSame wsX5_codeAt := goodIn_r _ [136, 1, 2, 13, 14, 11, 15, 181, 182, 183, 184, 185, 186, 187] (by decide +kernel) (by decide +kernel)
set_option maxRecDepth 20000 in
theorem gX5_isSame_X5_codeAt : GoodIn wsX5_isSame (wsV RX5 80 RX5 yX5_codeAt wsX5_codeAt) := goodIn_app (goodIn_of _ (by decide +kernel)) ggX5_isSame_X5_codeAt
set_option maxRecDepth 20000 in
theorem ggX5_isSame_X4_startOf : GoodIn wsX5_isSame wsX4_startOf := goodIn_ca (goodIn_r _ [140, 141, 142, 43, 143, 65, 66, 47, 67, 49, 68, 60, 61, 62, 63, 64, 188, 189, 190, 191, 192, 193, 194, 195, 196, 197, 203, 204, 205, 206, 207] (by decide +kernel) (by decide +kernel)) (goodIn_sub (fun _ h => List.mem_cons_of_mem _ (List.mem_append_right _ h)) (by decide +kernel))
set_option maxRecDepth 20000 in
theorem gX5_isSame_X4_startOf : GoodIn wsX5_isSame (wsV RX5 84 RX4 yX4_startOf wsX4_startOf) := goodIn_app (goodIn_of _ (by decide +kernel)) ggX5_isSame_X4_startOf
set_option maxRecDepth 20000 in
theorem ggX5_isSame_X4_codeOf : GoodIn wsX5_isSame wsX4_codeOf := goodIn_ca (goodIn_r _ [147, 141, 142, 43, 143, 65, 66, 47, 67, 49, 54, 55, 56, 57, 58, 59, 60, 61, 62, 63, 64, 188, 189, 190, 191, 192, 193, 194, 195, 196, 197, 203, 204, 205, 206, 207] (by decide +kernel) (by decide +kernel)) (goodIn_sub (fun _ h => List.mem_cons_of_mem _ (List.mem_append_right _ h)) (by decide +kernel))
set_option maxRecDepth 20000 in
theorem gX5_isSame_X4_codeOf : GoodIn wsX5_isSame (wsV RX5 88 RX4 yX4_codeOf wsX4_codeOf) := goodIn_app (goodIn_of _ (by decide +kernel)) ggX5_isSame_X4_codeOf
set_option maxRecDepth 20000 in
theorem ggX5_isSame_X4_lengthOf : GoodIn wsX5_isSame wsX4_lengthOf := goodIn_ca (goodIn_r _ [151, 141, 142, 21, 152, 153, 154, 25, 155, 27, 156, 157, 158, 159, 160, 161, 188, 189, 190, 191, 192, 193, 194, 195, 196, 197, 198, 199, 200] (by decide +kernel) (by decide +kernel)) (goodIn_sub (fun _ h => List.mem_cons_of_mem _ (List.mem_append_right _ h)) (by decide +kernel))
set_option maxRecDepth 20000 in
theorem gX5_isSame_X4_lengthOf : GoodIn wsX5_isSame (wsV RX5 91 RX4 yX4_lengthOf wsX4_lengthOf) := goodIn_app (goodIn_of _ (by decide +kernel)) ggX5_isSame_X4_lengthOf
set_option maxRecDepth 20000 in
theorem ggX5_isSame_X4_usesOf : GoodIn wsX5_isSame wsX4_usesOf := goodIn_ca (goodIn_r _ [165, 141, 142, 21, 43, 152, 153, 154, 25, 155, 27, 166, 167, 168, 47, 169, 49, 170, 55, 56, 57, 58, 59, 60, 61, 62, 63, 64, 65, 66, 67, 188, 189, 190, 191, 192, 193, 194, 195, 196, 197, 198, 199, 200, 203, 204, 205, 206, 207] (by decide +kernel) (by decide +kernel)) (goodIn_sub (fun _ h => List.mem_cons_of_mem _ (List.mem_append_right _ h)) (by decide +kernel))
set_option maxRecDepth 20000 in
theorem gX5_isSame_X4_usesOf : GoodIn wsX5_isSame (wsV RX5 94 RX4 yX4_usesOf wsX4_usesOf) := goodIn_app (goodIn_of _ (by decide +kernel)) ggX5_isSame_X4_usesOf
set_option maxRecDepth 20000 in
theorem ggX5_isSame_X4_typeOf : GoodIn wsX5_isSame wsX4_typeOf := goodIn_ca (goodIn_r _ [174, 141, 142, 32, 175, 79, 80, 36, 81, 38, 176, 74, 75, 76, 77, 78, 188, 189, 190, 191, 192, 193, 194, 195, 196, 197, 201, 202] (by decide +kernel) (by decide +kernel)) (goodIn_sub (fun _ h => List.mem_cons_of_mem _ (List.mem_append_right _ h)) (by decide +kernel))
set_option maxRecDepth 20000 in
theorem gX5_isSame_X4_typeOf : GoodIn wsX5_isSame (wsV RX5 97 RX4 yX4_typeOf wsX4_typeOf) := goodIn_app (goodIn_of _ (by decide +kernel)) ggX5_isSame_X4_typeOf
set_option maxRecDepth 20000 in
theorem ggX5_isSame_X4_meanLength : GoodIn wsX5_isSame wsX4_meanLength := goodIn_r _ [180, 21, 22, 23, 24, 25, 26, 27, 156, 157, 158, 159, 160, 161, 153, 154, 155, 188, 189, 190, 191, 192, 193, 194, 195, 196, 197, 198, 199, 200] (by decide +kernel) (by decide +kernel)
set_option maxRecDepth 20000 in
theorem gX5_isSame_X4_meanLength : GoodIn wsX5_isSame (wsV RX5 100 RX4 yX4_meanLength wsX4_meanLength) := goodIn_app (goodIn_of _ (by decide +kernel)) ggX5_isSame_X4_meanLength
theorem dX5_isSame_0 : decode cX5_isSame 0 = .ok (.aload_n 0, 1) := by decide +kernel
theorem dX5_isSame_1 : decode cX5_isSame 1 = .ok (.getfield 9, 3) := by decide +kernel
theorem dX5_isSame_4 : decode cX5_isSame 4 = .ok (.aload_n 0, 1) := by decide +kernel
theorem dX5_isSame_5 : decode cX5_isSame 5 = .ok (.getfield 15, 3) := by decide +kernel
theorem dX5_isSame_8 : decode cX5_isSame 8 = .ok (.invokestatic 26, 3) := by decide +kernel
theorem dX5_isSame_11 : decode cX5_isSame 11 = .ok (.astore_n 2, 1) := by decide +kernel
theorem dX5_isSame_12 : decode cX5_isSame 12 = .ok (.aload_n 2, 1) := by decide +kernel
theorem dX5_isSame_13 : decode cX5_isSame 13 = .ok (.iconst 0, 1) := by decide +kernel
theorem dX5_isSame_14 : decode cX5_isSame 14 = .ok (.aaload, 1) := by decide +kernel
theorem dX5_isSame_15 : decode cX5_isSame 15 = .ok (.iconst 0, 1) := by decide +kernel
theorem dX5_isSame_16 : decode cX5_isSame 16 = .ok (.iaload, 1) := by decide +kernel
theorem dX5_isSame_17 : decode cX5_isSame 17 = .ok (.istore_n 3, 1) := by decide +kernel
theorem dX5_isSame_18 : decode cX5_isSame 18 = .ok (.aload_n 1, 1) := by decide +kernel
theorem dX5_isSame_19 : decode cX5_isSame 19 = .ok (.invokevirtual 41, 3) := by decide +kernel
theorem dX5_isSame_22 : decode cX5_isSame 22 = .ok (.aload_n 0, 1) := by decide +kernel
theorem dX5_isSame_23 : decode cX5_isSame 23 = .ok (.getfield 9, 3) := by decide +kernel
theorem dX5_isSame_26 : decode cX5_isSame 26 = .ok (.arraylength, 1) := by decide +kernel
theorem dX5_isSame_27 : decode cX5_isSame 27 = .ok (.if_icmp .ne 121, 3) := by decide +kernel
theorem dX5_isSame_30 : decode cX5_isSame 30 = .ok (.aload_n 1, 1) := by decide +kernel
theorem dX5_isSame_31 : decode cX5_isSame 31 = .ok (.invokevirtual 46, 3) := by decide +kernel
theorem dX5_isSame_34 : decode cX5_isSame 34 = .ok (.aload_n 0, 1) := by decide +kernel
theorem dX5_isSame_35 : decode cX5_isSame 35 = .ok (.getfield 15, 3) := by decide +kernel
theorem dX5_isSame_38 : decode cX5_isSame 38 = .ok (.arraylength, 1) := by decide +kernel
theorem dX5_isSame_39 : decode cX5_isSame 39 = .ok (.if_icmp .ne 109, 3) := by decide +kernel
theorem dX5_isSame_42 : decode cX5_isSame 42 = .ok (.aload_n 1, 1) := by decide +kernel
theorem dX5_isSame_43 : decode cX5_isSame 43 = .ok (.invokevirtual 49, 3) := by decide +kernel
theorem dX5_isSame_46 : decode cX5_isSame 46 = .ok (.iload_n 3, 1) := by decide +kernel
theorem dX5_isSame_47 : decode cX5_isSame 47 = .ok (.if_icmp .ne 101, 3) := by decide +kernel
theorem dX5_isSame_50 : decode cX5_isSame 50 = .ok (.aload_n 1, 1) := by decide +kernel
theorem dX5_isSame_51 : decode cX5_isSame 51 = .ok (.invokevirtual 52, 3) := by decide +kernel
theorem dX5_isSame_54 : decode cX5_isSame 54 = .ok (.aload_n 0, 1) := by decide +kernel
theorem dX5_isSame_55 : decode cX5_isSame 55 = .ok (.aload_n 0, 1) := by decide +kernel
theorem dX5_isSame_56 : decode cX5_isSame 56 = .ok (.getfield 9, 3) := by decide +kernel
theorem dX5_isSame_59 : decode cX5_isSame 59 = .ok (.invokevirtual 30, 3) := by decide +kernel
theorem dX5_isSame_62 : decode cX5_isSame 62 = .ok (.if_icmp .ne 86, 3) := by decide +kernel
theorem dX5_isSame_65 : decode cX5_isSame 65 = .ok (.aload_n 1, 1) := by decide +kernel
theorem dX5_isSame_66 : decode cX5_isSame 66 = .ok (.invokevirtual 54, 3) := by decide +kernel
theorem dX5_isSame_69 : decode cX5_isSame 69 = .ok (.aload_n 0, 1) := by decide +kernel
theorem dX5_isSame_70 : decode cX5_isSame 70 = .ok (.aload_n 0, 1) := by decide +kernel
theorem dX5_isSame_71 : decode cX5_isSame 71 = .ok (.getfield 9, 3) := by decide +kernel
theorem dX5_isSame_74 : decode cX5_isSame 74 = .ok (.invokevirtual 57, 3) := by decide +kernel
theorem dX5_isSame_77 : decode cX5_isSame 77 = .ok (.if_icmp .ne 71, 3) := by decide +kernel
theorem dX5_isSame_80 : decode cX5_isSame 80 = .ok (.aload_n 1, 1) := by decide +kernel
theorem dX5_isSame_81 : decode cX5_isSame 81 = .ok (.invokevirtual 59, 3) := by decide +kernel
theorem dX5_isSame_84 : decode cX5_isSame 84 = .ok (.aload_n 0, 1) := by decide +kernel
theorem dX5_isSame_85 : decode cX5_isSame 85 = .ok (.iconst 0, 1) := by decide +kernel
theorem dX5_isSame_86 : decode cX5_isSame 86 = .ok (.anewarray 7, 3) := by decide +kernel
theorem dX5_isSame_89 : decode cX5_isSame 89 = .ok (.invokevirtual 57, 3) := by decide +kernel
theorem dX5_isSame_92 : decode cX5_isSame 92 = .ok (.aload_n 0, 1) := by decide +kernel
theorem dX5_isSame_93 : decode cX5_isSame 93 = .ok (.aload_n 0, 1) := by decide +kernel
theorem dX5_isSame_94 : decode cX5_isSame 94 = .ok (.getfield 9, 3) := by decide +kernel
theorem dX5_isSame_97 : decode cX5_isSame 97 = .ok (.invokevirtual 57, 3) := by decide +kernel
theorem dX5_isSame_100 : decode cX5_isSame 100 = .ok (.isub, 1) := by decide +kernel
theorem dX5_isSame_101 : decode cX5_isSame 101 = .ok (.if_icmp .ne 47, 3) := by decide +kernel
theorem dX5_isSame_104 : decode cX5_isSame 104 = .ok (.aload_n 1, 1) := by decide +kernel
theorem dX5_isSame_105 : decode cX5_isSame 105 = .ok (.invokevirtual 62, 3) := by decide +kernel
theorem dX5_isSame_108 : decode cX5_isSame 108 = .ok (.aload_n 0, 1) := by decide +kernel
theorem dX5_isSame_109 : decode cX5_isSame 109 = .ok (.getfield 34, 3) := by decide +kernel
theorem dX5_isSame_112 : decode cX5_isSame 112 = .ok (.if_icmp .ne 36, 3) := by decide +kernel
theorem dX5_isSame_115 : decode cX5_isSame 115 = .ok (.aload_n 1, 1) := by decide +kernel
theorem dX5_isSame_116 : decode cX5_isSame 116 = .ok (.invokevirtual 65, 3) := by decide +kernel
theorem dX5_isSame_119 : decode cX5_isSame 119 = .ok (.aload_n 0, 1) := by decide +kernel
theorem dX5_isSame_120 : decode cX5_isSame 120 = .ok (.getfield 68, 3) := by decide +kernel
theorem dX5_isSame_123 : decode cX5_isSame 123 = .ok (.if_icmp .ne 25, 3) := by decide +kernel
theorem dX5_isSame_126 : decode cX5_isSame 126 = .ok (.aload_n 1, 1) := by decide +kernel
theorem dX5_isSame_127 : decode cX5_isSame 127 = .ok (.invokevirtual 70, 3) := by decide +kernel
theorem dX5_isSame_130 : decode cX5_isSame 130 = .ok (.aload_n 0, 1) := by decide +kernel
theorem dX5_isSame_131 : decode cX5_isSame 131 = .ok (.getfield 73, 3) := by decide +kernel
theorem dX5_isSame_134 : decode cX5_isSame 134 = .ok (.if_icmp .ne 14, 3) := by decide +kernel
theorem dX5_isSame_137 : decode cX5_isSame 137 = .ok (.aload_n 1, 1) := by decide +kernel
theorem dX5_isSame_138 : decode cX5_isSame 138 = .ok (.invokevirtual 75, 3) := by decide +kernel
theorem dX5_isSame_141 : decode cX5_isSame 141 = .ok (.aload_n 0, 1) := by decide +kernel
theorem dX5_isSame_142 : decode cX5_isSame 142 = .ok (.getfield 78, 3) := by decide +kernel
theorem dX5_isSame_145 : decode cX5_isSame 145 = .ok (.if_icmp .eq 5, 3) := by decide +kernel
theorem dX5_isSame_148 : decode cX5_isSame 148 = .ok (.iconst 0, 1) := by decide +kernel
theorem dX5_isSame_149 : decode cX5_isSame 149 = .ok (.ireturn, 1) := by decide +kernel
theorem dX5_isSame_150 : decode cX5_isSame 150 = .ok (.aload_n 0, 1) := by decide +kernel
theorem dX5_isSame_151 : decode cX5_isSame 151 = .ok (.getfield 9, 3) := by decide +kernel
theorem dX5_isSame_154 : decode cX5_isSame 154 = .ok (.arraylength, 1) := by decide +kernel
theorem dX5_isSame_155 : decode cX5_isSame 155 = .ok (.newarray .int, 2) := by decide +kernel
theorem dX5_isSame_157 : decode cX5_isSame 157 = .ok (.astore 4, 2) := by decide +kernel
theorem dX5_isSame_159 : decode cX5_isSame 159 = .ok (.iconst 0, 1) := by decide +kernel
theorem dX5_isSame_160 : decode cX5_isSame 160 = .ok (.istore 5, 2) := by decide +kernel
theorem dX5_isSame_162 : decode cX5_isSame 162 = .ok (.iconst 0, 1) := by decide +kernel
theorem dX5_isSame_163 : decode cX5_isSame 163 = .ok (.istore 6, 2) := by decide +kernel
theorem dX5_isSame_165 : decode cX5_isSame 165 = .ok (.iload 6, 2) := by decide +kernel
theorem dX5_isSame_167 : decode cX5_isSame 167 = .ok (.iload_n 3, 1) := by decide +kernel
theorem dX5_isSame_168 : decode cX5_isSame 168 = .ok (.if_icmp .ge 82, 3) := by decide +kernel
theorem dX5_isSame_171 : decode cX5_isSame 171 = .ok (.aload_n 2, 1) := by decide +kernel
theorem dX5_isSame_172 : decode cX5_isSame 172 = .ok (.iconst 1, 1) := by decide +kernel
theorem dX5_isSame_173 : decode cX5_isSame 173 = .ok (.aaload, 1) := by decide +kernel
theorem dX5_isSame_174 : decode cX5_isSame 174 = .ok (.iload 5, 2) := by decide +kernel
theorem dX5_isSame_176 : decode cX5_isSame 176 = .ok (.iaload, 1) := by decide +kernel
theorem dX5_isSame_177 : decode cX5_isSame 177 = .ok (.istore 7, 2) := by decide +kernel
theorem dX5_isSame_179 : decode cX5_isSame 179 = .ok (.iload 7, 2) := by decide +kernel
theorem dX5_isSame_181 : decode cX5_isSame 181 = .ok (.iconst 1, 1) := by decide +kernel
theorem dX5_isSame_182 : decode cX5_isSame 182 = .ok (.if_icmp .ne 7, 3) := by decide +kernel
theorem dX5_isSame_185 : decode cX5_isSame 185 = .ok (.iconst (-1), 1) := by decide +kernel
theorem dX5_isSame_186 : decode cX5_isSame 186 = .ok (.goto 11, 3) := by decide +kernel
theorem dX5_isSame_189 : decode cX5_isSame 189 = .ok (.aload_n 0, 1) := by decide +kernel
theorem dX5_isSame_190 : decode cX5_isSame 190 = .ok (.iload 5, 2) := by decide +kernel
theorem dX5_isSame_192 : decode cX5_isSame 192 = .ok (.iload 7, 2) := by decide +kernel
theorem dX5_isSame_194 : decode cX5_isSame 194 = .ok (.invokevirtual 80, 3) := by decide +kernel
theorem dX5_isSame_197 : decode cX5_isSame 197 = .ok (.istore 8, 2) := by decide +kernel
theorem dX5_isSame_199 : decode cX5_isSame 199 = .ok (.aload_n 1, 1) := by decide +kernel
theorem dX5_isSame_200 : decode cX5_isSame 200 = .ok (.iload 6, 2) := by decide +kernel
theorem dX5_isSame_202 : decode cX5_isSame 202 = .ok (.invokevirtual 84, 3) := by decide +kernel
theorem dX5_isSame_205 : decode cX5_isSame 205 = .ok (.iload 5, 2) := by decide +kernel
theorem dX5_isSame_207 : decode cX5_isSame 207 = .ok (.if_icmp .ne 14, 3) := by decide +kernel
theorem dX5_isSame_210 : decode cX5_isSame 210 = .ok (.aload_n 1, 1) := by decide +kernel
theorem dX5_isSame_211 : decode cX5_isSame 211 = .ok (.iload 6, 2) := by decide +kernel
theorem dX5_isSame_213 : decode cX5_isSame 213 = .ok (.invokevirtual 88, 3) := by decide +kernel
theorem dX5_isSame_216 : decode cX5_isSame 216 = .ok (.iload 8, 2) := by decide +kernel
theorem dX5_isSame_218 : decode cX5_isSame 218 = .ok (.if_icmp .eq 5, 3) := by decide +kernel
theorem dX5_isSame_221 : decode cX5_isSame 221 = .ok (.iconst 0, 1) := by decide +kernel
theorem dX5_isSame_222 : decode cX5_isSame 222 = .ok (.ireturn, 1) := by decide +kernel
theorem dX5_isSame_223 : decode cX5_isSame 223 = .ok (.iload 8, 2) := by decide +kernel
theorem dX5_isSame_225 : decode cX5_isSame 225 = .ok (.ifCond .lt 12, 3) := by decide +kernel
theorem dX5_isSame_228 : decode cX5_isSame 228 = .ok (.aload 4, 2) := by decide +kernel
theorem dX5_isSame_230 : decode cX5_isSame 230 = .ok (.iload 8, 2) := by decide +kernel
theorem dX5_isSame_232 : decode cX5_isSame 232 = .ok (.dup2, 1) := by decide +kernel
theorem dX5_isSame_233 : decode cX5_isSame 233 = .ok (.iaload, 1) := by decide +kernel
theorem dX5_isSame_234 : decode cX5_isSame 234 = .ok (.iconst 1, 1) := by decide +kernel
theorem dX5_isSame_235 : decode cX5_isSame 235 = .ok (.iadd, 1) := by decide +kernel
theorem dX5_isSame_236 : decode cX5_isSame 236 = .ok (.iastore, 1) := by decide +kernel
theorem dX5_isSame_237 : decode cX5_isSame 237 = .ok (.iload 5, 2) := by decide +kernel
theorem dX5_isSame_239 : decode cX5_isSame 239 = .ok (.iload 7, 2) := by decide +kernel
theorem dX5_isSame_241 : decode cX5_isSame 241 = .ok (.iadd, 1) := by decide +kernel
theorem dX5_isSame_242 : decode cX5_isSame 242 = .ok (.istore 5, 2) := by decide +kernel
theorem dX5_isSame_244 : decode cX5_isSame 244 = .ok (.iinc 6 1, 3) := by decide +kernel
theorem dX5_isSame_247 : decode cX5_isSame 247 = .ok (.goto (-82), 3) := by decide +kernel
theorem dX5_isSame_250 : decode cX5_isSame 250 = .ok (.iconst 0, 1) := by decide +kernel
theorem dX5_isSame_251 : decode cX5_isSame 251 = .ok (.istore 6, 2) := by decide +kernel
theorem dX5_isSame_253 : decode cX5_isSame 253 = .ok (.iconst 0, 1) := by decide +kernel
theorem dX5_isSame_254 : decode cX5_isSame 254 = .ok (.istore 7, 2) := by decide +kernel
theorem dX5_isSame_256 : decode cX5_isSame 256 = .ok (.iload 7, 2) := by decide +kernel
theorem dX5_isSame_258 : decode cX5_isSame 258 = .ok (.aload_n 0, 1) := by decide +kernel
theorem dX5_isSame_259 : decode cX5_isSame 259 = .ok (.getfield 9, 3) := by decide +kernel
theorem dX5_isSame_262 : decode cX5_isSame 262 = .ok (.arraylength, 1) := by decide +kernel
theorem dX5_isSame_263 : decode cX5_isSame 263 = .ok (.if_icmp .ge 55, 3) := by decide +kernel
theorem dX5_isSame_266 : decode cX5_isSame 266 = .ok (.iload 6, 2) := by decide +kernel
theorem dX5_isSame_268 : decode cX5_isSame 268 = .ok (.aload_n 0, 1) := by decide +kernel
theorem dX5_isSame_269 : decode cX5_isSame 269 = .ok (.getfield 9, 3) := by decide +kernel
theorem dX5_isSame_272 : decode cX5_isSame 272 = .ok (.iload 7, 2) := by decide +kernel
theorem dX5_isSame_274 : decode cX5_isSame 274 = .ok (.aaload, 1) := by decide +kernel
theorem dX5_isSame_275 : decode cX5_isSame 275 = .ok (.arraylength, 1) := by decide +kernel
theorem dX5_isSame_276 : decode cX5_isSame 276 = .ok (.iadd, 1) := by decide +kernel
theorem dX5_isSame_277 : decode cX5_isSame 277 = .ok (.istore 6, 2) := by decide +kernel
theorem dX5_isSame_279 : decode cX5_isSame 279 = .ok (.aload_n 1, 1) := by decide +kernel
theorem dX5_isSame_280 : decode cX5_isSame 280 = .ok (.iload 7, 2) := by decide +kernel
theorem dX5_isSame_282 : decode cX5_isSame 282 = .ok (.invokevirtual 91, 3) := by decide +kernel
theorem dX5_isSame_285 : decode cX5_isSame 285 = .ok (.aload_n 0, 1) := by decide +kernel
theorem dX5_isSame_286 : decode cX5_isSame 286 = .ok (.getfield 9, 3) := by decide +kernel
theorem dX5_isSame_289 : decode cX5_isSame 289 = .ok (.iload 7, 2) := by decide +kernel
theorem dX5_isSame_291 : decode cX5_isSame 291 = .ok (.aaload, 1) := by decide +kernel
theorem dX5_isSame_292 : decode cX5_isSame 292 = .ok (.arraylength, 1) := by decide +kernel
theorem dX5_isSame_293 : decode cX5_isSame 293 = .ok (.if_icmp .ne 17, 3) := by decide +kernel
theorem dX5_isSame_296 : decode cX5_isSame 296 = .ok (.aload_n 1, 1) := by decide +kernel
theorem dX5_isSame_297 : decode cX5_isSame 297 = .ok (.iload 7, 2) := by decide +kernel
theorem dX5_isSame_299 : decode cX5_isSame 299 = .ok (.invokevirtual 94, 3) := by decide +kernel
theorem dX5_isSame_302 : decode cX5_isSame 302 = .ok (.aload 4, 2) := by decide +kernel
theorem dX5_isSame_304 : decode cX5_isSame 304 = .ok (.iload 7, 2) := by decide +kernel
theorem dX5_isSame_306 : decode cX5_isSame 306 = .ok (.iaload, 1) := by decide +kernel
theorem dX5_isSame_307 : decode cX5_isSame 307 = .ok (.if_icmp .eq 5, 3) := by decide +kernel
theorem dX5_isSame_310 : decode cX5_isSame 310 = .ok (.iconst 0, 1) := by decide +kernel
theorem dX5_isSame_311 : decode cX5_isSame 311 = .ok (.ireturn, 1) := by decide +kernel
theorem dX5_isSame_312 : decode cX5_isSame 312 = .ok (.iinc 7 1, 3) := by decide +kernel
theorem dX5_isSame_315 : decode cX5_isSame 315 = .ok (.goto (-59), 3) := by decide +kernel
theorem dX5_isSame_318 : decode cX5_isSame 318 = .ok (.iconst 0, 1) := by decide +kernel
theorem dX5_isSame_319 : decode cX5_isSame 319 = .ok (.istore 7, 2) := by decide +kernel
theorem dX5_isSame_321 : decode cX5_isSame 321 = .ok (.iload 7, 2) := by decide +kernel
theorem dX5_isSame_323 : decode cX5_isSame 323 = .ok (.aload_n 0, 1) := by decide +kernel
theorem dX5_isSame_324 : decode cX5_isSame 324 = .ok (.getfield 15, 3) := by decide +kernel
theorem dX5_isSame_327 : decode cX5_isSame 327 = .ok (.arraylength, 1) := by decide +kernel
theorem dX5_isSame_328 : decode cX5_isSame 328 = .ok (.if_icmp .ge 27, 3) := by decide +kernel
theorem dX5_isSame_331 : decode cX5_isSame 331 = .ok (.aload_n 1, 1) := by decide +kernel
theorem dX5_isSame_332 : decode cX5_isSame 332 = .ok (.iload 7, 2) := by decide +kernel
theorem dX5_isSame_334 : decode cX5_isSame 334 = .ok (.invokevirtual 97, 3) := by decide +kernel
theorem dX5_isSame_337 : decode cX5_isSame 337 = .ok (.aload_n 0, 1) := by decide +kernel
theorem dX5_isSame_338 : decode cX5_isSame 338 = .ok (.getfield 15, 3) := by decide +kernel
theorem dX5_isSame_341 : decode cX5_isSame 341 = .ok (.iload 7, 2) := by decide +kernel
theorem dX5_isSame_343 : decode cX5_isSame 343 = .ok (.iaload, 1) := by decide +kernel
theorem dX5_isSame_344 : decode cX5_isSame 344 = .ok (.if_icmp .eq 5, 3) := by decide +kernel
theorem dX5_isSame_347 : decode cX5_isSame 347 = .ok (.iconst 0, 1) := by decide +kernel
theorem dX5_isSame_348 : decode cX5_isSame 348 = .ok (.ireturn, 1) := by decide +kernel
theorem dX5_isSame_349 : decode cX5_isSame 349 = .ok (.iinc 7 1, 3) := by decide +kernel
theorem dX5_isSame_352 : decode cX5_isSame 352 = .ok (.goto (-31), 3) := by decide +kernel
theorem dX5_isSame_355 : decode cX5_isSame 355 = .ok (.iload 5, 2) := by decide +kernel
theorem dX5_isSame_357 : decode cX5_isSame 357 = .ok (.aload_n 0, 1) := by decide +kernel
theorem dX5_isSame_358 : decode cX5_isSame 358 = .ok (.getfield 15, 3) := by decide +kernel
theorem dX5_isSame_361 : decode cX5_isSame 361 = .ok (.arraylength, 1) := by decide +kernel
theorem dX5_isSame_362 : decode cX5_isSame 362 = .ok (.if_icmp .ne 37, 3) := by decide +kernel
theorem dX5_isSame_365 : decode cX5_isSame 365 = .ok (.aload_n 1, 1) := by decide +kernel
theorem dX5_isSame_366 : decode cX5_isSame 366 = .ok (.invokevirtual 100, 3) := by decide +kernel
theorem dX5_isSame_369 : decode cX5_isSame 369 = .ok (.aload_n 0, 1) := by decide +kernel
theorem dX5_isSame_370 : decode cX5_isSame 370 = .ok (.getfield 9, 3) := by decide +kernel
theorem dX5_isSame_373 : decode cX5_isSame 373 = .ok (.arraylength, 1) := by decide +kernel
theorem dX5_isSame_374 : decode cX5_isSame 374 = .ok (.ifCond .ne 7, 3) := by decide +kernel
theorem dX5_isSame_377 : decode cX5_isSame 377 = .ok (.dconst 0, 1) := by decide +kernel
theorem dX5_isSame_378 : decode cX5_isSame 378 = .ok (.goto 13, 3) := by decide +kernel
theorem dX5_isSame_381 : decode cX5_isSame 381 = .ok (.iload 6, 2) := by decide +kernel
theorem dX5_isSame_383 : decode cX5_isSame 383 = .ok (.i2d, 1) := by decide +kernel
theorem dX5_isSame_384 : decode cX5_isSame 384 = .ok (.aload_n 0, 1) := by decide +kernel
theorem dX5_isSame_385 : decode cX5_isSame 385 = .ok (.getfield 9, 3) := by decide +kernel
theorem dX5_isSame_388 : decode cX5_isSame 388 = .ok (.arraylength, 1) := by decide +kernel
theorem dX5_isSame_389 : decode cX5_isSame 389 = .ok (.i2d, 1) := by decide +kernel
theorem dX5_isSame_390 : decode cX5_isSame 390 = .ok (.ddiv, 1) := by decide +kernel
theorem dX5_isSame_391 : decode cX5_isSame 391 = .ok (.dcmp .l, 1) := by decide +kernel
theorem dX5_isSame_392 : decode cX5_isSame 392 = .ok (.ifCond .ne 7, 3) := by decide +kernel
theorem dX5_isSame_395 : decode cX5_isSame 395 = .ok (.iconst 1, 1) := by decide +kernel
theorem dX5_isSame_396 : decode cX5_isSame 396 = .ok (.goto 4, 3) := by decide +kernel
theorem dX5_isSame_399 : decode cX5_isSame 399 = .ok (.iconst 0, 1) := by decide +kernel
theorem dX5_isSame_400 : decode cX5_isSame 400 = .ok (.ireturn, 1) := by decide +kernel
theorem dJ9_max_7cf53_0 : decode cJ9_max_7cf53 0 = .ok (.iload_n 0, 1) := by decide +kernel
theorem dJ9_max_7cf53_1 : decode cJ9_max_7cf53 1 = .ok (.iload_n 1, 1) := by decide +kernel
theorem dJ9_max_7cf53_2 : decode cJ9_max_7cf53 2 = .ok (.if_icmp .lt 7, 3) := by decide +kernel
theorem dJ9_max_7cf53_5 : decode cJ9_max_7cf53 5 = .ok (.iload_n 0, 1) := by decide +kernel
theorem dJ9_max_7cf53_6 : decode cJ9_max_7cf53 6 = .ok (.goto 4, 3) := by decide +kernel
theorem dJ9_max_7cf53_9 : decode cJ9_max_7cf53 9 = .ok (.iload_n 1, 1) := by decide +kernel
theorem dJ9_max_7cf53_10 : decode cJ9_max_7cf53 10 = .ok (.ireturn, 1) := by decide +kernel
theorem dJ9_min_7cf53_0 : decode cJ9_min_7cf53 0 = .ok (.iload_n 0, 1) := by decide +kernel
theorem dJ9_min_7cf53_1 : decode cJ9_min_7cf53 1 = .ok (.iload_n 1, 1) := by decide +kernel
theorem dJ9_min_7cf53_2 : decode cJ9_min_7cf53 2 = .ok (.if_icmp .gt 7, 3) := by decide +kernel
theorem dJ9_min_7cf53_5 : decode cJ9_min_7cf53 5 = .ok (.iload_n 0, 1) := by decide +kernel
theorem dJ9_min_7cf53_6 : decode cJ9_min_7cf53 6 = .ok (.goto 4, 3) := by decide +kernel
theorem dJ9_min_7cf53_9 : decode cJ9_min_7cf53 9 = .ok (.iload_n 1, 1) := by decide +kernel
theorem dJ9_min_7cf53_10 : decode cJ9_min_7cf53 10 = .ok (.ireturn, 1) := by decide +kernel
