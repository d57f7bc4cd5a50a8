theorem dX0_init_0 : decode cX0_init 0 = .ok (.aload_n 0, 1) := by decide +kernel
theorem dX0_init_1 : decode cX0_init 1 = .ok (.invokespecial 3, 3) := by decide +kernel
theorem dX0_init_4 : decode cX0_init 4 = .ok (.aload_n 0, 1) := by decide +kernel
theorem dX0_init_5 : decode cX0_init 5 = .ok (.bipush 32, 2) := by decide +kernel
theorem dX0_init_7 : decode cX0_init 7 = .ok (.newarray .int, 2) := by decide +kernel
theorem dX0_init_9 : decode cX0_init 9 = .ok (.putfield 9, 3) := by decide +kernel
theorem dX0_init_12 : decode cX0_init 12 = .ok (.aload_n 0, 1) := by decide +kernel
theorem dX0_init_13 : decode cX0_init 13 = .ok (.bipush 8, 2) := by decide +kernel
theorem dX0_init_15 : decode cX0_init 15 = .ok (.newarray .int, 2) := by decide +kernel
theorem dX0_init_17 : decode cX0_init 17 = .ok (.putfield 15, 3) := by decide +kernel
theorem dX0_init_20 : decode cX0_init 20 = .ok (.return_, 1) := by decide +kernel
theorem dX0_size_0 : decode cX0_size 0 = .ok (.aload_n 0, 1) := by decide +kernel
theorem dX0_size_1 : decode cX0_size 1 = .ok (.getfield 18, 3) := by decide +kernel
theorem dX0_size_4 : decode cX0_size 4 = .ok (.ireturn, 1) := by decide +kernel
theorem dX0_isFull_0 : decode cX0_isFull 0 = .ok (.aload_n 0, 1) := by decide +kernel
theorem dX0_isFull_1 : decode cX0_isFull 1 = .ok (.getfield 18, 3) := by decide +kernel
theorem dX0_isFull_4 : decode cX0_isFull 4 = .ok (.bipush 8, 2) := by decide +kernel
theorem dX0_isFull_6 : decode cX0_isFull 6 = .ok (.if_icmp .lt 7, 3) := by decide +kernel
theorem dX0_isFull_9 : decode cX0_isFull 9 = .ok (.iconst 1, 1) := by decide +kernel
theorem dX0_isFull_10 : decode cX0_isFull 10 = .ok (.goto 4, 3) := by decide +kernel
theorem dX0_isFull_13 : decode cX0_isFull 13 = .ok (.iconst 0, 1) := by decide +kernel
theorem dX0_isFull_14 : decode cX0_isFull 14 = .ok (.ireturn, 1) := by decide +kernel
theorem dX0_has_0 : decode cX0_has 0 = .ok (.iload_n 1, 1) := by decide +kernel
theorem dX0_has_1 : decode cX0_has 1 = .ok (.ifCond .lt 15, 3) := by decide +kernel
theorem dX0_has_4 : decode cX0_has 4 = .ok (.iload_n 1, 1) := by decide +kernel
theorem dX0_has_5 : decode cX0_has 5 = .ok (.aload_n 0, 1) := by decide +kernel
theorem dX0_has_6 : decode cX0_has 6 = .ok (.getfield 18, 3) := by decide +kernel
theorem dX0_has_9 : decode cX0_has 9 = .ok (.if_icmp .ge 7, 3) := by decide +kernel
theorem dX0_has_12 : decode cX0_has 12 = .ok (.iconst 1, 1) := by decide +kernel
theorem dX0_has_13 : decode cX0_has 13 = .ok (.goto 4, 3) := by decide +kernel
theorem dX0_has_16 : decode cX0_has 16 = .ok (.iconst 0, 1) := by decide +kernel
theorem dX0_has_17 : decode cX0_has 17 = .ok (.ireturn, 1) := by decide +kernel
set_option maxRecDepth 20000 in
theorem ggX0_typeIn_X0_has : GoodIn wsX0_typeIn wsX0_has := goodIn_r _ [6, 7, 8, 9, 10] (by decide +kernel) (by decide +kernel)
set_option maxRecDepth 20000 in
theorem gX0_typeIn_X0_has : GoodIn wsX0_typeIn (wsV RX0 22 RX0 yX0_has wsX0_has) := goodIn_app (goodIn_of _ (by decide +kernel)) ggX0_typeIn_X0_has
theorem dX0_typeIn_0 : decode cX0_typeIn 0 = .ok (.aload_n 0, 1) := by decide +kernel
theorem dX0_typeIn_1 : decode cX0_typeIn 1 = .ok (.iload_n 1, 1) := by decide +kernel
theorem dX0_typeIn_2 : decode cX0_typeIn 2 = .ok (.invokevirtual 22, 3) := by decide +kernel
theorem dX0_typeIn_5 : decode cX0_typeIn 5 = .ok (.ifCond .eq 12, 3) := by decide +kernel
theorem dX0_typeIn_8 : decode cX0_typeIn 8 = .ok (.iload_n 2, 1) := by decide +kernel
theorem dX0_typeIn_9 : decode cX0_typeIn 9 = .ok (.ifCond .lt 8, 3) := by decide +kernel
theorem dX0_typeIn_12 : decode cX0_typeIn 12 = .ok (.iload_n 2, 1) := by decide +kernel
theorem dX0_typeIn_13 : decode cX0_typeIn 13 = .ok (.iconst 4, 1) := by decide +kernel
theorem dX0_typeIn_14 : decode cX0_typeIn 14 = .ok (.if_icmp .lt 5, 3) := by decide +kernel
theorem dX0_typeIn_17 : decode cX0_typeIn 17 = .ok (.iconst (-1), 1) := by decide +kernel
theorem dX0_typeIn_18 : decode cX0_typeIn 18 = .ok (.ireturn, 1) := by decide +kernel
theorem dX0_typeIn_19 : decode cX0_typeIn 19 = .ok (.aload_n 0, 1) := by decide +kernel
theorem dX0_typeIn_20 : decode cX0_typeIn 20 = .ok (.getfield 9, 3) := by decide +kernel
theorem dX0_typeIn_23 : decode cX0_typeIn 23 = .ok (.iload_n 1, 1) := by decide +kernel
theorem dX0_typeIn_24 : decode cX0_typeIn 24 = .ok (.iconst 4, 1) := by decide +kernel
theorem dX0_typeIn_25 : decode cX0_typeIn 25 = .ok (.imul, 1) := by decide +kernel
theorem dX0_typeIn_26 : decode cX0_typeIn 26 = .ok (.iload_n 2, 1) := by decide +kernel
theorem dX0_typeIn_27 : decode cX0_typeIn 27 = .ok (.iadd, 1) := by decide +kernel
theorem dX0_typeIn_28 : decode cX0_typeIn 28 = .ok (.iaload, 1) := by decide +kernel
theorem dX0_typeIn_29 : decode cX0_typeIn 29 = .ok (.ireturn, 1) := by decide +kernel
set_option maxRecDepth 20000 in
theorem ggX0_wordsIn_X0_has : GoodIn wsX0_wordsIn wsX0_has := goodIn_r _ [6, 7, 8, 9, 10] (by decide +kernel) (by decide +kernel)
set_option maxRecDepth 20000 in
theorem gX0_wordsIn_X0_has : GoodIn wsX0_wordsIn (wsV RX0 22 RX0 yX0_has wsX0_has) := goodIn_app (goodIn_of _ (by decide +kernel)) ggX0_wordsIn_X0_has
theorem dX0_wordsIn_0 : decode cX0_wordsIn 0 = .ok (.aload_n 0, 1) := by decide +kernel
theorem dX0_wordsIn_1 : decode cX0_wordsIn 1 = .ok (.iload_n 1, 1) := by decide +kernel
theorem dX0_wordsIn_2 : decode cX0_wordsIn 2 = .ok (.invokevirtual 22, 3) := by decide +kernel
theorem dX0_wordsIn_5 : decode cX0_wordsIn 5 = .ok (.ifCond .eq 12, 3) := by decide +kernel
theorem dX0_wordsIn_8 : decode cX0_wordsIn 8 = .ok (.aload_n 0, 1) := by decide +kernel
theorem dX0_wordsIn_9 : decode cX0_wordsIn 9 = .ok (.getfield 15, 3) := by decide +kernel
theorem dX0_wordsIn_12 : decode cX0_wordsIn 12 = .ok (.iload_n 1, 1) := by decide +kernel
theorem dX0_wordsIn_13 : decode cX0_wordsIn 13 = .ok (.iaload, 1) := by decide +kernel
theorem dX0_wordsIn_14 : decode cX0_wordsIn 14 = .ok (.goto 4, 3) := by decide +kernel
theorem dX0_wordsIn_17 : decode cX0_wordsIn 17 = .ok (.iconst 0, 1) := by decide +kernel
theorem dX0_wordsIn_18 : decode cX0_wordsIn 18 = .ok (.ireturn, 1) := by decide +kernel
set_option maxRecDepth 20000 in
theorem ggX0_holds_X0_typeIn : GoodIn wsX0_holds wsX0_typeIn := goodIn_r _ [6, 7, 8, 9, 10, 5, 11, 1, 12, 13, 14] (by decide +kernel) (by decide +kernel)
set_option maxRecDepth 20000 in
theorem gX0_holds_X0_typeIn : GoodIn wsX0_holds (wsV RX0 26 RX0 yX0_typeIn wsX0_typeIn) := goodIn_app (goodIn_of _ (by decide +kernel)) ggX0_holds_X0_typeIn
theorem dX0_holds_0 : decode cX0_holds 0 = .ok (.iconst 0, 1) := by decide +kernel
theorem dX0_holds_1 : decode cX0_holds 1 = .ok (.istore 5, 2) := by decide +kernel
theorem dX0_holds_3 : decode cX0_holds 3 = .ok (.iload 5, 2) := by decide +kernel
theorem dX0_holds_5 : decode cX0_holds 5 = .ok (.aload_n 0, 1) := by decide +kernel
theorem dX0_holds_6 : decode cX0_holds 6 = .ok (.getfield 18, 3) := by decide +kernel
theorem dX0_holds_9 : decode cX0_holds 9 = .ok (.if_icmp .ge 56, 3) := by decide +kernel
theorem dX0_holds_12 : decode cX0_holds 12 = .ok (.aload_n 0, 1) := by decide +kernel
theorem dX0_holds_13 : decode cX0_holds 13 = .ok (.iload 5, 2) := by decide +kernel
theorem dX0_holds_15 : decode cX0_holds 15 = .ok (.iconst 0, 1) := by decide +kernel
theorem dX0_holds_16 : decode cX0_holds 16 = .ok (.invokevirtual 26, 3) := by decide +kernel
theorem dX0_holds_19 : decode cX0_holds 19 = .ok (.iload_n 1, 1) := by decide +kernel
theorem dX0_holds_20 : decode cX0_holds 20 = .ok (.if_icmp .ne 39, 3) := by decide +kernel
theorem dX0_holds_23 : decode cX0_holds 23 = .ok (.aload_n 0, 1) := by decide +kernel
theorem dX0_holds_24 : decode cX0_holds 24 = .ok (.iload 5, 2) := by decide +kernel
theorem dX0_holds_26 : decode cX0_holds 26 = .ok (.iconst 1, 1) := by decide +kernel
theorem dX0_holds_27 : decode cX0_holds 27 = .ok (.invokevirtual 26, 3) := by decide +kernel
theorem dX0_holds_30 : decode cX0_holds 30 = .ok (.iload_n 2, 1) := by decide +kernel
theorem dX0_holds_31 : decode cX0_holds 31 = .ok (.if_icmp .ne 28, 3) := by decide +kernel
theorem dX0_holds_34 : decode cX0_holds 34 = .ok (.aload_n 0, 1) := by decide +kernel
theorem dX0_holds_35 : decode cX0_holds 35 = .ok (.iload 5, 2) := by decide +kernel
theorem dX0_holds_37 : decode cX0_holds 37 = .ok (.iconst 2, 1) := by decide +kernel
theorem dX0_holds_38 : decode cX0_holds 38 = .ok (.invokevirtual 26, 3) := by decide +kernel
theorem dX0_holds_41 : decode cX0_holds 41 = .ok (.iload_n 3, 1) := by decide +kernel
theorem dX0_holds_42 : decode cX0_holds 42 = .ok (.if_icmp .ne 17, 3) := by decide +kernel
theorem dX0_holds_45 : decode cX0_holds 45 = .ok (.aload_n 0, 1) := by decide +kernel
theorem dX0_holds_46 : decode cX0_holds 46 = .ok (.iload 5, 2) := by decide +kernel
theorem dX0_holds_48 : decode cX0_holds 48 = .ok (.iconst 3, 1) := by decide +kernel
theorem dX0_holds_49 : decode cX0_holds 49 = .ok (.invokevirtual 26, 3) := by decide +kernel
theorem dX0_holds_52 : decode cX0_holds 52 = .ok (.iload 4, 2) := by decide +kernel
theorem dX0_holds_54 : decode cX0_holds 54 = .ok (.if_icmp .ne 5, 3) := by decide +kernel
theorem dX0_holds_57 : decode cX0_holds 57 = .ok (.iconst 1, 1) := by decide +kernel
theorem dX0_holds_58 : decode cX0_holds 58 = .ok (.ireturn, 1) := by decide +kernel
theorem dX0_holds_59 : decode cX0_holds 59 = .ok (.iinc 5 1, 3) := by decide +kernel
theorem dX0_holds_62 : decode cX0_holds 62 = .ok (.goto (-59), 3) := by decide +kernel
theorem dX0_holds_65 : decode cX0_holds 65 = .ok (.iconst 0, 1) := by decide +kernel
theorem dX0_holds_66 : decode cX0_holds 66 = .ok (.ireturn, 1) := by decide +kernel
set_option maxRecDepth 20000 in
theorem ggX0_append_X0_isFull : GoodIn wsX0_append wsX0_isFull := goodIn_r _ [8, 1, 9, 10, 11] (by decide +kernel) (by decide +kernel)
set_option maxRecDepth 20000 in
theorem gX0_append_X0_isFull : GoodIn wsX0_append (wsV RX0 30 RX0 yX0_isFull wsX0_isFull) := goodIn_app (goodIn_of _ (by decide +kernel)) ggX0_append_X0_isFull
theorem dX0_append_0 : decode cX0_append 0 = .ok (.aload_n 0, 1) := by decide +kernel
theorem dX0_append_1 : decode cX0_append 1 = .ok (.invokevirtual 30, 3) := by decide +kernel
theorem dX0_append_4 : decode cX0_append 4 = .ok (.ifCond .eq 4, 3) := by decide +kernel
theorem dX0_append_7 : decode cX0_append 7 = .ok (.return_, 1) := by decide +kernel
theorem dX0_append_8 : decode cX0_append 8 = .ok (.aload_n 0, 1) := by decide +kernel
theorem dX0_append_9 : decode cX0_append 9 = .ok (.getfield 18, 3) := by decide +kernel
theorem dX0_append_12 : decode cX0_append 12 = .ok (.iconst 4, 1) := by decide +kernel
theorem dX0_append_13 : decode cX0_append 13 = .ok (.imul, 1) := by decide +kernel
theorem dX0_append_14 : decode cX0_append 14 = .ok (.istore 5, 2) := by decide +kernel
theorem dX0_append_16 : decode cX0_append 16 = .ok (.aload_n 0, 1) := by decide +kernel
theorem dX0_append_17 : decode cX0_append 17 = .ok (.getfield 9, 3) := by decide +kernel
theorem dX0_append_20 : decode cX0_append 20 = .ok (.iload 5, 2) := by decide +kernel
theorem dX0_append_22 : decode cX0_append 22 = .ok (.iload_n 1, 1) := by decide +kernel
theorem dX0_append_23 : decode cX0_append 23 = .ok (.iastore, 1) := by decide +kernel
theorem dX0_append_24 : decode cX0_append 24 = .ok (.aload_n 0, 1) := by decide +kernel
theorem dX0_append_25 : decode cX0_append 25 = .ok (.getfield 9, 3) := by decide +kernel
theorem dX0_append_28 : decode cX0_append 28 = .ok (.iload 5, 2) := by decide +kernel
theorem dX0_append_30 : decode cX0_append 30 = .ok (.iconst 1, 1) := by decide +kernel
theorem dX0_append_31 : decode cX0_append 31 = .ok (.iadd, 1) := by decide +kernel
theorem dX0_append_32 : decode cX0_append 32 = .ok (.iload_n 2, 1) := by decide +kernel
theorem dX0_append_33 : decode cX0_append 33 = .ok (.iastore, 1) := by decide +kernel
theorem dX0_append_34 : decode cX0_append 34 = .ok (.aload_n 0, 1) := by decide +kernel
theorem dX0_append_35 : decode cX0_append 35 = .ok (.getfield 9, 3) := by decide +kernel
theorem dX0_append_38 : decode cX0_append 38 = .ok (.iload 5, 2) := by decide +kernel
theorem dX0_append_40 : decode cX0_append 40 = .ok (.iconst 2, 1) := by decide +kernel
theorem dX0_append_41 : decode cX0_append 41 = .ok (.iadd, 1) := by decide +kernel
theorem dX0_append_42 : decode cX0_append 42 = .ok (.iload_n 3, 1) := by decide +kernel
theorem dX0_append_43 : decode cX0_append 43 = .ok (.iastore, 1) := by decide +kernel
theorem dX0_append_44 : decode cX0_append 44 = .ok (.aload_n 0, 1) := by decide +kernel
theorem dX0_append_45 : decode cX0_append 45 = .ok (.getfield 9, 3) := by decide +kernel
theorem dX0_append_48 : decode cX0_append 48 = .ok (.iload 5, 2) := by decide +kernel
theorem dX0_append_50 : decode cX0_append 50 = .ok (.iconst 3, 1) := by decide +kernel
theorem dX0_append_51 : decode cX0_append 51 = .ok (.iadd, 1) := by decide +kernel
theorem dX0_append_52 : decode cX0_append 52 = .ok (.iload 4, 2) := by decide +kernel
theorem dX0_append_54 : decode cX0_append 54 = .ok (.iastore, 1) := by decide +kernel
theorem dX0_append_55 : decode cX0_append 55 = .ok (.aload_n 0, 1) := by decide +kernel
theorem dX0_append_56 : decode cX0_append 56 = .ok (.getfield 15, 3) := by decide +kernel
theorem dX0_append_59 : decode cX0_append 59 = .ok (.aload_n 0, 1) := by decide +kernel
theorem dX0_append_60 : decode cX0_append 60 = .ok (.getfield 18, 3) := by decide +kernel
theorem dX0_append_63 : decode cX0_append 63 = .ok (.iconst 4, 1) := by decide +kernel
theorem dX0_append_64 : decode cX0_append 64 = .ok (.iastore, 1) := by decide +kernel
theorem dX0_append_65 : decode cX0_append 65 = .ok (.iload 4, 2) := by decide +kernel
theorem dX0_append_67 : decode cX0_append 67 = .ok (.iconst (-1), 1) := by decide +kernel
theorem dX0_append_68 : decode cX0_append 68 = .ok (.if_icmp .ne 22, 3) := by decide +kernel
theorem dX0_append_71 : decode cX0_append 71 = .ok (.aload_n 0, 1) := by decide +kernel
theorem dX0_append_72 : decode cX0_append 72 = .ok (.getfield 15, 3) := by decide +kernel
theorem dX0_append_75 : decode cX0_append 75 = .ok (.aload_n 0, 1) := by decide +kernel
theorem dX0_append_76 : decode cX0_append 76 = .ok (.getfield 18, 3) := by decide +kernel
theorem dX0_append_79 : decode cX0_append 79 = .ok (.iload_n 3, 1) := by decide +kernel
theorem dX0_append_80 : decode cX0_append 80 = .ok (.iconst (-1), 1) := by decide +kernel
theorem dX0_append_81 : decode cX0_append 81 = .ok (.if_icmp .ne 7, 3) := by decide +kernel
theorem dX0_append_84 : decode cX0_append 84 = .ok (.iconst 2, 1) := by decide +kernel
theorem dX0_append_85 : decode cX0_append 85 = .ok (.goto 4, 3) := by decide +kernel
theorem dX0_append_88 : decode cX0_append 88 = .ok (.iconst 3, 1) := by decide +kernel
theorem dX0_append_89 : decode cX0_append 89 = .ok (.iastore, 1) := by decide +kernel
theorem dX0_append_90 : decode cX0_append 90 = .ok (.aload_n 0, 1) := by decide +kernel
theorem dX0_append_91 : decode cX0_append 91 = .ok (.dup, 1) := by decide +kernel
theorem dX0_append_92 : decode cX0_append 92 = .ok (.getfield 18, 3) := by decide +kernel
theorem dX0_append_95 : decode cX0_append 95 = .ok (.iconst 1, 1) := by decide +kernel
theorem dX0_append_96 : decode cX0_append 96 = .ok (.iadd, 1) := by decide +kernel
theorem dX0_append_97 : decode cX0_append 97 = .ok (.putfield 18, 3) := by decide +kernel
theorem dX0_append_100 : decode cX0_append 100 = .ok (.return_, 1) := by decide +kernel
set_option maxRecDepth 20000 in
theorem ggX0_remove_X0_has : GoodIn wsX0_remove wsX0_has := goodIn_r _ [12, 1, 13, 14, 15] (by decide +kernel) (by decide +kernel)
set_option maxRecDepth 20000 in
theorem gX0_remove_X0_has : GoodIn wsX0_remove (wsV RX0 22 RX0 yX0_has wsX0_has) := goodIn_app (goodIn_of _ (by decide +kernel)) ggX0_remove_X0_has
theorem dX0_remove_0 : decode cX0_remove 0 = .ok (.aload_n 0, 1) := by decide +kernel
theorem dX0_remove_1 : decode cX0_remove 1 = .ok (.iload_n 1, 1) := by decide +kernel
theorem dX0_remove_2 : decode cX0_remove 2 = .ok (.invokevirtual 22, 3) := by decide +kernel
theorem dX0_remove_5 : decode cX0_remove 5 = .ok (.ifCond .ne 4, 3) := by decide +kernel
theorem dX0_remove_8 : decode cX0_remove 8 = .ok (.return_, 1) := by decide +kernel
theorem dX0_remove_9 : decode cX0_remove 9 = .ok (.aload_n 0, 1) := by decide +kernel
theorem dX0_remove_10 : decode cX0_remove 10 = .ok (.getfield 18, 3) := by decide +kernel
theorem dX0_remove_13 : decode cX0_remove 13 = .ok (.iload_n 1, 1) := by decide +kernel
theorem dX0_remove_14 : decode cX0_remove 14 = .ok (.isub, 1) := by decide +kernel
theorem dX0_remove_15 : decode cX0_remove 15 = .ok (.iconst 1, 1) := by decide +kernel
theorem dX0_remove_16 : decode cX0_remove 16 = .ok (.isub, 1) := by decide +kernel
theorem dX0_remove_17 : decode cX0_remove 17 = .ok (.istore_n 2, 1) := by decide +kernel
theorem dX0_remove_18 : decode cX0_remove 18 = .ok (.aload_n 0, 1) := by decide +kernel
theorem dX0_remove_19 : decode cX0_remove 19 = .ok (.getfield 9, 3) := by decide +kernel
theorem dX0_remove_22 : decode cX0_remove 22 = .ok (.iload_n 1, 1) := by decide +kernel
theorem dX0_remove_23 : decode cX0_remove 23 = .ok (.iconst 1, 1) := by decide +kernel
theorem dX0_remove_24 : decode cX0_remove 24 = .ok (.iadd, 1) := by decide +kernel
theorem dX0_remove_25 : decode cX0_remove 25 = .ok (.iconst 4, 1) := by decide +kernel
theorem dX0_remove_26 : decode cX0_remove 26 = .ok (.imul, 1) := by decide +kernel
theorem dX0_remove_27 : decode cX0_remove 27 = .ok (.aload_n 0, 1) := by decide +kernel
theorem dX0_remove_28 : decode cX0_remove 28 = .ok (.getfield 9, 3) := by decide +kernel
theorem dX0_remove_31 : decode cX0_remove 31 = .ok (.iload_n 1, 1) := by decide +kernel
theorem dX0_remove_32 : decode cX0_remove 32 = .ok (.iconst 4, 1) := by decide +kernel
theorem dX0_remove_33 : decode cX0_remove 33 = .ok (.imul, 1) := by decide +kernel
theorem dX0_remove_34 : decode cX0_remove 34 = .ok (.iload_n 2, 1) := by decide +kernel
theorem dX0_remove_35 : decode cX0_remove 35 = .ok (.iconst 4, 1) := by decide +kernel
theorem dX0_remove_36 : decode cX0_remove 36 = .ok (.imul, 1) := by decide +kernel
theorem dX0_remove_37 : decode cX0_remove 37 = .ok (.invokestatic 34, 3) := by decide +kernel
theorem dX0_remove_40 : decode cX0_remove 40 = .ok (.aload_n 0, 1) := by decide +kernel
theorem dX0_remove_41 : decode cX0_remove 41 = .ok (.getfield 15, 3) := by decide +kernel
theorem dX0_remove_44 : decode cX0_remove 44 = .ok (.iload_n 1, 1) := by decide +kernel
theorem dX0_remove_45 : decode cX0_remove 45 = .ok (.iconst 1, 1) := by decide +kernel
theorem dX0_remove_46 : decode cX0_remove 46 = .ok (.iadd, 1) := by decide +kernel
theorem dX0_remove_47 : decode cX0_remove 47 = .ok (.aload_n 0, 1) := by decide +kernel
theorem dX0_remove_48 : decode cX0_remove 48 = .ok (.getfield 15, 3) := by decide +kernel
theorem dX0_remove_51 : decode cX0_remove 51 = .ok (.iload_n 1, 1) := by decide +kernel
theorem dX0_remove_52 : decode cX0_remove 52 = .ok (.iload_n 2, 1) := by decide +kernel
theorem dX0_remove_53 : decode cX0_remove 53 = .ok (.invokestatic 34, 3) := by decide +kernel
theorem dX0_remove_56 : decode cX0_remove 56 = .ok (.aload_n 0, 1) := by decide +kernel
theorem dX0_remove_57 : decode cX0_remove 57 = .ok (.dup, 1) := by decide +kernel
theorem dX0_remove_58 : decode cX0_remove 58 = .ok (.getfield 18, 3) := by decide +kernel
theorem dX0_remove_61 : decode cX0_remove 61 = .ok (.iconst 1, 1) := by decide +kernel
theorem dX0_remove_62 : decode cX0_remove 62 = .ok (.isub, 1) := by decide +kernel
theorem dX0_remove_63 : decode cX0_remove 63 = .ok (.putfield 18, 3) := by decide +kernel
theorem dX0_remove_66 : decode cX0_remove 66 = .ok (.return_, 1) := by decide +kernel
theorem dX1_init_0 : decode cX1_init 0 = .ok (.aload_n 0, 1) := by decide +kernel
theorem dX1_init_1 : decode cX1_init 1 = .ok (.invokespecial 3, 3) := by decide +kernel
theorem dX1_init_4 : decode cX1_init 4 = .ok (.aload_n 0, 1) := by decide +kernel
theorem dX1_init_5 : decode cX1_init 5 = .ok (.bipush 24, 2) := by decide +kernel
theorem dX1_init_7 : decode cX1_init 7 = .ok (.newarray .int, 2) := by decide +kernel
theorem dX1_init_9 : decode cX1_init 9 = .ok (.putfield 9, 3) := by decide +kernel
theorem dX1_init_12 : decode cX1_init 12 = .ok (.return_, 1) := by decide +kernel
theorem dX1_size_0 : decode cX1_size 0 = .ok (.aload_n 0, 1) := by decide +kernel
theorem dX1_size_1 : decode cX1_size 1 = .ok (.getfield 15, 3) := by decide +kernel
theorem dX1_size_4 : decode cX1_size 4 = .ok (.ireturn, 1) := by decide +kernel
theorem dX1_isFull_0 : decode cX1_isFull 0 = .ok (.aload_n 0, 1) := by decide +kernel
theorem dX1_isFull_1 : decode cX1_isFull 1 = .ok (.getfield 15, 3) := by decide +kernel
theorem dX1_isFull_4 : decode cX1_isFull 4 = .ok (.bipush 24, 2) := by decide +kernel
theorem dX1_isFull_6 : decode cX1_isFull 6 = .ok (.if_icmp .lt 7, 3) := by decide +kernel
theorem dX1_isFull_9 : decode cX1_isFull 9 = .ok (.iconst 1, 1) := by decide +kernel
theorem dX1_isFull_10 : decode cX1_isFull 10 = .ok (.goto 4, 3) := by decide +kernel
theorem dX1_isFull_13 : decode cX1_isFull 13 = .ok (.iconst 0, 1) := by decide +kernel
theorem dX1_isFull_14 : decode cX1_isFull 14 = .ok (.ireturn, 1) := by decide +kernel
theorem dX1_has_0 : decode cX1_has 0 = .ok (.iload_n 1, 1) := by decide +kernel
theorem dX1_has_1 : decode cX1_has 1 = .ok (.ifCond .lt 15, 3) := by decide +kernel
theorem dX1_has_4 : decode cX1_has 4 = .ok (.iload_n 1, 1) := by decide +kernel
theorem dX1_has_5 : decode cX1_has 5 = .ok (.aload_n 0, 1) := by decide +kernel
theorem dX1_has_6 : decode cX1_has 6 = .ok (.getfield 15, 3) := by decide +kernel
theorem dX1_has_9 : decode cX1_has 9 = .ok (.if_icmp .ge 7, 3) := by decide +kernel
theorem dX1_has_12 : decode cX1_has 12 = .ok (.iconst 1, 1) := by decide +kernel
theorem dX1_has_13 : decode cX1_has 13 = .ok (.goto 4, 3) := by decide +kernel
theorem dX1_has_16 : decode cX1_has 16 = .ok (.iconst 0, 1) := by decide +kernel
theorem dX1_has_17 : decode cX1_has 17 = .ok (.ireturn, 1) := by decide +kernel
set_option maxRecDepth 20000 in
theorem ggX1_typeAt_X1_has : GoodIn wsX1_typeAt wsX1_has := goodIn_r _ [6, 7, 8, 9] (by decide +kernel) (by decide +kernel)
set_option maxRecDepth 20000 in
theorem gX1_typeAt_X1_has : GoodIn wsX1_typeAt (wsV RX1 19 RX1 yX1_has wsX1_has) := goodIn_app (goodIn_of _ (by decide +kernel)) ggX1_typeAt_X1_has
theorem dX1_typeAt_0 : decode cX1_typeAt 0 = .ok (.aload_n 0, 1) := by decide +kernel
theorem dX1_typeAt_1 : decode cX1_typeAt 1 = .ok (.iload_n 1, 1) := by decide +kernel
theorem dX1_typeAt_2 : decode cX1_typeAt 2 = .ok (.invokevirtual 19, 3) := by decide +kernel
theorem dX1_typeAt_5 : decode cX1_typeAt 5 = .ok (.ifCond .eq 12, 3) := by decide +kernel
theorem dX1_typeAt_8 : decode cX1_typeAt 8 = .ok (.aload_n 0, 1) := by decide +kernel
theorem dX1_typeAt_9 : decode cX1_typeAt 9 = .ok (.getfield 9, 3) := by decide +kernel
theorem dX1_typeAt_12 : decode cX1_typeAt 12 = .ok (.iload_n 1, 1) := by decide +kernel
theorem dX1_typeAt_13 : decode cX1_typeAt 13 = .ok (.iaload, 1) := by decide +kernel
theorem dX1_typeAt_14 : decode cX1_typeAt 14 = .ok (.goto 4, 3) := by decide +kernel
theorem dX1_typeAt_17 : decode cX1_typeAt 17 = .ok (.iconst (-1), 1) := by decide +kernel
theorem dX1_typeAt_18 : decode cX1_typeAt 18 = .ok (.ireturn, 1) := by decide +kernel
set_option maxRecDepth 20000 in
theorem ggX1_countOf_X1_typeAt : GoodIn wsX1_countOf wsX1_typeAt := goodIn_r _ [5, 6, 7, 8, 9, 4, 10, 11, 12, 13] (by decide +kernel) (by decide +kernel)
set_option maxRecDepth 20000 in
theorem gX1_countOf_X1_typeAt : GoodIn wsX1_countOf (wsV RX1 23 RX1 yX1_typeAt wsX1_typeAt) := goodIn_app (goodIn_of _ (by decide +kernel)) ggX1_countOf_X1_typeAt
theorem dX1_countOf_0 : decode cX1_countOf 0 = .ok (.aload_n 0, 1) := by decide +kernel
theorem dX1_countOf_1 : decode cX1_countOf 1 = .ok (.iload_n 1, 1) := by decide +kernel
theorem dX1_countOf_2 : decode cX1_countOf 2 = .ok (.invokevirtual 23, 3) := by decide +kernel
theorem dX1_countOf_5 : decode cX1_countOf 5 = .ok (.bipush 8, 2) := by decide +kernel
theorem dX1_countOf_7 : decode cX1_countOf 7 = .ok (.if_icmp .lt 7, 3) := by decide +kernel
theorem dX1_countOf_10 : decode cX1_countOf 10 = .ok (.iconst 2, 1) := by decide +kernel
theorem dX1_countOf_11 : decode cX1_countOf 11 = .ok (.goto 4, 3) := by decide +kernel
theorem dX1_countOf_14 : decode cX1_countOf 14 = .ok (.iconst 1, 1) := by decide +kernel
theorem dX1_countOf_15 : decode cX1_countOf 15 = .ok (.ireturn, 1) := by decide +kernel
set_option maxRecDepth 20000 in
theorem ggX1_countOfAll_X1_countOf : GoodIn wsX1_countOfAll wsX1_countOf := goodIn_r _ [6, 7, 8, 9, 5, 10, 11, 12, 13, 14, 15, 1, 16, 17] (by decide +kernel) (by decide +kernel)
set_option maxRecDepth 20000 in
theorem gX1_countOfAll_X1_countOf : GoodIn wsX1_countOfAll (wsV RX1 27 RX1 yX1_countOf wsX1_countOf) := goodIn_app (goodIn_of _ (by decide +kernel)) ggX1_countOfAll_X1_countOf
theorem dX1_countOfAll_0 : decode cX1_countOfAll 0 = .ok (.iconst 0, 1) := by decide +kernel
theorem dX1_countOfAll_1 : decode cX1_countOfAll 1 = .ok (.istore_n 1, 1) := by decide +kernel
theorem dX1_countOfAll_2 : decode cX1_countOfAll 2 = .ok (.iconst 0, 1) := by decide +kernel
theorem dX1_countOfAll_3 : decode cX1_countOfAll 3 = .ok (.istore_n 2, 1) := by decide +kernel
theorem dX1_countOfAll_4 : decode cX1_countOfAll 4 = .ok (.iload_n 2, 1) := by decide +kernel
theorem dX1_countOfAll_5 : decode cX1_countOfAll 5 = .ok (.aload_n 0, 1) := by decide +kernel
theorem dX1_countOfAll_6 : decode cX1_countOfAll 6 = .ok (.getfield 15, 3) := by decide +kernel
theorem dX1_countOfAll_9 : decode cX1_countOfAll 9 = .ok (.if_icmp .ge 17, 3) := by decide +kernel
theorem dX1_countOfAll_12 : decode cX1_countOfAll 12 = .ok (.iload_n 1, 1) := by decide +kernel
theorem dX1_countOfAll_13 : decode cX1_countOfAll 13 = .ok (.aload_n 0, 1) := by decide +kernel
theorem dX1_countOfAll_14 : decode cX1_countOfAll 14 = .ok (.iload_n 2, 1) := by decide +kernel
theorem dX1_countOfAll_15 : decode cX1_countOfAll 15 = .ok (.invokevirtual 27, 3) := by decide +kernel
theorem dX1_countOfAll_18 : decode cX1_countOfAll 18 = .ok (.iadd, 1) := by decide +kernel
theorem dX1_countOfAll_19 : decode cX1_countOfAll 19 = .ok (.istore_n 1, 1) := by decide +kernel
theorem dX1_countOfAll_20 : decode cX1_countOfAll 20 = .ok (.iinc 2 1, 3) := by decide +kernel
theorem dX1_countOfAll_23 : decode cX1_countOfAll 23 = .ok (.goto (-19), 3) := by decide +kernel
theorem dX1_countOfAll_26 : decode cX1_countOfAll 26 = .ok (.iload_n 1, 1) := by decide +kernel
theorem dX1_countOfAll_27 : decode cX1_countOfAll 27 = .ok (.ireturn, 1) := by decide +kernel
set_option maxRecDepth 20000 in
theorem ggX1_hasSameWords_X1_has : GoodIn wsX1_hasSameWords wsX1_has := goodIn_r _ [5, 6, 12, 13] (by decide +kernel) (by decide +kernel)
set_option maxRecDepth 20000 in
theorem gX1_hasSameWords_X1_has : GoodIn wsX1_hasSameWords (wsV RX1 19 RX1 yX1_has wsX1_has) := goodIn_app (goodIn_of _ (by decide +kernel)) ggX1_hasSameWords_X1_has
set_option maxRecDepth 20000 in
theorem ggX1_hasSameWords_X1_typeAt : GoodIn wsX1_hasSameWords wsX1_typeAt := goodIn_r _ [10, 11, 1, 2, 3, 4, 5, 6, 12, 13] (by decide +kernel) (by decide +kernel)
set_option maxRecDepth 20000 in
theorem gX1_hasSameWords_X1_typeAt : GoodIn wsX1_hasSameWords (wsV RX1 23 RX1 yX1_typeAt wsX1_typeAt) := goodIn_app (goodIn_of _ (by decide +kernel)) ggX1_hasSameWords_X1_typeAt
theorem dX1_hasSameWords_0 : decode cX1_hasSameWords 0 = .ok (.aload_n 0, 1) := by decide +kernel
theorem dX1_hasSameWords_1 : decode cX1_hasSameWords 1 = .ok (.iload_n 1, 1) := by decide +kernel
theorem dX1_hasSameWords_2 : decode cX1_hasSameWords 2 = .ok (.iload_n 3, 1) := by decide +kernel
theorem dX1_hasSameWords_3 : decode cX1_hasSameWords 3 = .ok (.iadd, 1) := by decide +kernel
theorem dX1_hasSameWords_4 : decode cX1_hasSameWords 4 = .ok (.iconst 1, 1) := by decide +kernel
theorem dX1_hasSameWords_5 : decode cX1_hasSameWords 5 = .ok (.isub, 1) := by decide +kernel
theorem dX1_hasSameWords_6 : decode cX1_hasSameWords 6 = .ok (.invokevirtual 19, 3) := by decide +kernel
theorem dX1_hasSameWords_9 : decode cX1_hasSameWords 9 = .ok (.ifCond .eq 15, 3) := by decide +kernel
theorem dX1_hasSameWords_12 : decode cX1_hasSameWords 12 = .ok (.aload_n 0, 1) := by decide +kernel
theorem dX1_hasSameWords_13 : decode cX1_hasSameWords 13 = .ok (.iload_n 2, 1) := by decide +kernel
theorem dX1_hasSameWords_14 : decode cX1_hasSameWords 14 = .ok (.iload_n 3, 1) := by decide +kernel
theorem dX1_hasSameWords_15 : decode cX1_hasSameWords 15 = .ok (.iadd, 1) := by decide +kernel
theorem dX1_hasSameWords_16 : decode cX1_hasSameWords 16 = .ok (.iconst 1, 1) := by decide +kernel
theorem dX1_hasSameWords_17 : decode cX1_hasSameWords 17 = .ok (.isub, 1) := by decide +kernel
theorem dX1_hasSameWords_18 : decode cX1_hasSameWords 18 = .ok (.invokevirtual 19, 3) := by decide +kernel
theorem dX1_hasSameWords_21 : decode cX1_hasSameWords 21 = .ok (.ifCond .ne 5, 3) := by decide +kernel
theorem dX1_hasSameWords_24 : decode cX1_hasSameWords 24 = .ok (.iconst 0, 1) := by decide +kernel
theorem dX1_hasSameWords_25 : decode cX1_hasSameWords 25 = .ok (.ireturn, 1) := by decide +kernel
theorem dX1_hasSameWords_26 : decode cX1_hasSameWords 26 = .ok (.iconst 0, 1) := by decide +kernel
theorem dX1_hasSameWords_27 : decode cX1_hasSameWords 27 = .ok (.istore 4, 2) := by decide +kernel
theorem dX1_hasSameWords_29 : decode cX1_hasSameWords 29 = .ok (.iload 4, 2) := by decide +kernel
theorem dX1_hasSameWords_31 : decode cX1_hasSameWords 31 = .ok (.iload_n 3, 1) := by decide +kernel
theorem dX1_hasSameWords_32 : decode cX1_hasSameWords 32 = .ok (.if_icmp .ge 30, 3) := by decide +kernel
theorem dX1_hasSameWords_35 : decode cX1_hasSameWords 35 = .ok (.aload_n 0, 1) := by decide +kernel
theorem dX1_hasSameWords_36 : decode cX1_hasSameWords 36 = .ok (.iload_n 1, 1) := by decide +kernel
theorem dX1_hasSameWords_37 : decode cX1_hasSameWords 37 = .ok (.iload 4, 2) := by decide +kernel
theorem dX1_hasSameWords_39 : decode cX1_hasSameWords 39 = .ok (.iadd, 1) := by decide +kernel
theorem dX1_hasSameWords_40 : decode cX1_hasSameWords 40 = .ok (.invokevirtual 23, 3) := by decide +kernel
theorem dX1_hasSameWords_43 : decode cX1_hasSameWords 43 = .ok (.aload_n 0, 1) := by decide +kernel
theorem dX1_hasSameWords_44 : decode cX1_hasSameWords 44 = .ok (.iload_n 2, 1) := by decide +kernel
theorem dX1_hasSameWords_45 : decode cX1_hasSameWords 45 = .ok (.iload 4, 2) := by decide +kernel
theorem dX1_hasSameWords_47 : decode cX1_hasSameWords 47 = .ok (.iadd, 1) := by decide +kernel
theorem dX1_hasSameWords_48 : decode cX1_hasSameWords 48 = .ok (.invokevirtual 23, 3) := by decide +kernel
theorem dX1_hasSameWords_51 : decode cX1_hasSameWords 51 = .ok (.if_icmp .eq 5, 3) := by decide +kernel
theorem dX1_hasSameWords_54 : decode cX1_hasSameWords 54 = .ok (.iconst 0, 1) := by decide +kernel
theorem dX1_hasSameWords_55 : decode cX1_hasSameWords 55 = .ok (.ireturn, 1) := by decide +kernel
theorem dX1_hasSameWords_56 : decode cX1_hasSameWords 56 = .ok (.iinc 4 1, 3) := by decide +kernel
theorem dX1_hasSameWords_59 : decode cX1_hasSameWords 59 = .ok (.goto (-30), 3) := by decide +kernel
theorem dX1_hasSameWords_62 : decode cX1_hasSameWords 62 = .ok (.iconst 1, 1) := by decide +kernel
theorem dX1_hasSameWords_63 : decode cX1_hasSameWords 63 = .ok (.ireturn, 1) := by decide +kernel
set_option maxRecDepth 20000 in
theorem ggX1_hasWordsOf_X0_wordsIn : GoodIn wsX1_hasWordsOf wsX0_wordsIn := goodIn_r _ [5, 6, 7, 8, 9, 4, 10, 11, 28, 29, 30] (by decide +kernel) (by decide +kernel)
set_option maxRecDepth 20000 in
theorem gX1_hasWordsOf_X0_wordsIn : GoodIn wsX1_hasWordsOf (wsV RX1 30 RX0 yX0_wordsIn wsX0_wordsIn) := goodIn_app (goodIn_of _ (by decide +kernel)) ggX1_hasWordsOf_X0_wordsIn
set_option maxRecDepth 20000 in
theorem ggX1_hasWordsOf_X1_has : GoodIn wsX1_hasWordsOf wsX1_has := goodIn_r _ [16, 17, 31, 32] (by decide +kernel) (by decide +kernel)
set_option maxRecDepth 20000 in
theorem gX1_hasWordsOf_X1_has : GoodIn wsX1_hasWordsOf (wsV RX1 19 RX1 yX1_has wsX1_has) := goodIn_app (goodIn_of _ (by decide +kernel)) ggX1_hasWordsOf_X1_has
set_option maxRecDepth 20000 in
theorem ggX1_hasWordsOf_X1_typeAt : GoodIn wsX1_hasWordsOf wsX1_typeAt := goodIn_r _ [21, 22, 12, 13, 14, 15, 16, 17, 31, 32] (by decide +kernel) (by decide +kernel)
set_option maxRecDepth 20000 in
theorem gX1_hasWordsOf_X1_typeAt : GoodIn wsX1_hasWordsOf (wsV RX1 23 RX1 yX1_typeAt wsX1_typeAt) := goodIn_app (goodIn_of _ (by decide +kernel)) ggX1_hasWordsOf_X1_typeAt
set_option maxRecDepth 20000 in
theorem ggX1_hasWordsOf_X0_typeIn : GoodIn wsX1_hasWordsOf wsX0_typeIn := goodIn_r _ [26, 27, 7, 8, 9, 4, 10, 11, 28, 29, 30] (by decide +kernel) (by decide +kernel)
set_option maxRecDepth 20000 in
theorem gX1_hasWordsOf_X0_typeIn : GoodIn wsX1_hasWordsOf (wsV RX1 35 RX0 yX0_typeIn wsX0_typeIn) := goodIn_app (goodIn_of _ (by decide +kernel)) ggX1_hasWordsOf_X0_typeIn
theorem dX1_hasWordsOf_0 : decode cX1_hasWordsOf 0 = .ok (.aload_n 1, 1) := by decide +kernel
theorem dX1_hasWordsOf_1 : decode cX1_hasWordsOf 1 = .ok (.iload_n 2, 1) := by decide +kernel
theorem dX1_hasWordsOf_2 : decode cX1_hasWordsOf 2 = .ok (.invokevirtual 30, 3) := by decide +kernel
theorem dX1_hasWordsOf_5 : decode cX1_hasWordsOf 5 = .ok (.istore 4, 2) := by decide +kernel
theorem dX1_hasWordsOf_7 : decode cX1_hasWordsOf 7 = .ok (.iload 4, 2) := by decide +kernel
theorem dX1_hasWordsOf_9 : decode cX1_hasWordsOf 9 = .ok (.ifCond .eq 16, 3) := by decide +kernel
theorem dX1_hasWordsOf_12 : decode cX1_hasWordsOf 12 = .ok (.aload_n 0, 1) := by decide +kernel
theorem dX1_hasWordsOf_13 : decode cX1_hasWordsOf 13 = .ok (.iload_n 3, 1) := by decide +kernel
theorem dX1_hasWordsOf_14 : decode cX1_hasWordsOf 14 = .ok (.iload 4, 2) := by decide +kernel
theorem dX1_hasWordsOf_16 : decode cX1_hasWordsOf 16 = .ok (.iadd, 1) := by decide +kernel
theorem dX1_hasWordsOf_17 : decode cX1_hasWordsOf 17 = .ok (.iconst 1, 1) := by decide +kernel
theorem dX1_hasWordsOf_18 : decode cX1_hasWordsOf 18 = .ok (.isub, 1) := by decide +kernel
theorem dX1_hasWordsOf_19 : decode cX1_hasWordsOf 19 = .ok (.invokevirtual 19, 3) := by decide +kernel
theorem dX1_hasWordsOf_22 : decode cX1_hasWordsOf 22 = .ok (.ifCond .ne 5, 3) := by decide +kernel
theorem dX1_hasWordsOf_25 : decode cX1_hasWordsOf 25 = .ok (.iconst 0, 1) := by decide +kernel
theorem dX1_hasWordsOf_26 : decode cX1_hasWordsOf 26 = .ok (.ireturn, 1) := by decide +kernel
theorem dX1_hasWordsOf_27 : decode cX1_hasWordsOf 27 = .ok (.iconst 0, 1) := by decide +kernel
theorem dX1_hasWordsOf_28 : decode cX1_hasWordsOf 28 = .ok (.istore 5, 2) := by decide +kernel
theorem dX1_hasWordsOf_30 : decode cX1_hasWordsOf 30 = .ok (.iload 5, 2) := by decide +kernel
theorem dX1_hasWordsOf_32 : decode cX1_hasWordsOf 32 = .ok (.iload 4, 2) := by decide +kernel
theorem dX1_hasWordsOf_34 : decode cX1_hasWordsOf 34 = .ok (.if_icmp .ge 29, 3) := by decide +kernel
theorem dX1_hasWordsOf_37 : decode cX1_hasWordsOf 37 = .ok (.aload_n 0, 1) := by decide +kernel
theorem dX1_hasWordsOf_38 : decode cX1_hasWordsOf 38 = .ok (.iload_n 3, 1) := by decide +kernel
theorem dX1_hasWordsOf_39 : decode cX1_hasWordsOf 39 = .ok (.iload 5, 2) := by decide +kernel
theorem dX1_hasWordsOf_41 : decode cX1_hasWordsOf 41 = .ok (.iadd, 1) := by decide +kernel
theorem dX1_hasWordsOf_42 : decode cX1_hasWordsOf 42 = .ok (.invokevirtual 23, 3) := by decide +kernel
theorem dX1_hasWordsOf_45 : decode cX1_hasWordsOf 45 = .ok (.aload_n 1, 1) := by decide +kernel
theorem dX1_hasWordsOf_46 : decode cX1_hasWordsOf 46 = .ok (.iload_n 2, 1) := by decide +kernel
theorem dX1_hasWordsOf_47 : decode cX1_hasWordsOf 47 = .ok (.iload 5, 2) := by decide +kernel
theorem dX1_hasWordsOf_49 : decode cX1_hasWordsOf 49 = .ok (.invokevirtual 35, 3) := by decide +kernel
theorem dX1_hasWordsOf_52 : decode cX1_hasWordsOf 52 = .ok (.if_icmp .eq 5, 3) := by decide +kernel
theorem dX1_hasWordsOf_55 : decode cX1_hasWordsOf 55 = .ok (.iconst 0, 1) := by decide +kernel
theorem dX1_hasWordsOf_56 : decode cX1_hasWordsOf 56 = .ok (.ireturn, 1) := by decide +kernel
theorem dX1_hasWordsOf_57 : decode cX1_hasWordsOf 57 = .ok (.iinc 5 1, 3) := by decide +kernel
theorem dX1_hasWordsOf_60 : decode cX1_hasWordsOf 60 = .ok (.goto (-30), 3) := by decide +kernel
theorem dX1_hasWordsOf_63 : decode cX1_hasWordsOf 63 = .ok (.iconst 1, 1) := by decide +kernel
theorem dX1_hasWordsOf_64 : decode cX1_hasWordsOf 64 = .ok (.ireturn, 1) := by decide +kernel
set_option maxRecDepth 20000 in
theorem ggX1_append_X1_isFull : GoodIn wsX1_append wsX1_isFull := goodIn_r _ [7, 2, 8, 9] (by decide +kernel) (by decide +kernel)
set_option maxRecDepth 20000 in
theorem gX1_append_X1_isFull : GoodIn wsX1_append (wsV RX1 39 RX1 yX1_isFull wsX1_isFull) := goodIn_app (goodIn_of _ (by decide +kernel)) ggX1_append_X1_isFull
theorem dX1_append_0 : decode cX1_append 0 = .ok (.aload_n 0, 1) := by decide +kernel
theorem dX1_append_1 : decode cX1_append 1 = .ok (.invokevirtual 39, 3) := by decide +kernel
theorem dX1_append_4 : decode cX1_append 4 = .ok (.ifCond .eq 4, 3) := by decide +kernel
theorem dX1_append_7 : decode cX1_append 7 = .ok (.return_, 1) := by decide +kernel
theorem dX1_append_8 : decode cX1_append 8 = .ok (.aload_n 0, 1) := by decide +kernel
theorem dX1_append_9 : decode cX1_append 9 = .ok (.getfield 9, 3) := by decide +kernel
theorem dX1_append_12 : decode cX1_append 12 = .ok (.aload_n 0, 1) := by decide +kernel
theorem dX1_append_13 : decode cX1_append 13 = .ok (.getfield 15, 3) := by decide +kernel
theorem dX1_append_16 : decode cX1_append 16 = .ok (.iload_n 1, 1) := by decide +kernel
theorem dX1_append_17 : decode cX1_append 17 = .ok (.iastore, 1) := by decide +kernel
theorem dX1_append_18 : decode cX1_append 18 = .ok (.aload_n 0, 1) := by decide +kernel
theorem dX1_append_19 : decode cX1_append 19 = .ok (.dup, 1) := by decide +kernel
theorem dX1_append_20 : decode cX1_append 20 = .ok (.getfield 15, 3) := by decide +kernel
theorem dX1_append_23 : decode cX1_append 23 = .ok (.iconst 1, 1) := by decide +kernel
theorem dX1_append_24 : decode cX1_append 24 = .ok (.iadd, 1) := by decide +kernel
theorem dX1_append_25 : decode cX1_append 25 = .ok (.putfield 15, 3) := by decide +kernel
theorem dX1_append_28 : decode cX1_append 28 = .ok (.return_, 1) := by decide +kernel
theorem dX1_removeLast_0 : decode cX1_removeLast 0 = .ok (.aload_n 0, 1) := by decide +kernel
theorem dX1_removeLast_1 : decode cX1_removeLast 1 = .ok (.iconst 0, 1) := by decide +kernel
theorem dX1_removeLast_2 : decode cX1_removeLast 2 = .ok (.aload_n 0, 1) := by decide +kernel
theorem dX1_removeLast_3 : decode cX1_removeLast 3 = .ok (.getfield 15, 3) := by decide +kernel
theorem dX1_removeLast_6 : decode cX1_removeLast 6 = .ok (.iconst 1, 1) := by decide +kernel
theorem dX1_removeLast_7 : decode cX1_removeLast 7 = .ok (.isub, 1) := by decide +kernel
theorem dX1_removeLast_8 : decode cX1_removeLast 8 = .ok (.invokestatic 43, 3) := by decide +kernel
theorem dX1_removeLast_11 : decode cX1_removeLast 11 = .ok (.putfield 15, 3) := by decide +kernel
theorem dX1_removeLast_14 : decode cX1_removeLast 14 = .ok (.return_, 1) := by decide +kernel
theorem dX1_removeAll_0 : decode cX1_removeAll 0 = .ok (.aload_n 0, 1) := by decide +kernel
theorem dX1_removeAll_1 : decode cX1_removeAll 1 = .ok (.iconst 0, 1) := by decide +kernel
theorem dX1_removeAll_2 : decode cX1_removeAll 2 = .ok (.putfield 15, 3) := by decide +kernel
theorem dX1_removeAll_5 : decode cX1_removeAll 5 = .ok (.return_, 1) := by decide +kernel
theorem dX2_init_0 : decode cX2_init 0 = .ok (.aload_n 0, 1) := by decide +kernel
theorem dX2_init_1 : decode cX2_init 1 = .ok (.invokespecial 3, 3) := by decide +kernel
theorem dX2_init_4 : decode cX2_init 4 = .ok (.aload_n 0, 1) := by decide +kernel
theorem dX2_init_5 : decode cX2_init 5 = .ok (.bipush 25, 2) := by decide +kernel
theorem dX2_init_7 : decode cX2_init 7 = .ok (.newarray .int, 2) := by decide +kernel
theorem dX2_init_9 : decode cX2_init 9 = .ok (.putfield 9, 3) := by decide +kernel
theorem dX2_init_12 : decode cX2_init 12 = .ok (.aload_n 0, 1) := by decide +kernel
theorem dX2_init_13 : decode cX2_init 13 = .ok (.bipush 24, 2) := by decide +kernel
theorem dX2_init_15 : decode cX2_init 15 = .ok (.newarray .int, 2) := by decide +kernel
theorem dX2_init_17 : decode cX2_init 17 = .ok (.putfield 15, 3) := by decide +kernel
theorem dX2_init_20 : decode cX2_init 20 = .ok (.aload_n 0, 1) := by decide +kernel
theorem dX2_init_21 : decode cX2_init 21 = .ok (.bipush 24, 2) := by decide +kernel
theorem dX2_init_23 : decode cX2_init 23 = .ok (.newarray .int, 2) := by decide +kernel
theorem dX2_init_25 : decode cX2_init 25 = .ok (.putfield 18, 3) := by decide +kernel
theorem dX2_init_28 : decode cX2_init 28 = .ok (.aload_n 0, 1) := by decide +kernel
theorem dX2_init_29 : decode cX2_init 29 = .ok (.bipush 24, 2) := by decide +kernel
theorem dX2_init_31 : decode cX2_init 31 = .ok (.newarray .int, 2) := by decide +kernel
theorem dX2_init_33 : decode cX2_init 33 = .ok (.putfield 21, 3) := by decide +kernel
theorem dX2_init_36 : decode cX2_init 36 = .ok (.return_, 1) := by decide +kernel
theorem dX2_size_0 : decode cX2_size 0 = .ok (.aload_n 0, 1) := by decide +kernel
theorem dX2_size_1 : decode cX2_size 1 = .ok (.getfield 24, 3) := by decide +kernel
theorem dX2_size_4 : decode cX2_size 4 = .ok (.ireturn, 1) := by decide +kernel
theorem dX2_has_0 : decode cX2_has 0 = .ok (.iload_n 1, 1) := by decide +kernel
theorem dX2_has_1 : decode cX2_has 1 = .ok (.ifCond .lt 15, 3) := by decide +kernel
theorem dX2_has_4 : decode cX2_has 4 = .ok (.iload_n 1, 1) := by decide +kernel
theorem dX2_has_5 : decode cX2_has 5 = .ok (.aload_n 0, 1) := by decide +kernel
theorem dX2_has_6 : decode cX2_has 6 = .ok (.getfield 24, 3) := by decide +kernel
theorem dX2_has_9 : decode cX2_has 9 = .ok (.if_icmp .ge 7, 3) := by decide +kernel
theorem dX2_has_12 : decode cX2_has 12 = .ok (.iconst 1, 1) := by decide +kernel
theorem dX2_has_13 : decode cX2_has 13 = .ok (.goto 4, 3) := by decide +kernel
theorem dX2_has_16 : decode cX2_has 16 = .ok (.iconst 0, 1) := by decide +kernel
theorem dX2_has_17 : decode cX2_has 17 = .ok (.ireturn, 1) := by decide +kernel
set_option maxRecDepth 20000 in
theorem ggX2_startAt_X2_has : GoodIn wsX2_startAt wsX2_has := goodIn_r _ [6, 7, 8, 9, 10, 11, 12] (by decide +kernel) (by decide +kernel)
set_option maxRecDepth 20000 in
theorem gX2_startAt_X2_has : GoodIn wsX2_startAt (wsV RX2 28 RX2 yX2_has wsX2_has) := goodIn_app (goodIn_of _ (by decide +kernel)) ggX2_startAt_X2_has
theorem dX2_startAt_0 : decode cX2_startAt 0 = .ok (.aload_n 0, 1) := by decide +kernel
theorem dX2_startAt_1 : decode cX2_startAt 1 = .ok (.iload_n 1, 1) := by decide +kernel
theorem dX2_startAt_2 : decode cX2_startAt 2 = .ok (.invokevirtual 28, 3) := by decide +kernel
theorem dX2_startAt_5 : decode cX2_startAt 5 = .ok (.ifCond .eq 12, 3) := by decide +kernel
theorem dX2_startAt_8 : decode cX2_startAt 8 = .ok (.aload_n 0, 1) := by decide +kernel
theorem dX2_startAt_9 : decode cX2_startAt 9 = .ok (.getfield 21, 3) := by decide +kernel
theorem dX2_startAt_12 : decode cX2_startAt 12 = .ok (.iload_n 1, 1) := by decide +kernel
theorem dX2_startAt_13 : decode cX2_startAt 13 = .ok (.iaload, 1) := by decide +kernel
theorem dX2_startAt_14 : decode cX2_startAt 14 = .ok (.goto 4, 3) := by decide +kernel
theorem dX2_startAt_17 : decode cX2_startAt 17 = .ok (.iconst (-1), 1) := by decide +kernel
theorem dX2_startAt_18 : decode cX2_startAt 18 = .ok (.ireturn, 1) := by decide +kernel
set_option maxRecDepth 20000 in
theorem ggX2_codeAt_X2_startAt : GoodIn wsX2_codeAt wsX2_startAt := goodIn_r _ [6, 7, 8, 9, 10, 5, 11, 12, 13, 14, 15, 16, 17] (by decide +kernel) (by decide +kernel)
set_option maxRecDepth 20000 in
theorem gX2_codeAt_X2_startAt : GoodIn wsX2_codeAt (wsV RX2 32 RX2 yX2_startAt wsX2_startAt) := goodIn_app (goodIn_of _ (by decide +kernel)) ggX2_codeAt_X2_startAt
theorem dX2_codeAt_0 : decode cX2_codeAt 0 = .ok (.aload_n 0, 1) := by decide +kernel
theorem dX2_codeAt_1 : decode cX2_codeAt 1 = .ok (.iload_n 1, 1) := by decide +kernel
theorem dX2_codeAt_2 : decode cX2_codeAt 2 = .ok (.invokevirtual 32, 3) := by decide +kernel
theorem dX2_codeAt_5 : decode cX2_codeAt 5 = .ok (.istore_n 2, 1) := by decide +kernel
theorem dX2_codeAt_6 : decode cX2_codeAt 6 = .ok (.iload_n 2, 1) := by decide +kernel
theorem dX2_codeAt_7 : decode cX2_codeAt 7 = .ok (.ifCond .lt 18, 3) := by decide +kernel
theorem dX2_codeAt_10 : decode cX2_codeAt 10 = .ok (.iload_n 2, 1) := by decide +kernel
theorem dX2_codeAt_11 : decode cX2_codeAt 11 = .ok (.bipush 24, 2) := by decide +kernel
theorem dX2_codeAt_13 : decode cX2_codeAt 13 = .ok (.if_icmp .ge 12, 3) := by decide +kernel
theorem dX2_codeAt_16 : decode cX2_codeAt 16 = .ok (.aload_n 0, 1) := by decide +kernel
theorem dX2_codeAt_17 : decode cX2_codeAt 17 = .ok (.getfield 18, 3) := by decide +kernel
theorem dX2_codeAt_20 : decode cX2_codeAt 20 = .ok (.iload_n 2, 1) := by decide +kernel
theorem dX2_codeAt_21 : decode cX2_codeAt 21 = .ok (.iaload, 1) := by decide +kernel
theorem dX2_codeAt_22 : decode cX2_codeAt 22 = .ok (.goto 4, 3) := by decide +kernel
theorem dX2_codeAt_25 : decode cX2_codeAt 25 = .ok (.iconst (-1), 1) := by decide +kernel
theorem dX2_codeAt_26 : decode cX2_codeAt 26 = .ok (.ireturn, 1) := by decide +kernel
set_option maxRecDepth 20000 in
theorem ggX2_groupsWith_X2_codeAt : GoodIn wsX2_groupsWith wsX2_codeAt := goodIn_r _ [6, 7, 8, 9, 10, 5, 11, 12, 13, 14, 15, 16, 1, 17, 18, 19, 20, 21] (by decide +kernel) (by decide +kernel)
set_option maxRecDepth 20000 in
theorem gX2_groupsWith_X2_codeAt : GoodIn wsX2_groupsWith (wsV RX2 36 RX2 yX2_codeAt wsX2_codeAt) := goodIn_app (goodIn_of _ (by decide +kernel)) ggX2_groupsWith_X2_codeAt
theorem dX2_groupsWith_0 : decode cX2_groupsWith 0 = .ok (.iconst 0, 1) := by decide +kernel
theorem dX2_groupsWith_1 : decode cX2_groupsWith 1 = .ok (.istore_n 2, 1) := by decide +kernel
theorem dX2_groupsWith_2 : decode cX2_groupsWith 2 = .ok (.iconst 0, 1) := by decide +kernel
theorem dX2_groupsWith_3 : decode cX2_groupsWith 3 = .ok (.istore_n 3, 1) := by decide +kernel
theorem dX2_groupsWith_4 : decode cX2_groupsWith 4 = .ok (.iload_n 3, 1) := by decide +kernel
theorem dX2_groupsWith_5 : decode cX2_groupsWith 5 = .ok (.aload_n 0, 1) := by decide +kernel
theorem dX2_groupsWith_6 : decode cX2_groupsWith 6 = .ok (.getfield 24, 3) := by decide +kernel
theorem dX2_groupsWith_9 : decode cX2_groupsWith 9 = .ok (.if_icmp .ge 21, 3) := by decide +kernel
theorem dX2_groupsWith_12 : decode cX2_groupsWith 12 = .ok (.aload_n 0, 1) := by decide +kernel
theorem dX2_groupsWith_13 : decode cX2_groupsWith 13 = .ok (.iload_n 3, 1) := by decide +kernel
theorem dX2_groupsWith_14 : decode cX2_groupsWith 14 = .ok (.invokevirtual 36, 3) := by decide +kernel
theorem dX2_groupsWith_17 : decode cX2_groupsWith 17 = .ok (.iload_n 1, 1) := by decide +kernel
theorem dX2_groupsWith_18 : decode cX2_groupsWith 18 = .ok (.if_icmp .ne 6, 3) := by decide +kernel
theorem dX2_groupsWith_21 : decode cX2_groupsWith 21 = .ok (.iinc 2 1, 3) := by decide +kernel
theorem dX2_groupsWith_24 : decode cX2_groupsWith 24 = .ok (.iinc 3 1, 3) := by decide +kernel
theorem dX2_groupsWith_27 : decode cX2_groupsWith 27 = .ok (.goto (-23), 3) := by decide +kernel
theorem dX2_groupsWith_30 : decode cX2_groupsWith 30 = .ok (.iload_n 2, 1) := by decide +kernel
theorem dX2_groupsWith_31 : decode cX2_groupsWith 31 = .ok (.ireturn, 1) := by decide +kernel
set_option maxRecDepth 20000 in
theorem ggX2_partAsIs_X2_part : GoodIn wsX2_partAsIs wsX2_part := goodIn_r _ [5, 6, 7, 8, 9, 10, 11, 12, 13, 14, 15, 16, 17, 18, 19, 4, 20, 21, 22, 23, 24, 25, 26, 27, 28, 29, 30, 31, 32, 33, 34, 35, 36, 37, 38, 39, 40, 41, 42, 43, 44, 45, 46, 47, 48, 49, 50, 51, 52, 53, 54, 55, 56, 57, 58, 59, 60, 61, 62, 63, 64, 65, 66, 67, 68, 69, 70, 71, 72, 73, 74, 75, 76, 77, 78, 79, 80] (by decide +kernel) (by decide +kernel)
set_option maxRecDepth 20000 in
theorem gX2_partAsIs_X2_part : GoodIn wsX2_partAsIs (wsV RX2 39 RX2 yX2_part wsX2_part) := goodIn_app (goodIn_of _ (by decide +kernel)) ggX2_partAsIs_X2_part
theorem dX2_partAsIs_0 : decode cX2_partAsIs 0 = .ok (.aload_n 0, 1) := by decide +kernel
theorem dX2_partAsIs_1 : decode cX2_partAsIs 1 = .ok (.aload_n 1, 1) := by decide +kernel
theorem dX2_partAsIs_2 : decode cX2_partAsIs 2 = .ok (.aload_n 2, 1) := by decide +kernel
theorem dX2_partAsIs_3 : decode cX2_partAsIs 3 = .ok (.iconst (-1), 1) := by decide +kernel
theorem dX2_partAsIs_4 : decode cX2_partAsIs 4 = .ok (.iconst 0, 1) := by decide +kernel
theorem dX2_partAsIs_5 : decode cX2_partAsIs 5 = .ok (.iconst 0, 1) := by decide +kernel
theorem dX2_partAsIs_6 : decode cX2_partAsIs 6 = .ok (.invokevirtual 39, 3) := by decide +kernel
theorem dX2_partAsIs_9 : decode cX2_partAsIs 9 = .ok (.return_, 1) := by decide +kernel
set_option maxRecDepth 20000 in
theorem ggX2_part_X1_size : GoodIn wsX2_part wsX1_size := goodIn_r _ [10, 11, 72, 73] (by decide +kernel) (by decide +kernel)
set_option maxRecDepth 20000 in
theorem gX2_part_X1_size : GoodIn wsX2_part (wsV RX2 43 RX1 yX1_size wsX1_size) := goodIn_app (goodIn_of _ (by decide +kernel)) ggX2_part_X1_size
set_option maxRecDepth 20000 in
theorem ggX2_part_X2_takeWord : GoodIn wsX2_part wsX2_takeWord := goodIn_r _ [16, 5, 17, 18, 67, 68, 69, 70, 71] (by decide +kernel) (by decide +kernel)
set_option maxRecDepth 20000 in
theorem gX2_part_X2_takeWord : GoodIn wsX2_part (wsV RX2 55 RX2 yX2_takeWord wsX2_takeWord) := goodIn_app (goodIn_of _ (by decide +kernel)) ggX2_part_X2_takeWord
set_option maxRecDepth 20000 in
theorem ggX2_part_X0_size : GoodIn wsX2_part wsX0_size := goodIn_r _ [23, 24, 74, 75, 76] (by decide +kernel) (by decide +kernel)
set_option maxRecDepth 20000 in
theorem gX2_part_X0_size : GoodIn wsX2_part (wsV RX2 59 RX0 yX0_size wsX0_size) := goodIn_app (goodIn_of _ (by decide +kernel)) ggX2_part_X0_size
set_option maxRecDepth 20000 in
theorem ggX2_part_X1_hasWordsOf : GoodIn wsX2_part wsX1_hasWordsOf := goodIn_r _ [28, 29, 30, 31, 22, 32, 33, 34, 35, 36, 37, 24, 38, 39, 40, 9, 41, 11, 42, 43, 44, 45, 46, 47, 48, 49, 50, 51, 74, 75, 76, 72, 73] (by decide +kernel) (by decide +kernel)
set_option maxRecDepth 20000 in
theorem gX2_part_X1_hasWordsOf : GoodIn wsX2_part (wsV RX2 62 RX1 yX1_hasWordsOf wsX1_hasWordsOf) := goodIn_app (goodIn_of _ (by decide +kernel)) ggX2_part_X1_hasWordsOf
set_option maxRecDepth 20000 in
theorem ggX2_part_X0_wordsIn : GoodIn wsX2_part wsX0_wordsIn := goodIn_r _ [32, 33, 34, 35, 36, 22, 37, 24, 74, 75, 76] (by decide +kernel) (by decide +kernel)
set_option maxRecDepth 20000 in
theorem gX2_part_X0_wordsIn : GoodIn wsX2_part (wsV RX2 66 RX0 yX0_wordsIn wsX0_wordsIn) := goodIn_app (goodIn_of _ (by decide +kernel)) ggX2_part_X0_wordsIn
set_option maxRecDepth 20000 in
theorem ggX2_part_X2_takeIfBetter : GoodIn wsX2_part wsX2_takeIfBetter := goodIn_r _ [56, 5, 17, 18, 67, 68, 69, 70, 71] (by decide +kernel) (by decide +kernel)
set_option maxRecDepth 20000 in
theorem gX2_part_X2_takeIfBetter : GoodIn wsX2_part (wsV RX2 69 RX2 yX2_takeIfBetter wsX2_takeIfBetter) := goodIn_app (goodIn_of _ (by decide +kernel)) ggX2_part_X2_takeIfBetter
set_option maxRecDepth 20000 in
theorem ggX2_part_X1_hasSameWords : GoodIn wsX2_part wsX1_hasSameWords := goodIn_r _ [60, 38, 39, 40, 9, 41, 11, 42, 43, 44, 45, 46, 72, 73] (by decide +kernel) (by decide +kernel)
set_option maxRecDepth 20000 in
theorem gX2_part_X1_hasSameWords : GoodIn wsX2_part (wsV RX2 73 RX1 yX1_hasSameWords wsX1_hasSameWords) := goodIn_app (goodIn_of _ (by decide +kernel)) ggX2_part_X1_hasSameWords
set_option maxRecDepth 20000 in
theorem ggX2_part_X2_listStarts : GoodIn wsX2_part wsX2_listStarts := goodIn_r _ [64, 65, 66, 17, 67, 68, 69, 70, 71] (by decide +kernel) (by decide +kernel)
set_option maxRecDepth 20000 in
theorem gX2_part_X2_listStarts : GoodIn wsX2_part (wsV RX2 77 RX2 yX2_listStarts wsX2_listStarts) := goodIn_app (goodIn_of _ (by decide +kernel)) ggX2_part_X2_listStarts
theorem dX2_part_0 : decode cX2_part 0 = .ok (.aload_n 1, 1) := by decide +kernel
theorem dX2_part_1 : decode cX2_part 1 = .ok (.invokevirtual 43, 3) := by decide +kernel
theorem dX2_part_4 : decode cX2_part 4 = .ok (.bipush 24, 2) := by decide +kernel
theorem dX2_part_6 : decode cX2_part 6 = .ok (.invokestatic 49, 3) := by decide +kernel
theorem dX2_part_9 : decode cX2_part 9 = .ok (.istore 6, 2) := by decide +kernel
theorem dX2_part_11 : decode cX2_part 11 = .ok (.aload_n 0, 1) := by decide +kernel
theorem dX2_part_12 : decode cX2_part 12 = .ok (.getfield 9, 3) := by decide +kernel
theorem dX2_part_15 : decode cX2_part 15 = .ok (.iload 6, 2) := by decide +kernel
theorem dX2_part_17 : decode cX2_part 17 = .ok (.iconst 0, 1) := by decide +kernel
theorem dX2_part_18 : decode cX2_part 18 = .ok (.iastore, 1) := by decide +kernel
theorem dX2_part_19 : decode cX2_part 19 = .ok (.iload 6, 2) := by decide +kernel
theorem dX2_part_21 : decode cX2_part 21 = .ok (.iconst 1, 1) := by decide +kernel
theorem dX2_part_22 : decode cX2_part 22 = .ok (.isub, 1) := by decide +kernel
theorem dX2_part_23 : decode cX2_part 23 = .ok (.istore 7, 2) := by decide +kernel
theorem dX2_part_25 : decode cX2_part 25 = .ok (.iload 7, 2) := by decide +kernel
theorem dX2_part_27 : decode cX2_part 27 = .ok (.ifCond .lt 93, 3) := by decide +kernel
theorem dX2_part_30 : decode cX2_part 30 = .ok (.aload_n 0, 1) := by decide +kernel
theorem dX2_part_31 : decode cX2_part 31 = .ok (.iload 7, 2) := by decide +kernel
theorem dX2_part_33 : decode cX2_part 33 = .ok (.invokevirtual 55, 3) := by decide +kernel
theorem dX2_part_36 : decode cX2_part 36 = .ok (.iconst 0, 1) := by decide +kernel
theorem dX2_part_37 : decode cX2_part 37 = .ok (.istore 8, 2) := by decide +kernel
theorem dX2_part_39 : decode cX2_part 39 = .ok (.iload 8, 2) := by decide +kernel
theorem dX2_part_41 : decode cX2_part 41 = .ok (.aload_n 2, 1) := by decide +kernel
theorem dX2_part_42 : decode cX2_part 42 = .ok (.invokevirtual 59, 3) := by decide +kernel
theorem dX2_part_45 : decode cX2_part 45 = .ok (.if_icmp .ge 41, 3) := by decide +kernel
theorem dX2_part_48 : decode cX2_part 48 = .ok (.iload 8, 2) := by decide +kernel
theorem dX2_part_50 : decode cX2_part 50 = .ok (.iload_n 3, 1) := by decide +kernel
theorem dX2_part_51 : decode cX2_part 51 = .ok (.if_icmp .eq 29, 3) := by decide +kernel
theorem dX2_part_54 : decode cX2_part 54 = .ok (.aload_n 1, 1) := by decide +kernel
theorem dX2_part_55 : decode cX2_part 55 = .ok (.aload_n 2, 1) := by decide +kernel
theorem dX2_part_56 : decode cX2_part 56 = .ok (.iload 8, 2) := by decide +kernel
theorem dX2_part_58 : decode cX2_part 58 = .ok (.iload 7, 2) := by decide +kernel
theorem dX2_part_60 : decode cX2_part 60 = .ok (.invokevirtual 62, 3) := by decide +kernel
theorem dX2_part_63 : decode cX2_part 63 = .ok (.ifCond .eq 17, 3) := by decide +kernel
theorem dX2_part_66 : decode cX2_part 66 = .ok (.aload_n 0, 1) := by decide +kernel
theorem dX2_part_67 : decode cX2_part 67 = .ok (.iload 7, 2) := by decide +kernel
theorem dX2_part_69 : decode cX2_part 69 = .ok (.aload_n 2, 1) := by decide +kernel
theorem dX2_part_70 : decode cX2_part 70 = .ok (.iload 8, 2) := by decide +kernel
theorem dX2_part_72 : decode cX2_part 72 = .ok (.invokevirtual 66, 3) := by decide +kernel
theorem dX2_part_75 : decode cX2_part 75 = .ok (.iload 8, 2) := by decide +kernel
theorem dX2_part_77 : decode cX2_part 77 = .ok (.invokevirtual 69, 3) := by decide +kernel
theorem dX2_part_80 : decode cX2_part 80 = .ok (.iinc 8 1, 3) := by decide +kernel
theorem dX2_part_83 : decode cX2_part 83 = .ok (.goto (-44), 3) := by decide +kernel
theorem dX2_part_86 : decode cX2_part 86 = .ok (.iload 5, 2) := by decide +kernel
theorem dX2_part_88 : decode cX2_part 88 = .ok (.ifCond .le 26, 3) := by decide +kernel
theorem dX2_part_91 : decode cX2_part 91 = .ok (.aload_n 1, 1) := by decide +kernel
theorem dX2_part_92 : decode cX2_part 92 = .ok (.iload 4, 2) := by decide +kernel
theorem dX2_part_94 : decode cX2_part 94 = .ok (.iload 7, 2) := by decide +kernel
theorem dX2_part_96 : decode cX2_part 96 = .ok (.iload 5, 2) := by decide +kernel
theorem dX2_part_98 : decode cX2_part 98 = .ok (.invokevirtual 73, 3) := by decide +kernel
theorem dX2_part_101 : decode cX2_part 101 = .ok (.ifCond .eq 13, 3) := by decide +kernel
theorem dX2_part_104 : decode cX2_part 104 = .ok (.aload_n 0, 1) := by decide +kernel
theorem dX2_part_105 : decode cX2_part 105 = .ok (.iload 7, 2) := by decide +kernel
theorem dX2_part_107 : decode cX2_part 107 = .ok (.iload 5, 2) := by decide +kernel
theorem dX2_part_109 : decode cX2_part 109 = .ok (.bipush 8, 2) := by decide +kernel
theorem dX2_part_111 : decode cX2_part 111 = .ok (.invokevirtual 69, 3) := by decide +kernel
theorem dX2_part_114 : decode cX2_part 114 = .ok (.iinc 7 (-1), 3) := by decide +kernel
theorem dX2_part_117 : decode cX2_part 117 = .ok (.goto (-92), 3) := by decide +kernel
theorem dX2_part_120 : decode cX2_part 120 = .ok (.aload_n 0, 1) := by decide +kernel
theorem dX2_part_121 : decode cX2_part 121 = .ok (.iload 6, 2) := by decide +kernel
theorem dX2_part_123 : decode cX2_part 123 = .ok (.invokevirtual 77, 3) := by decide +kernel
theorem dX2_part_126 : decode cX2_part 126 = .ok (.return_, 1) := by decide +kernel
theorem dX2_takeWord_0 : decode cX2_takeWord 0 = .ok (.aload_n 0, 1) := by decide +kernel
theorem dX2_takeWord_1 : decode cX2_takeWord 1 = .ok (.getfield 9, 3) := by decide +kernel
theorem dX2_takeWord_4 : decode cX2_takeWord 4 = .ok (.iload_n 1, 1) := by decide +kernel
theorem dX2_takeWord_5 : decode cX2_takeWord 5 = .ok (.aload_n 0, 1) := by decide +kernel
theorem dX2_takeWord_6 : decode cX2_takeWord 6 = .ok (.getfield 9, 3) := by decide +kernel
theorem dX2_takeWord_9 : decode cX2_takeWord 9 = .ok (.iload_n 1, 1) := by decide +kernel
theorem dX2_takeWord_10 : decode cX2_takeWord 10 = .ok (.iconst 1, 1) := by decide +kernel
theorem dX2_takeWord_11 : decode cX2_takeWord 11 = .ok (.iadd, 1) := by decide +kernel
theorem dX2_takeWord_12 : decode cX2_takeWord 12 = .ok (.iaload, 1) := by decide +kernel
theorem dX2_takeWord_13 : decode cX2_takeWord 13 = .ok (.iconst 1, 1) := by decide +kernel
theorem dX2_takeWord_14 : decode cX2_takeWord 14 = .ok (.iadd, 1) := by decide +kernel
theorem dX2_takeWord_15 : decode cX2_takeWord 15 = .ok (.iastore, 1) := by decide +kernel
theorem dX2_takeWord_16 : decode cX2_takeWord 16 = .ok (.aload_n 0, 1) := by decide +kernel
theorem dX2_takeWord_17 : decode cX2_takeWord 17 = .ok (.getfield 15, 3) := by decide +kernel
theorem dX2_takeWord_20 : decode cX2_takeWord 20 = .ok (.iload_n 1, 1) := by decide +kernel
theorem dX2_takeWord_21 : decode cX2_takeWord 21 = .ok (.iconst 1, 1) := by decide +kernel
theorem dX2_takeWord_22 : decode cX2_takeWord 22 = .ok (.iastore, 1) := by decide +kernel
theorem dX2_takeWord_23 : decode cX2_takeWord 23 = .ok (.aload_n 0, 1) := by decide +kernel
theorem dX2_takeWord_24 : decode cX2_takeWord 24 = .ok (.getfield 18, 3) := by decide +kernel
theorem dX2_takeWord_27 : decode cX2_takeWord 27 = .ok (.iload_n 1, 1) := by decide +kernel
theorem dX2_takeWord_28 : decode cX2_takeWord 28 = .ok (.iconst (-1), 1) := by decide +kernel
theorem dX2_takeWord_29 : decode cX2_takeWord 29 = .ok (.iastore, 1) := by decide +kernel
theorem dX2_takeWord_30 : decode cX2_takeWord 30 = .ok (.return_, 1) := by decide +kernel
theorem dX2_takeIfBetter_0 : decode cX2_takeIfBetter 0 = .ok (.iload_n 1, 1) := by decide +kernel
theorem dX2_takeIfBetter_1 : decode cX2_takeIfBetter 1 = .ok (.iload_n 2, 1) := by decide +kernel
theorem dX2_takeIfBetter_2 : decode cX2_takeIfBetter 2 = .ok (.iadd, 1) := by decide +kernel
theorem dX2_takeIfBetter_3 : decode cX2_takeIfBetter 3 = .ok (.bipush 24, 2) := by decide +kernel
theorem dX2_takeIfBetter_5 : decode cX2_takeIfBetter 5 = .ok (.if_icmp .le 4, 3) := by decide +kernel
theorem dX2_takeIfBetter_8 : decode cX2_takeIfBetter 8 = .ok (.return_, 1) := by decide +kernel
theorem dX2_takeIfBetter_9 : decode cX2_takeIfBetter 9 = .ok (.aload_n 0, 1) := by decide +kernel
theorem dX2_takeIfBetter_10 : decode cX2_takeIfBetter 10 = .ok (.getfield 9, 3) := by decide +kernel
theorem dX2_takeIfBetter_13 : decode cX2_takeIfBetter 13 = .ok (.iload_n 1, 1) := by decide +kernel
theorem dX2_takeIfBetter_14 : decode cX2_takeIfBetter 14 = .ok (.iload_n 2, 1) := by decide +kernel
theorem dX2_takeIfBetter_15 : decode cX2_takeIfBetter 15 = .ok (.iadd, 1) := by decide +kernel
theorem dX2_takeIfBetter_16 : decode cX2_takeIfBetter 16 = .ok (.iaload, 1) := by decide +kernel
theorem dX2_takeIfBetter_17 : decode cX2_takeIfBetter 17 = .ok (.iconst 1, 1) := by decide +kernel
theorem dX2_takeIfBetter_18 : decode cX2_takeIfBetter 18 = .ok (.iadd, 1) := by decide +kernel
theorem dX2_takeIfBetter_19 : decode cX2_takeIfBetter 19 = .ok (.istore 4, 2) := by decide +kernel
theorem dX2_takeIfBetter_21 : decode cX2_takeIfBetter 21 = .ok (.iload 4, 2) := by decide +kernel
theorem dX2_takeIfBetter_23 : decode cX2_takeIfBetter 23 = .ok (.aload_n 0, 1) := by decide +kernel
theorem dX2_takeIfBetter_24 : decode cX2_takeIfBetter 24 = .ok (.getfield 9, 3) := by decide +kernel
theorem dX2_takeIfBetter_27 : decode cX2_takeIfBetter 27 = .ok (.iload_n 1, 1) := by decide +kernel
theorem dX2_takeIfBetter_28 : decode cX2_takeIfBetter 28 = .ok (.iaload, 1) := by decide +kernel
theorem dX2_takeIfBetter_29 : decode cX2_takeIfBetter 29 = .ok (.if_icmp .lt 24, 3) := by decide +kernel
theorem dX2_takeIfBetter_32 : decode cX2_takeIfBetter 32 = .ok (.iload 4, 2) := by decide +kernel
theorem dX2_takeIfBetter_34 : decode cX2_takeIfBetter 34 = .ok (.aload_n 0, 1) := by decide +kernel
theorem dX2_takeIfBetter_35 : decode cX2_takeIfBetter 35 = .ok (.getfield 9, 3) := by decide +kernel
theorem dX2_takeIfBetter_38 : decode cX2_takeIfBetter 38 = .ok (.iload_n 1, 1) := by decide +kernel
theorem dX2_takeIfBetter_39 : decode cX2_takeIfBetter 39 = .ok (.iaload, 1) := by decide +kernel
theorem dX2_takeIfBetter_40 : decode cX2_takeIfBetter 40 = .ok (.if_icmp .ne 35, 3) := by decide +kernel
theorem dX2_takeIfBetter_43 : decode cX2_takeIfBetter 43 = .ok (.iload_n 2, 1) := by decide +kernel
theorem dX2_takeIfBetter_44 : decode cX2_takeIfBetter 44 = .ok (.aload_n 0, 1) := by decide +kernel
theorem dX2_takeIfBetter_45 : decode cX2_takeIfBetter 45 = .ok (.getfield 15, 3) := by decide +kernel
theorem dX2_takeIfBetter_48 : decode cX2_takeIfBetter 48 = .ok (.iload_n 1, 1) := by decide +kernel
theorem dX2_takeIfBetter_49 : decode cX2_takeIfBetter 49 = .ok (.iaload, 1) := by decide +kernel
theorem dX2_takeIfBetter_50 : decode cX2_takeIfBetter 50 = .ok (.if_icmp .le 25, 3) := by decide +kernel
theorem dX2_takeIfBetter_53 : decode cX2_takeIfBetter 53 = .ok (.aload_n 0, 1) := by decide +kernel
theorem dX2_takeIfBetter_54 : decode cX2_takeIfBetter 54 = .ok (.getfield 9, 3) := by decide +kernel
theorem dX2_takeIfBetter_57 : decode cX2_takeIfBetter 57 = .ok (.iload_n 1, 1) := by decide +kernel
theorem dX2_takeIfBetter_58 : decode cX2_takeIfBetter 58 = .ok (.iload 4, 2) := by decide +kernel
theorem dX2_takeIfBetter_60 : decode cX2_takeIfBetter 60 = .ok (.iastore, 1) := by decide +kernel
theorem dX2_takeIfBetter_61 : decode cX2_takeIfBetter 61 = .ok (.aload_n 0, 1) := by decide +kernel
theorem dX2_takeIfBetter_62 : decode cX2_takeIfBetter 62 = .ok (.getfield 15, 3) := by decide +kernel
theorem dX2_takeIfBetter_65 : decode cX2_takeIfBetter 65 = .ok (.iload_n 1, 1) := by decide +kernel
theorem dX2_takeIfBetter_66 : decode cX2_takeIfBetter 66 = .ok (.iload_n 2, 1) := by decide +kernel
theorem dX2_takeIfBetter_67 : decode cX2_takeIfBetter 67 = .ok (.iastore, 1) := by decide +kernel
theorem dX2_takeIfBetter_68 : decode cX2_takeIfBetter 68 = .ok (.aload_n 0, 1) := by decide +kernel
theorem dX2_takeIfBetter_69 : decode cX2_takeIfBetter 69 = .ok (.getfield 18, 3) := by decide +kernel
theorem dX2_takeIfBetter_72 : decode cX2_takeIfBetter 72 = .ok (.iload_n 1, 1) := by decide +kernel
theorem dX2_takeIfBetter_73 : decode cX2_takeIfBetter 73 = .ok (.iload_n 3, 1) := by decide +kernel
theorem dX2_takeIfBetter_74 : decode cX2_takeIfBetter 74 = .ok (.iastore, 1) := by decide +kernel
theorem dX2_takeIfBetter_75 : decode cX2_takeIfBetter 75 = .ok (.return_, 1) := by decide +kernel
theorem dX2_listStarts_0 : decode cX2_listStarts 0 = .ok (.aload_n 0, 1) := by decide +kernel
theorem dX2_listStarts_1 : decode cX2_listStarts 1 = .ok (.iconst 0, 1) := by decide +kernel
theorem dX2_listStarts_2 : decode cX2_listStarts 2 = .ok (.putfield 24, 3) := by decide +kernel
theorem dX2_listStarts_5 : decode cX2_listStarts 5 = .ok (.iconst 0, 1) := by decide +kernel
theorem dX2_listStarts_6 : decode cX2_listStarts 6 = .ok (.istore_n 2, 1) := by decide +kernel
theorem dX2_listStarts_7 : decode cX2_listStarts 7 = .ok (.iload_n 2, 1) := by decide +kernel
theorem dX2_listStarts_8 : decode cX2_listStarts 8 = .ok (.iload_n 1, 1) := by decide +kernel
theorem dX2_listStarts_9 : decode cX2_listStarts 9 = .ok (.if_icmp .ge 44, 3) := by decide +kernel
theorem dX2_listStarts_12 : decode cX2_listStarts 12 = .ok (.aload_n 0, 1) := by decide +kernel
theorem dX2_listStarts_13 : decode cX2_listStarts 13 = .ok (.getfield 24, 3) := by decide +kernel
theorem dX2_listStarts_16 : decode cX2_listStarts 16 = .ok (.bipush 24, 2) := by decide +kernel
theorem dX2_listStarts_18 : decode cX2_listStarts 18 = .ok (.if_icmp .ge 35, 3) := by decide +kernel
theorem dX2_listStarts_21 : decode cX2_listStarts 21 = .ok (.aload_n 0, 1) := by decide +kernel
theorem dX2_listStarts_22 : decode cX2_listStarts 22 = .ok (.getfield 21, 3) := by decide +kernel
theorem dX2_listStarts_25 : decode cX2_listStarts 25 = .ok (.aload_n 0, 1) := by decide +kernel
theorem dX2_listStarts_26 : decode cX2_listStarts 26 = .ok (.getfield 24, 3) := by decide +kernel
theorem dX2_listStarts_29 : decode cX2_listStarts 29 = .ok (.iload_n 2, 1) := by decide +kernel
theorem dX2_listStarts_30 : decode cX2_listStarts 30 = .ok (.iastore, 1) := by decide +kernel
theorem dX2_listStarts_31 : decode cX2_listStarts 31 = .ok (.aload_n 0, 1) := by decide +kernel
theorem dX2_listStarts_32 : decode cX2_listStarts 32 = .ok (.dup, 1) := by decide +kernel
theorem dX2_listStarts_33 : decode cX2_listStarts 33 = .ok (.getfield 24, 3) := by decide +kernel
theorem dX2_listStarts_36 : decode cX2_listStarts 36 = .ok (.iconst 1, 1) := by decide +kernel
theorem dX2_listStarts_37 : decode cX2_listStarts 37 = .ok (.iadd, 1) := by decide +kernel
theorem dX2_listStarts_38 : decode cX2_listStarts 38 = .ok (.putfield 24, 3) := by decide +kernel
theorem dX2_listStarts_41 : decode cX2_listStarts 41 = .ok (.iload_n 2, 1) := by decide +kernel
theorem dX2_listStarts_42 : decode cX2_listStarts 42 = .ok (.aload_n 0, 1) := by decide +kernel
theorem dX2_listStarts_43 : decode cX2_listStarts 43 = .ok (.getfield 15, 3) := by decide +kernel
theorem dX2_listStarts_46 : decode cX2_listStarts 46 = .ok (.iload_n 2, 1) := by decide +kernel
theorem dX2_listStarts_47 : decode cX2_listStarts 47 = .ok (.iaload, 1) := by decide +kernel
theorem dX2_listStarts_48 : decode cX2_listStarts 48 = .ok (.iadd, 1) := by decide +kernel
theorem dX2_listStarts_49 : decode cX2_listStarts 49 = .ok (.istore_n 2, 1) := by decide +kernel
theorem dX2_listStarts_50 : decode cX2_listStarts 50 = .ok (.goto (-43), 3) := by decide +kernel
theorem dX2_listStarts_53 : decode cX2_listStarts 53 = .ok (.return_, 1) := by decide +kernel
theorem dX3_init_0 : decode cX3_init 0 = .ok (.aload_n 0, 1) := by decide +kernel
theorem dX3_init_1 : decode cX3_init 1 = .ok (.invokespecial 3, 3) := by decide +kernel
theorem dX3_init_4 : decode cX3_init 4 = .ok (.return_, 1) := by decide +kernel
set_option maxRecDepth 20000 in
theorem ggX3_run_X3_pass : GoodIn wsX3_run wsX3_pass := goodIn_r _ [9, 2, 3, 4, 10, 11, 12, 8, 13, 1, 14, 15, 16, 17, 18, 19, 20] (by decide +kernel) (by decide +kernel)
set_option maxRecDepth 20000 in
theorem gX3_run_X3_pass : GoodIn wsX3_run (wsV RX3 24 RX3 yX3_pass wsX3_pass) := goodIn_app (goodIn_of _ (by decide +kernel)) ggX3_run_X3_pass
theorem dX3_run_0 : decode cX3_run 0 = .ok (.aload_n 0, 1) := by decide +kernel
theorem dX3_run_1 : decode cX3_run 1 = .ok (.iload_n 2, 1) := by decide +kernel
theorem dX3_run_2 : decode cX3_run 2 = .ok (.putfield 9, 3) := by decide +kernel
theorem dX3_run_5 : decode cX3_run 5 = .ok (.aload_n 0, 1) := by decide +kernel
theorem dX3_run_6 : decode cX3_run 6 = .ok (.iconst 0, 1) := by decide +kernel
theorem dX3_run_7 : decode cX3_run 7 = .ok (.putfield 15, 3) := by decide +kernel
theorem dX3_run_10 : decode cX3_run 10 = .ok (.aload_n 0, 1) := by decide +kernel
theorem dX3_run_11 : decode cX3_run 11 = .ok (.iconst 0, 1) := by decide +kernel
theorem dX3_run_12 : decode cX3_run 12 = .ok (.putfield 18, 3) := by decide +kernel
theorem dX3_run_15 : decode cX3_run 15 = .ok (.aload_n 0, 1) := by decide +kernel
theorem dX3_run_16 : decode cX3_run 16 = .ok (.iconst 0, 1) := by decide +kernel
theorem dX3_run_17 : decode cX3_run 17 = .ok (.putfield 21, 3) := by decide +kernel
theorem dX3_run_20 : decode cX3_run 20 = .ok (.iconst 0, 1) := by decide +kernel
theorem dX3_run_21 : decode cX3_run 21 = .ok (.istore 4, 2) := by decide +kernel
theorem dX3_run_23 : decode cX3_run 23 = .ok (.iload 4, 2) := by decide +kernel
theorem dX3_run_25 : decode cX3_run 25 = .ok (.iload_n 1, 1) := by decide +kernel
theorem dX3_run_26 : decode cX3_run 26 = .ok (.if_icmp .ge 14, 3) := by decide +kernel
theorem dX3_run_29 : decode cX3_run 29 = .ok (.aload_n 0, 1) := by decide +kernel
theorem dX3_run_30 : decode cX3_run 30 = .ok (.iload_n 3, 1) := by decide +kernel
theorem dX3_run_31 : decode cX3_run 31 = .ok (.invokevirtual 24, 3) := by decide +kernel
theorem dX3_run_34 : decode cX3_run 34 = .ok (.iinc 4 1, 3) := by decide +kernel
theorem dX3_run_37 : decode cX3_run 37 = .ok (.goto (-14), 3) := by decide +kernel
theorem dX3_run_40 : decode cX3_run 40 = .ok (.return_, 1) := by decide +kernel
theorem dX3_sentAtEnd_0 : decode cX3_sentAtEnd 0 = .ok (.aload_n 0, 1) := by decide +kernel
theorem dX3_sentAtEnd_1 : decode cX3_sentAtEnd 1 = .ok (.getfield 9, 3) := by decide +kernel
theorem dX3_sentAtEnd_4 : decode cX3_sentAtEnd 4 = .ok (.ireturn, 1) := by decide +kernel
theorem dX3_garbledAtFirst_0 : decode cX3_garbledAtFirst 0 = .ok (.aload_n 0, 1) := by decide +kernel
theorem dX3_garbledAtFirst_1 : decode cX3_garbledAtFirst 1 = .ok (.getfield 15, 3) := by decide +kernel
theorem dX3_garbledAtFirst_4 : decode cX3_garbledAtFirst 4 = .ok (.ireturn, 1) := by decide +kernel
theorem dX3_repeatsAsked_0 : decode cX3_repeatsAsked 0 = .ok (.aload_n 0, 1) := by decide +kernel
theorem dX3_repeatsAsked_1 : decode cX3_repeatsAsked 1 = .ok (.getfield 18, 3) := by decide +kernel
theorem dX3_repeatsAsked_4 : decode cX3_repeatsAsked 4 = .ok (.ireturn, 1) := by decide +kernel
theorem dX3_groupsLost_0 : decode cX3_groupsLost 0 = .ok (.aload_n 0, 1) := by decide +kernel
theorem dX3_groupsLost_1 : decode cX3_groupsLost 1 = .ok (.getfield 21, 3) := by decide +kernel
theorem dX3_groupsLost_4 : decode cX3_groupsLost 4 = .ok (.ireturn, 1) := by decide +kernel
set_option maxRecDepth 20000 in
theorem ggX3_pass_X3_isNextGarbled : GoodIn wsX3_pass wsX3_isNextGarbled := goodIn_r _ [8, 9, 10, 11, 12, 13, 14, 15, 16] (by decide +kernel) (by decide +kernel)
set_option maxRecDepth 20000 in
theorem gX3_pass_X3_isNextGarbled : GoodIn wsX3_pass (wsV RX3 28 RX3 yX3_isNextGarbled wsX3_isNextGarbled) := goodIn_app (goodIn_of _ (by decide +kernel)) ggX3_pass_X3_isNextGarbled
theorem dX3_pass_0 : decode cX3_pass 0 = .ok (.aload_n 0, 1) := by decide +kernel
theorem dX3_pass_1 : decode cX3_pass 1 = .ok (.iload_n 1, 1) := by decide +kernel
theorem dX3_pass_2 : decode cX3_pass 2 = .ok (.invokevirtual 28, 3) := by decide +kernel
theorem dX3_pass_5 : decode cX3_pass 5 = .ok (.istore_n 2, 1) := by decide +kernel
theorem dX3_pass_6 : decode cX3_pass 6 = .ok (.iload_n 2, 1) := by decide +kernel
theorem dX3_pass_7 : decode cX3_pass 7 = .ok (.ifCond .eq 13, 3) := by decide +kernel
theorem dX3_pass_10 : decode cX3_pass 10 = .ok (.aload_n 0, 1) := by decide +kernel
theorem dX3_pass_11 : decode cX3_pass 11 = .ok (.dup, 1) := by decide +kernel
theorem dX3_pass_12 : decode cX3_pass 12 = .ok (.getfield 15, 3) := by decide +kernel
theorem dX3_pass_15 : decode cX3_pass 15 = .ok (.iconst 1, 1) := by decide +kernel
theorem dX3_pass_16 : decode cX3_pass 16 = .ok (.iadd, 1) := by decide +kernel
theorem dX3_pass_17 : decode cX3_pass 17 = .ok (.putfield 15, 3) := by decide +kernel
theorem dX3_pass_20 : decode cX3_pass 20 = .ok (.iconst 0, 1) := by decide +kernel
theorem dX3_pass_21 : decode cX3_pass 21 = .ok (.istore_n 3, 1) := by decide +kernel
theorem dX3_pass_22 : decode cX3_pass 22 = .ok (.iload_n 2, 1) := by decide +kernel
theorem dX3_pass_23 : decode cX3_pass 23 = .ok (.ifCond .eq 20, 3) := by decide +kernel
theorem dX3_pass_26 : decode cX3_pass 26 = .ok (.iload_n 3, 1) := by decide +kernel
theorem dX3_pass_27 : decode cX3_pass 27 = .ok (.iconst 3, 1) := by decide +kernel
theorem dX3_pass_28 : decode cX3_pass 28 = .ok (.if_icmp .ge 15, 3) := by decide +kernel
theorem dX3_pass_31 : decode cX3_pass 31 = .ok (.iinc 3 1, 3) := by decide +kernel
theorem dX3_pass_34 : decode cX3_pass 34 = .ok (.aload_n 0, 1) := by decide +kernel
theorem dX3_pass_35 : decode cX3_pass 35 = .ok (.iload_n 1, 1) := by decide +kernel
theorem dX3_pass_36 : decode cX3_pass 36 = .ok (.invokevirtual 28, 3) := by decide +kernel
theorem dX3_pass_39 : decode cX3_pass 39 = .ok (.istore_n 2, 1) := by decide +kernel
theorem dX3_pass_40 : decode cX3_pass 40 = .ok (.goto (-18), 3) := by decide +kernel
theorem dX3_pass_43 : decode cX3_pass 43 = .ok (.aload_n 0, 1) := by decide +kernel
theorem dX3_pass_44 : decode cX3_pass 44 = .ok (.dup, 1) := by decide +kernel
theorem dX3_pass_45 : decode cX3_pass 45 = .ok (.getfield 18, 3) := by decide +kernel
theorem dX3_pass_48 : decode cX3_pass 48 = .ok (.iload_n 3, 1) := by decide +kernel
theorem dX3_pass_49 : decode cX3_pass 49 = .ok (.iadd, 1) := by decide +kernel
theorem dX3_pass_50 : decode cX3_pass 50 = .ok (.putfield 18, 3) := by decide +kernel
theorem dX3_pass_53 : decode cX3_pass 53 = .ok (.iload_n 2, 1) := by decide +kernel
theorem dX3_pass_54 : decode cX3_pass 54 = .ok (.ifCond .eq 13, 3) := by decide +kernel
theorem dX3_pass_57 : decode cX3_pass 57 = .ok (.aload_n 0, 1) := by decide +kernel
theorem dX3_pass_58 : decode cX3_pass 58 = .ok (.dup, 1) := by decide +kernel
theorem dX3_pass_59 : decode cX3_pass 59 = .ok (.getfield 21, 3) := by decide +kernel
theorem dX3_pass_62 : decode cX3_pass 62 = .ok (.iconst 1, 1) := by decide +kernel
theorem dX3_pass_63 : decode cX3_pass 63 = .ok (.iadd, 1) := by decide +kernel
theorem dX3_pass_64 : decode cX3_pass 64 = .ok (.putfield 21, 3) := by decide +kernel
theorem dX3_pass_67 : decode cX3_pass 67 = .ok (.return_, 1) := by decide +kernel
set_option maxRecDepth 20000 in
theorem ggX3_isNextGarbled_X4_isGarbled : GoodIn wsX3_isNextGarbled wsX4_isGarbled := goodIn_r _ [4] (by decide +kernel) (by decide +kernel)
set_option maxRecDepth 20000 in
theorem gX3_isNextGarbled_X4_isGarbled_n32 : GoodIn wsX3_isNextGarbled (wsX4_isGarbled) := ggX3_isNextGarbled_X4_isGarbled
theorem dX3_isNextGarbled_0 : decode cX3_isNextGarbled 0 = .ok (.aload_n 0, 1) := by decide +kernel
theorem dX3_isNextGarbled_1 : decode cX3_isNextGarbled 1 = .ok (.dup, 1) := by decide +kernel
theorem dX3_isNextGarbled_2 : decode cX3_isNextGarbled 2 = .ok (.getfield 9, 3) := by decide +kernel
theorem dX3_isNextGarbled_5 : decode cX3_isNextGarbled 5 = .ok (.iconst 1, 1) := by decide +kernel
theorem dX3_isNextGarbled_6 : decode cX3_isNextGarbled 6 = .ok (.iadd, 1) := by decide +kernel
theorem dX3_isNextGarbled_7 : decode cX3_isNextGarbled 7 = .ok (.putfield 9, 3) := by decide +kernel
theorem dX3_isNextGarbled_10 : decode cX3_isNextGarbled 10 = .ok (.aload_n 0, 1) := by decide +kernel
theorem dX3_isNextGarbled_11 : decode cX3_isNextGarbled 11 = .ok (.getfield 9, 3) := by decide +kernel
theorem dX3_isNextGarbled_14 : decode cX3_isNextGarbled 14 = .ok (.iload_n 1, 1) := by decide +kernel
theorem dX3_isNextGarbled_15 : decode cX3_isNextGarbled 15 = .ok (.invokestatic 32, 3) := by decide +kernel
theorem dX3_isNextGarbled_18 : decode cX3_isNextGarbled 18 = .ok (.ireturn, 1) := by decide +kernel
set_option maxRecDepth 20000 in
theorem ggX4_init_X0_init : GoodIn wsX4_init wsX0_init := goodIn_r _ [24, 25, 2, 3, 26, 27, 28, 45, 46, 47] (by decide +kernel) (by decide +kernel)
set_option maxRecDepth 20000 in
theorem gX4_init_X0_init : GoodIn wsX4_init (wsX0_init) := ggX4_init_X0_init
set_option maxRecDepth 20000 in
theorem ggX4_init_X1_init : GoodIn wsX4_init wsX1_init := goodIn_r _ [31, 32, 2, 3, 26, 33, 58, 59] (by decide +kernel) (by decide +kernel)
set_option maxRecDepth 20000 in
theorem gX4_init_X1_init : GoodIn wsX4_init (wsX1_init) := ggX4_init_X1_init
set_option maxRecDepth 20000 in
theorem ggX4_init_X2_init : GoodIn wsX4_init wsX2_init := goodIn_r _ [36, 37, 2, 3, 26, 38, 39, 40, 41, 60, 61, 62, 63, 64] (by decide +kernel) (by decide +kernel)
set_option maxRecDepth 20000 in
theorem gX4_init_X2_init : GoodIn wsX4_init (wsX2_init) := ggX4_init_X2_init
set_option maxRecDepth 20000 in
theorem ggX4_init_X3_init : GoodIn wsX4_init wsX3_init := goodIn_r _ [43, 44, 2, 3] (by decide +kernel) (by decide +kernel)
set_option maxRecDepth 20000 in
theorem gX4_init_X3_init_n35 : GoodIn wsX4_init (wsX3_init) := ggX4_init_X3_init
theorem dX4_init_0 : decode cX4_init 0 = .ok (.aload_n 0, 1) := by decide +kernel
theorem dX4_init_1 : decode cX4_init 1 = .ok (.invokespecial 1, 3) := by decide +kernel
theorem dX4_init_4 : decode cX4_init 4 = .ok (.aload_n 0, 1) := by decide +kernel
theorem dX4_init_5 : decode cX4_init 5 = .ok (.new 7, 3) := by decide +kernel
theorem dX4_init_8 : decode cX4_init 8 = .ok (.dup, 1) := by decide +kernel
theorem dX4_init_9 : decode cX4_init 9 = .ok (.invokespecial 9, 3) := by decide +kernel
theorem dX4_init_12 : decode cX4_init 12 = .ok (.putfield 10, 3) := by decide +kernel
theorem dX4_init_15 : decode cX4_init 15 = .ok (.aload_n 0, 1) := by decide +kernel
theorem dX4_init_16 : decode cX4_init 16 = .ok (.new 16, 3) := by decide +kernel
theorem dX4_init_19 : decode cX4_init 19 = .ok (.dup, 1) := by decide +kernel
theorem dX4_init_20 : decode cX4_init 20 = .ok (.invokespecial 18, 3) := by decide +kernel
theorem dX4_init_23 : decode cX4_init 23 = .ok (.putfield 19, 3) := by decide +kernel
theorem dX4_init_26 : decode cX4_init 26 = .ok (.aload_n 0, 1) := by decide +kernel
theorem dX4_init_27 : decode cX4_init 27 = .ok (.new 23, 3) := by decide +kernel
theorem dX4_init_30 : decode cX4_init 30 = .ok (.dup, 1) := by decide +kernel
theorem dX4_init_31 : decode cX4_init 31 = .ok (.invokespecial 25, 3) := by decide +kernel
theorem dX4_init_34 : decode cX4_init 34 = .ok (.putfield 26, 3) := by decide +kernel
theorem dX4_init_37 : decode cX4_init 37 = .ok (.aload_n 0, 1) := by decide +kernel
theorem dX4_init_38 : decode cX4_init 38 = .ok (.new 23, 3) := by decide +kernel
theorem dX4_init_41 : decode cX4_init 41 = .ok (.dup, 1) := by decide +kernel
theorem dX4_init_42 : decode cX4_init 42 = .ok (.invokespecial 25, 3) := by decide +kernel
theorem dX4_init_45 : decode cX4_init 45 = .ok (.putfield 30, 3) := by decide +kernel
theorem dX4_init_48 : decode cX4_init 48 = .ok (.aload_n 0, 1) := by decide +kernel
theorem dX4_init_49 : decode cX4_init 49 = .ok (.new 33, 3) := by decide +kernel
theorem dX4_init_52 : decode cX4_init 52 = .ok (.dup, 1) := by decide +kernel
theorem dX4_init_53 : decode cX4_init 53 = .ok (.invokespecial 35, 3) := by decide +kernel
theorem dX4_init_56 : decode cX4_init 56 = .ok (.putfield 36, 3) := by decide +kernel
theorem dX4_init_59 : decode cX4_init 59 = .ok (.aload_n 0, 1) := by decide +kernel
theorem dX4_init_60 : decode cX4_init 60 = .ok (.bipush 7, 2) := by decide +kernel
theorem dX4_init_62 : decode cX4_init 62 = .ok (.putfield 40, 3) := by decide +kernel
theorem dX4_init_65 : decode cX4_init 65 = .ok (.return_, 1) := by decide +kernel
set_option maxRecDepth 20000 in
theorem ggX4_addCode_X4_isType : GoodIn wsX4_addCode wsX4_isType := goodIn_r _ [9] (by decide +kernel) (by decide +kernel)
set_option maxRecDepth 20000 in
theorem gX4_addCode_X4_isType : GoodIn wsX4_addCode (va_wsS RX4 44 yX4_isType wsX4_isType) := goodIn_app (goodIn_of _ (by decide +kernel)) ggX4_addCode_X4_isType
set_option maxRecDepth 20000 in
theorem ggX4_addCode_X4_isTypeOrNone : GoodIn wsX4_addCode wsX4_isTypeOrNone := goodIn_r _ [12, 6, 7, 8, 9] (by decide +kernel) (by decide +kernel)
set_option maxRecDepth 20000 in
theorem gX4_addCode_X4_isTypeOrNone : GoodIn wsX4_addCode (va_wsS RX4 55 yX4_isTypeOrNone wsX4_isTypeOrNone) := goodIn_app (goodIn_of _ (by decide +kernel)) ggX4_addCode_X4_isTypeOrNone
set_option maxRecDepth 20000 in
theorem ggX4_addCode_X0_isFull : GoodIn wsX4_addCode wsX0_isFull := goodIn_r _ [17, 18, 118, 119, 120] (by decide +kernel) (by decide +kernel)
set_option maxRecDepth 20000 in
theorem gX4_addCode_X0_isFull : GoodIn wsX4_addCode (wsV RX4 62 RX0 yX0_isFull wsX0_isFull) := goodIn_app (goodIn_of _ (by decide +kernel)) ggX4_addCode_X0_isFull
set_option maxRecDepth 20000 in
theorem ggX4_addCode_X0_holds : GoodIn wsX4_addCode wsX0_holds := goodIn_r _ [22, 18, 23, 24, 25, 16, 26, 27, 28, 29, 30, 31, 118, 119, 120] (by decide +kernel) (by decide +kernel)
set_option maxRecDepth 20000 in
theorem gX4_addCode_X0_holds : GoodIn wsX4_addCode (wsV RX4 71 RX0 yX0_holds wsX0_holds) := goodIn_app (goodIn_of _ (by decide +kernel)) ggX4_addCode_X0_holds
set_option maxRecDepth 20000 in
theorem ggX4_addCode_X0_append : GoodIn wsX4_addCode wsX0_append := goodIn_r _ [35, 18, 27, 36, 37, 14, 15, 16, 17, 118, 119, 120] (by decide +kernel) (by decide +kernel)
set_option maxRecDepth 20000 in
theorem gX4_addCode_X0_append : GoodIn wsX4_addCode (wsV RX4 77 RX0 yX0_append wsX0_append) := goodIn_app (goodIn_of _ (by decide +kernel)) ggX4_addCode_X0_append
set_option maxRecDepth 20000 in
theorem ggX4_addCode_X4_shorten : GoodIn wsX4_addCode wsX4_shorten := goodIn_r _ [41, 42, 43, 5, 44, 45, 46, 47, 48, 49, 50, 51, 52, 53, 54, 55, 56, 57, 58, 59, 60, 61, 62, 63, 64, 65, 66, 67, 68, 69, 70, 71, 72, 16, 73, 18, 74, 75, 76, 77, 78, 79, 80, 81, 36, 28, 29, 30, 31, 82, 83, 84, 85, 86, 87, 88, 89, 90, 91, 24, 25, 26, 27, 92, 93, 94, 95, 96, 97, 98, 99, 100, 101, 102, 103, 104, 105, 106, 108, 109, 110, 111, 112, 113, 114, 115, 116, 117, 121, 122, 123, 124, 125, 126, 127, 118, 119, 120] (by decide +kernel) (by decide +kernel)
set_option maxRecDepth 20000 in
theorem gX4_addCode_X4_shorten : GoodIn wsX4_addCode (wsV RX4 81 RX4 yX4_shorten wsX4_shorten) := goodIn_app (goodIn_of _ (by decide +kernel)) ggX4_addCode_X4_shorten
set_option maxRecDepth 20000 in
theorem ggX4_addCode_X0_size : GoodIn wsX4_addCode wsX0_size := goodIn_r _ [73, 18, 118, 119, 120] (by decide +kernel) (by decide +kernel)
set_option maxRecDepth 20000 in
theorem gX4_addCode_X0_size : GoodIn wsX4_addCode (wsV RX4 84 RX0 yX0_size wsX0_size) := goodIn_app (goodIn_of _ (by decide +kernel)) ggX4_addCode_X0_size
theorem dX4_addCode_0 : decode cX4_addCode 0 = .ok (.iload_n 1, 1) := by decide +kernel
theorem dX4_addCode_1 : decode cX4_addCode 1 = .ok (.invokestatic 44, 3) := by decide +kernel
theorem dX4_addCode_4 : decode cX4_addCode 4 = .ok (.ifCond .eq 10, 3) := by decide +kernel
theorem dX4_addCode_7 : decode cX4_addCode 7 = .ok (.iload_n 2, 1) := by decide +kernel
theorem dX4_addCode_8 : decode cX4_addCode 8 = .ok (.invokestatic 44, 3) := by decide +kernel
theorem dX4_addCode_11 : decode cX4_addCode 11 = .ok (.ifCond .ne 13, 3) := by decide +kernel
theorem dX4_addCode_14 : decode cX4_addCode 14 = .ok (.new 48, 3) := by decide +kernel
theorem dX4_addCode_17 : decode cX4_addCode 17 = .ok (.dup, 1) := by decide +kernel
theorem dX4_addCode_18 : decode cX4_addCode 18 = .ok (.ldc 50, 2) := by decide +kernel
theorem dX4_addCode_20 : decode cX4_addCode 20 = .ok (.invokespecial 52, 3) := by decide +kernel
theorem dX4_addCode_23 : decode cX4_addCode 23 = .ok (.athrow, 1) := by decide +kernel
theorem dX4_addCode_24 : decode cX4_addCode 24 = .ok (.iload_n 3, 1) := by decide +kernel
theorem dX4_addCode_25 : decode cX4_addCode 25 = .ok (.invokestatic 55, 3) := by decide +kernel
theorem dX4_addCode_28 : decode cX4_addCode 28 = .ok (.ifCond .eq 11, 3) := by decide +kernel
theorem dX4_addCode_31 : decode cX4_addCode 31 = .ok (.iload 4, 2) := by decide +kernel
theorem dX4_addCode_33 : decode cX4_addCode 33 = .ok (.invokestatic 55, 3) := by decide +kernel
theorem dX4_addCode_36 : decode cX4_addCode 36 = .ok (.ifCond .ne 13, 3) := by decide +kernel
theorem dX4_addCode_39 : decode cX4_addCode 39 = .ok (.new 48, 3) := by decide +kernel
theorem dX4_addCode_42 : decode cX4_addCode 42 = .ok (.dup, 1) := by decide +kernel
theorem dX4_addCode_43 : decode cX4_addCode 43 = .ok (.ldc 58, 2) := by decide +kernel
theorem dX4_addCode_45 : decode cX4_addCode 45 = .ok (.invokespecial 52, 3) := by decide +kernel
theorem dX4_addCode_48 : decode cX4_addCode 48 = .ok (.athrow, 1) := by decide +kernel
theorem dX4_addCode_49 : decode cX4_addCode 49 = .ok (.iload_n 3, 1) := by decide +kernel
theorem dX4_addCode_50 : decode cX4_addCode 50 = .ok (.iconst (-1), 1) := by decide +kernel
theorem dX4_addCode_51 : decode cX4_addCode 51 = .ok (.if_icmp .ne 19, 3) := by decide +kernel
theorem dX4_addCode_54 : decode cX4_addCode 54 = .ok (.iload 4, 2) := by decide +kernel
theorem dX4_addCode_56 : decode cX4_addCode 56 = .ok (.iconst (-1), 1) := by decide +kernel
theorem dX4_addCode_57 : decode cX4_addCode 57 = .ok (.if_icmp .eq 13, 3) := by decide +kernel
theorem dX4_addCode_60 : decode cX4_addCode 60 = .ok (.new 48, 3) := by decide +kernel
theorem dX4_addCode_63 : decode cX4_addCode 63 = .ok (.dup, 1) := by decide +kernel
theorem dX4_addCode_64 : decode cX4_addCode 64 = .ok (.ldc 60, 2) := by decide +kernel
theorem dX4_addCode_66 : decode cX4_addCode 66 = .ok (.invokespecial 52, 3) := by decide +kernel
theorem dX4_addCode_69 : decode cX4_addCode 69 = .ok (.athrow, 1) := by decide +kernel
theorem dX4_addCode_70 : decode cX4_addCode 70 = .ok (.aload_n 0, 1) := by decide +kernel
theorem dX4_addCode_71 : decode cX4_addCode 71 = .ok (.getfield 10, 3) := by decide +kernel
theorem dX4_addCode_74 : decode cX4_addCode 74 = .ok (.invokevirtual 62, 3) := by decide +kernel
theorem dX4_addCode_77 : decode cX4_addCode 77 = .ok (.ifCond .eq 13, 3) := by decide +kernel
theorem dX4_addCode_80 : decode cX4_addCode 80 = .ok (.new 66, 3) := by decide +kernel
theorem dX4_addCode_83 : decode cX4_addCode 83 = .ok (.dup, 1) := by decide +kernel
theorem dX4_addCode_84 : decode cX4_addCode 84 = .ok (.ldc 68, 2) := by decide +kernel
theorem dX4_addCode_86 : decode cX4_addCode 86 = .ok (.invokespecial 70, 3) := by decide +kernel
theorem dX4_addCode_89 : decode cX4_addCode 89 = .ok (.athrow, 1) := by decide +kernel
theorem dX4_addCode_90 : decode cX4_addCode 90 = .ok (.aload_n 0, 1) := by decide +kernel
theorem dX4_addCode_91 : decode cX4_addCode 91 = .ok (.getfield 10, 3) := by decide +kernel
theorem dX4_addCode_94 : decode cX4_addCode 94 = .ok (.iload_n 1, 1) := by decide +kernel
theorem dX4_addCode_95 : decode cX4_addCode 95 = .ok (.iload_n 2, 1) := by decide +kernel
theorem dX4_addCode_96 : decode cX4_addCode 96 = .ok (.iload_n 3, 1) := by decide +kernel
theorem dX4_addCode_97 : decode cX4_addCode 97 = .ok (.iload 4, 2) := by decide +kernel
theorem dX4_addCode_99 : decode cX4_addCode 99 = .ok (.invokevirtual 71, 3) := by decide +kernel
theorem dX4_addCode_102 : decode cX4_addCode 102 = .ok (.ifCond .eq 13, 3) := by decide +kernel
theorem dX4_addCode_105 : decode cX4_addCode 105 = .ok (.new 66, 3) := by decide +kernel
theorem dX4_addCode_108 : decode cX4_addCode 108 = .ok (.dup, 1) := by decide +kernel
theorem dX4_addCode_109 : decode cX4_addCode 109 = .ok (.ldc 75, 2) := by decide +kernel
theorem dX4_addCode_111 : decode cX4_addCode 111 = .ok (.invokespecial 70, 3) := by decide +kernel
theorem dX4_addCode_114 : decode cX4_addCode 114 = .ok (.athrow, 1) := by decide +kernel
theorem dX4_addCode_115 : decode cX4_addCode 115 = .ok (.aload_n 0, 1) := by decide +kernel
theorem dX4_addCode_116 : decode cX4_addCode 116 = .ok (.getfield 10, 3) := by decide +kernel
theorem dX4_addCode_119 : decode cX4_addCode 119 = .ok (.iload_n 1, 1) := by decide +kernel
theorem dX4_addCode_120 : decode cX4_addCode 120 = .ok (.iload_n 2, 1) := by decide +kernel
theorem dX4_addCode_121 : decode cX4_addCode 121 = .ok (.iload_n 3, 1) := by decide +kernel
theorem dX4_addCode_122 : decode cX4_addCode 122 = .ok (.iload 4, 2) := by decide +kernel
theorem dX4_addCode_124 : decode cX4_addCode 124 = .ok (.invokevirtual 77, 3) := by decide +kernel
theorem dX4_addCode_127 : decode cX4_addCode 127 = .ok (.aload_n 0, 1) := by decide +kernel
theorem dX4_addCode_128 : decode cX4_addCode 128 = .ok (.invokevirtual 81, 3) := by decide +kernel
theorem dX4_addCode_131 : decode cX4_addCode 131 = .ok (.aload_n 0, 1) := by decide +kernel
theorem dX4_addCode_132 : decode cX4_addCode 132 = .ok (.getfield 10, 3) := by decide +kernel
theorem dX4_addCode_135 : decode cX4_addCode 135 = .ok (.invokevirtual 84, 3) := by decide +kernel
theorem dX4_addCode_138 : decode cX4_addCode 138 = .ok (.iconst 1, 1) := by decide +kernel
theorem dX4_addCode_139 : decode cX4_addCode 139 = .ok (.isub, 1) := by decide +kernel
theorem dX4_addCode_140 : decode cX4_addCode 140 = .ok (.ireturn, 1) := by decide +kernel
set_option maxRecDepth 20000 in
theorem ggX4_dropCode_X0_has : GoodIn wsX4_dropCode wsX0_has := goodIn_r _ [8, 9, 105, 106, 107] (by decide +kernel) (by decide +kernel)
set_option maxRecDepth 20000 in
theorem gX4_dropCode_X0_has : GoodIn wsX4_dropCode (wsV RX4 88 RX0 yX0_has wsX0_has) := goodIn_app (goodIn_of _ (by decide +kernel)) ggX4_dropCode_X0_has
set_option maxRecDepth 20000 in
theorem ggX4_dropCode_X0_wordsIn : GoodIn wsX4_dropCode wsX0_wordsIn := goodIn_r _ [13, 14, 15, 5, 6, 7, 8, 9, 105, 106, 107] (by decide +kernel) (by decide +kernel)
set_option maxRecDepth 20000 in
theorem gX4_dropCode_X0_wordsIn : GoodIn wsX4_dropCode (wsV RX4 96 RX0 yX0_wordsIn wsX0_wordsIn) := goodIn_app (goodIn_of _ (by decide +kernel)) ggX4_dropCode_X0_wordsIn
set_option maxRecDepth 20000 in
theorem ggX4_dropCode_X0_remove : GoodIn wsX4_dropCode wsX0_remove := goodIn_r _ [19, 9, 20, 21, 22, 23, 24, 14, 15, 5, 6, 7, 8, 105, 106, 107] (by decide +kernel) (by decide +kernel)
set_option maxRecDepth 20000 in
theorem gX4_dropCode_X0_remove : GoodIn wsX4_dropCode (wsV RX4 100 RX0 yX0_remove wsX0_remove) := goodIn_app (goodIn_of _ (by decide +kernel)) ggX4_dropCode_X0_remove
set_option maxRecDepth 20000 in
theorem ggX4_dropCode_X4_shorten : GoodIn wsX4_dropCode wsX4_shorten := goodIn_r _ [29, 30, 31, 3, 32, 33, 34, 35, 36, 37, 38, 39, 40, 41, 42, 43, 44, 45, 46, 47, 48, 49, 50, 51, 52, 53, 54, 55, 56, 57, 58, 59, 60, 7, 61, 9, 62, 63, 64, 65, 66, 11, 12, 13, 14, 15, 5, 6, 8, 67, 68, 69, 70, 71, 72, 73, 74, 75, 76, 77, 78, 79, 20, 80, 81, 82, 83, 84, 85, 86, 87, 88, 89, 90, 91, 92, 93, 94, 95, 96, 97, 98, 99, 100, 101, 102, 103, 104, 108, 109, 110, 111, 112, 113, 114, 105, 106, 107] (by decide +kernel) (by decide +kernel)
set_option maxRecDepth 20000 in
theorem gX4_dropCode_X4_shorten : GoodIn wsX4_dropCode (wsV RX4 81 RX4 yX4_shorten wsX4_shorten) := goodIn_app (goodIn_of _ (by decide +kernel)) ggX4_dropCode_X4_shorten
theorem dX4_dropCode_0 : decode cX4_dropCode 0 = .ok (.aload_n 0, 1) := by decide +kernel
theorem dX4_dropCode_1 : decode cX4_dropCode 1 = .ok (.getfield 10, 3) := by decide +kernel
theorem dX4_dropCode_4 : decode cX4_dropCode 4 = .ok (.iload_n 1, 1) := by decide +kernel
theorem dX4_dropCode_5 : decode cX4_dropCode 5 = .ok (.invokevirtual 88, 3) := by decide +kernel
theorem dX4_dropCode_8 : decode cX4_dropCode 8 = .ok (.ifCond .ne 13, 3) := by decide +kernel
theorem dX4_dropCode_11 : decode cX4_dropCode 11 = .ok (.new 91, 3) := by decide +kernel
theorem dX4_dropCode_14 : decode cX4_dropCode 14 = .ok (.dup, 1) := by decide +kernel
theorem dX4_dropCode_15 : decode cX4_dropCode 15 = .ok (.ldc 93, 2) := by decide +kernel
theorem dX4_dropCode_17 : decode cX4_dropCode 17 = .ok (.invokespecial 95, 3) := by decide +kernel
theorem dX4_dropCode_20 : decode cX4_dropCode 20 = .ok (.athrow, 1) := by decide +kernel
theorem dX4_dropCode_21 : decode cX4_dropCode 21 = .ok (.aload_n 0, 1) := by decide +kernel
theorem dX4_dropCode_22 : decode cX4_dropCode 22 = .ok (.getfield 10, 3) := by decide +kernel
theorem dX4_dropCode_25 : decode cX4_dropCode 25 = .ok (.iload_n 1, 1) := by decide +kernel
theorem dX4_dropCode_26 : decode cX4_dropCode 26 = .ok (.invokevirtual 96, 3) := by decide +kernel
theorem dX4_dropCode_29 : decode cX4_dropCode 29 = .ok (.istore_n 2, 1) := by decide +kernel
theorem dX4_dropCode_30 : decode cX4_dropCode 30 = .ok (.aload_n 0, 1) := by decide +kernel
theorem dX4_dropCode_31 : decode cX4_dropCode 31 = .ok (.getfield 10, 3) := by decide +kernel
theorem dX4_dropCode_34 : decode cX4_dropCode 34 = .ok (.iload_n 1, 1) := by decide +kernel
theorem dX4_dropCode_35 : decode cX4_dropCode 35 = .ok (.invokevirtual 100, 3) := by decide +kernel
theorem dX4_dropCode_38 : decode cX4_dropCode 38 = .ok (.aload_n 0, 1) := by decide +kernel
theorem dX4_dropCode_39 : decode cX4_dropCode 39 = .ok (.invokevirtual 81, 3) := by decide +kernel
theorem dX4_dropCode_42 : decode cX4_dropCode 42 = .ok (.iload_n 2, 1) := by decide +kernel
theorem dX4_dropCode_43 : decode cX4_dropCode 43 = .ok (.ireturn, 1) := by decide +kernel
set_option maxRecDepth 20000 in
theorem ggX4_codes_X0_size : GoodIn wsX4_codes wsX0_size := goodIn_r _ [6, 7, 18, 19, 20] (by decide +kernel) (by decide +kernel)
set_option maxRecDepth 20000 in
theorem gX4_codes_X0_size : GoodIn wsX4_codes (wsV RX4 84 RX0 yX0_size wsX0_size) := goodIn_app (goodIn_of _ (by decide +kernel)) ggX4_codes_X0_size
theorem dX4_codes_0 : decode cX4_codes 0 = .ok (.aload_n 0, 1) := by decide +kernel
theorem dX4_codes_1 : decode cX4_codes 1 = .ok (.getfield 10, 3) := by decide +kernel
theorem dX4_codes_4 : decode cX4_codes 4 = .ok (.invokevirtual 84, 3) := by decide +kernel
theorem dX4_codes_7 : decode cX4_codes 7 = .ok (.ireturn, 1) := by decide +kernel
set_option maxRecDepth 20000 in
theorem ggX4_lengthOf_X0_has : GoodIn wsX4_lengthOf wsX0_has := goodIn_r _ [8, 9, 26, 27, 28] (by decide +kernel) (by decide +kernel)
set_option maxRecDepth 20000 in
theorem gX4_lengthOf_X0_has : GoodIn wsX4_lengthOf (wsV RX4 88 RX0 yX0_has wsX0_has) := goodIn_app (goodIn_of _ (by decide +kernel)) ggX4_lengthOf_X0_has
set_option maxRecDepth 20000 in
theorem ggX4_lengthOf_X0_wordsIn : GoodIn wsX4_lengthOf wsX0_wordsIn := goodIn_r _ [13, 14, 15, 5, 6, 7, 8, 9, 26, 27, 28] (by decide +kernel) (by decide +kernel)
set_option maxRecDepth 20000 in
theorem gX4_lengthOf_X0_wordsIn : GoodIn wsX4_lengthOf (wsV RX4 96 RX0 yX0_wordsIn wsX0_wordsIn) := goodIn_app (goodIn_of _ (by decide +kernel)) ggX4_lengthOf_X0_wordsIn
theorem dX4_lengthOf_0 : decode cX4_lengthOf 0 = .ok (.aload_n 0, 1) := by decide +kernel
theorem dX4_lengthOf_1 : decode cX4_lengthOf 1 = .ok (.getfield 10, 3) := by decide +kernel
theorem dX4_lengthOf_4 : decode cX4_lengthOf 4 = .ok (.iload_n 1, 1) := by decide +kernel
theorem dX4_lengthOf_5 : decode cX4_lengthOf 5 = .ok (.invokevirtual 88, 3) := by decide +kernel
theorem dX4_lengthOf_8 : decode cX4_lengthOf 8 = .ok (.ifCond .ne 13, 3) := by decide +kernel
theorem dX4_lengthOf_11 : decode cX4_lengthOf 11 = .ok (.new 91, 3) := by decide +kernel
theorem dX4_lengthOf_14 : decode cX4_lengthOf 14 = .ok (.dup, 1) := by decide +kernel
theorem dX4_lengthOf_15 : decode cX4_lengthOf 15 = .ok (.ldc 93, 2) := by decide +kernel
theorem dX4_lengthOf_17 : decode cX4_lengthOf 17 = .ok (.invokespecial 95, 3) := by decide +kernel
theorem dX4_lengthOf_20 : decode cX4_lengthOf 20 = .ok (.athrow, 1) := by decide +kernel
theorem dX4_lengthOf_21 : decode cX4_lengthOf 21 = .ok (.aload_n 0, 1) := by decide +kernel
theorem dX4_lengthOf_22 : decode cX4_lengthOf 22 = .ok (.getfield 10, 3) := by decide +kernel
theorem dX4_lengthOf_25 : decode cX4_lengthOf 25 = .ok (.iload_n 1, 1) := by decide +kernel
theorem dX4_lengthOf_26 : decode cX4_lengthOf 26 = .ok (.invokevirtual 96, 3) := by decide +kernel
theorem dX4_lengthOf_29 : decode cX4_lengthOf 29 = .ok (.ireturn, 1) := by decide +kernel
set_option maxRecDepth 20000 in
theorem ggX4_write_X4_isType : GoodIn wsX4_write wsX4_isType := goodIn_r _ [9] (by decide +kernel) (by decide +kernel)
set_option maxRecDepth 20000 in
theorem gX4_write_X4_isType : GoodIn wsX4_write (va_wsS RX4 44 yX4_isType wsX4_isType) := goodIn_app (goodIn_of _ (by decide +kernel)) ggX4_write_X4_isType
set_option maxRecDepth 20000 in
theorem ggX4_write_X1_isFull : GoodIn wsX4_write wsX1_isFull := goodIn_r _ [14, 15, 110, 111] (by decide +kernel) (by decide +kernel)
set_option maxRecDepth 20000 in
theorem gX4_write_X1_isFull : GoodIn wsX4_write (wsV RX4 106 RX1 yX1_isFull wsX1_isFull) := goodIn_app (goodIn_of _ (by decide +kernel)) ggX4_write_X1_isFull
set_option maxRecDepth 20000 in
theorem ggX4_write_X1_append : GoodIn wsX4_write wsX1_append := goodIn_r _ [19, 20, 15, 21, 11, 12, 13, 14, 110, 111] (by decide +kernel) (by decide +kernel)
set_option maxRecDepth 20000 in
theorem gX4_write_X1_append : GoodIn wsX4_write (wsV RX4 109 RX1 yX1_append wsX1_append) := goodIn_app (goodIn_of _ (by decide +kernel)) ggX4_write_X1_append
set_option maxRecDepth 20000 in
theorem ggX4_write_X4_shorten : GoodIn wsX4_write wsX4_shorten := goodIn_r _ [25, 26, 5, 27, 28, 29, 30, 31, 32, 33, 34, 35, 36, 37, 38, 39, 40, 41, 42, 43, 44, 13, 45, 15, 46, 47, 48, 49, 50, 51, 52, 53, 54, 55, 56, 57, 58, 59, 60, 61, 62, 63, 64, 65, 66, 67, 68, 69, 70, 71, 72, 73, 74, 75, 76, 77, 78, 20, 79, 80, 81, 82, 83, 84, 85, 86, 87, 88, 89, 90, 91, 92, 93, 94, 95, 96, 97, 98, 100, 101, 102, 103, 104, 105, 106, 107, 108, 109, 112, 113, 114, 115, 116, 110, 111, 117, 118, 119] (by decide +kernel) (by decide +kernel)
set_option maxRecDepth 20000 in
theorem gX4_write_X4_shorten : GoodIn wsX4_write (wsV RX4 81 RX4 yX4_shorten wsX4_shorten) := goodIn_app (goodIn_of _ (by decide +kernel)) ggX4_write_X4_shorten
set_option maxRecDepth 20000 in
theorem ggX4_write_X1_size : GoodIn wsX4_write wsX1_size := goodIn_r _ [45, 15, 110, 111] (by decide +kernel) (by decide +kernel)
set_option maxRecDepth 20000 in
theorem gX4_write_X1_size : GoodIn wsX4_write (wsV RX4 111 RX1 yX1_size wsX1_size) := goodIn_app (goodIn_of _ (by decide +kernel)) ggX4_write_X1_size
theorem dX4_write_0 : decode cX4_write 0 = .ok (.iload_n 1, 1) := by decide +kernel
theorem dX4_write_1 : decode cX4_write 1 = .ok (.invokestatic 44, 3) := by decide +kernel
theorem dX4_write_4 : decode cX4_write 4 = .ok (.ifCond .ne 13, 3) := by decide +kernel
theorem dX4_write_7 : decode cX4_write 7 = .ok (.new 48, 3) := by decide +kernel
theorem dX4_write_10 : decode cX4_write 10 = .ok (.dup, 1) := by decide +kernel
theorem dX4_write_11 : decode cX4_write 11 = .ok (.ldc 104, 2) := by decide +kernel
theorem dX4_write_13 : decode cX4_write 13 = .ok (.invokespecial 52, 3) := by decide +kernel
theorem dX4_write_16 : decode cX4_write 16 = .ok (.athrow, 1) := by decide +kernel
theorem dX4_write_17 : decode cX4_write 17 = .ok (.aload_n 0, 1) := by decide +kernel
theorem dX4_write_18 : decode cX4_write 18 = .ok (.getfield 19, 3) := by decide +kernel
theorem dX4_write_21 : decode cX4_write 21 = .ok (.invokevirtual 106, 3) := by decide +kernel
theorem dX4_write_24 : decode cX4_write 24 = .ok (.ifCond .eq 13, 3) := by decide +kernel
theorem dX4_write_27 : decode cX4_write 27 = .ok (.new 66, 3) := by decide +kernel
theorem dX4_write_30 : decode cX4_write 30 = .ok (.dup, 1) := by decide +kernel
theorem dX4_write_31 : decode cX4_write 31 = .ok (.ldc 107, 2) := by decide +kernel
theorem dX4_write_33 : decode cX4_write 33 = .ok (.invokespecial 70, 3) := by decide +kernel
theorem dX4_write_36 : decode cX4_write 36 = .ok (.athrow, 1) := by decide +kernel
theorem dX4_write_37 : decode cX4_write 37 = .ok (.aload_n 0, 1) := by decide +kernel
theorem dX4_write_38 : decode cX4_write 38 = .ok (.getfield 19, 3) := by decide +kernel
theorem dX4_write_41 : decode cX4_write 41 = .ok (.iload_n 1, 1) := by decide +kernel
theorem dX4_write_42 : decode cX4_write 42 = .ok (.invokevirtual 109, 3) := by decide +kernel
theorem dX4_write_45 : decode cX4_write 45 = .ok (.aload_n 0, 1) := by decide +kernel
theorem dX4_write_46 : decode cX4_write 46 = .ok (.invokevirtual 81, 3) := by decide +kernel
theorem dX4_write_49 : decode cX4_write 49 = .ok (.aload_n 0, 1) := by decide +kernel
theorem dX4_write_50 : decode cX4_write 50 = .ok (.getfield 19, 3) := by decide +kernel
theorem dX4_write_53 : decode cX4_write 53 = .ok (.invokevirtual 111, 3) := by decide +kernel
theorem dX4_write_56 : decode cX4_write 56 = .ok (.ireturn, 1) := by decide +kernel
set_option maxRecDepth 20000 in
theorem ggX4_strike_X1_size : GoodIn wsX4_strike wsX1_size := goodIn_r _ [8, 9, 104, 105] (by decide +kernel) (by decide +kernel)
set_option maxRecDepth 20000 in
theorem gX4_strike_X1_size : GoodIn wsX4_strike (wsV RX4 111 RX1 yX1_size wsX1_size) := goodIn_app (goodIn_of _ (by decide +kernel)) ggX4_strike_X1_size
set_option maxRecDepth 20000 in
theorem ggX4_strike_X1_typeAt : GoodIn wsX4_strike wsX1_typeAt := goodIn_r _ [13, 14, 15, 16, 17, 7, 18, 9, 104, 105] (by decide +kernel) (by decide +kernel)
set_option maxRecDepth 20000 in
theorem gX4_strike_X1_typeAt : GoodIn wsX4_strike (wsV RX4 114 RX1 yX1_typeAt wsX1_typeAt) := goodIn_app (goodIn_of _ (by decide +kernel)) ggX4_strike_X1_typeAt
set_option maxRecDepth 20000 in
theorem ggX4_strike_X1_removeLast : GoodIn wsX4_strike wsX1_removeLast := goodIn_r _ [22, 9, 23, 24, 25, 26, 104, 105] (by decide +kernel) (by decide +kernel)
set_option maxRecDepth 20000 in
theorem gX4_strike_X1_removeLast : GoodIn wsX4_strike (wsV RX4 117 RX1 yX1_removeLast wsX1_removeLast) := goodIn_app (goodIn_of _ (by decide +kernel)) ggX4_strike_X1_removeLast
set_option maxRecDepth 20000 in
theorem ggX4_strike_X4_shorten : GoodIn wsX4_strike wsX4_shorten := goodIn_r _ [31, 32, 3, 33, 34, 35, 36, 37, 38, 39, 40, 41, 42, 43, 44, 25, 45, 46, 47, 5, 6, 7, 8, 9, 48, 49, 50, 51, 52, 53, 54, 55, 56, 57, 58, 59, 60, 61, 62, 63, 64, 65, 66, 67, 68, 69, 70, 71, 72, 15, 16, 17, 18, 73, 11, 12, 13, 14, 74, 75, 76, 77, 78, 79, 80, 81, 82, 83, 84, 85, 86, 87, 88, 89, 90, 91, 92, 93, 94, 95, 96, 97, 98, 99, 100, 101, 102, 103, 106, 107, 108, 109, 110, 104, 105, 111, 112, 113] (by decide +kernel) (by decide +kernel)
set_option maxRecDepth 20000 in
theorem gX4_strike_X4_shorten : GoodIn wsX4_strike (wsV RX4 81 RX4 yX4_shorten wsX4_shorten) := goodIn_app (goodIn_of _ (by decide +kernel)) ggX4_strike_X4_shorten
theorem dX4_strike_0 : decode cX4_strike 0 = .ok (.aload_n 0, 1) := by decide +kernel
theorem dX4_strike_1 : decode cX4_strike 1 = .ok (.getfield 19, 3) := by decide +kernel
theorem dX4_strike_4 : decode cX4_strike 4 = .ok (.invokevirtual 111, 3) := by decide +kernel
theorem dX4_strike_7 : decode cX4_strike 7 = .ok (.ifCond .ne 13, 3) := by decide +kernel
theorem dX4_strike_10 : decode cX4_strike 10 = .ok (.new 66, 3) := by decide +kernel
theorem dX4_strike_13 : decode cX4_strike 13 = .ok (.dup, 1) := by decide +kernel
theorem dX4_strike_14 : decode cX4_strike 14 = .ok (.ldc 112, 2) := by decide +kernel
theorem dX4_strike_16 : decode cX4_strike 16 = .ok (.invokespecial 70, 3) := by decide +kernel
theorem dX4_strike_19 : decode cX4_strike 19 = .ok (.athrow, 1) := by decide +kernel
theorem dX4_strike_20 : decode cX4_strike 20 = .ok (.aload_n 0, 1) := by decide +kernel
theorem dX4_strike_21 : decode cX4_strike 21 = .ok (.getfield 19, 3) := by decide +kernel
theorem dX4_strike_24 : decode cX4_strike 24 = .ok (.aload_n 0, 1) := by decide +kernel
theorem dX4_strike_25 : decode cX4_strike 25 = .ok (.getfield 19, 3) := by decide +kernel
theorem dX4_strike_28 : decode cX4_strike 28 = .ok (.invokevirtual 111, 3) := by decide +kernel
theorem dX4_strike_31 : decode cX4_strike 31 = .ok (.iconst 1, 1) := by decide +kernel
theorem dX4_strike_32 : decode cX4_strike 32 = .ok (.isub, 1) := by decide +kernel
theorem dX4_strike_33 : decode cX4_strike 33 = .ok (.invokevirtual 114, 3) := by decide +kernel
theorem dX4_strike_36 : decode cX4_strike 36 = .ok (.istore_n 1, 1) := by decide +kernel
theorem dX4_strike_37 : decode cX4_strike 37 = .ok (.aload_n 0, 1) := by decide +kernel
theorem dX4_strike_38 : decode cX4_strike 38 = .ok (.getfield 19, 3) := by decide +kernel
theorem dX4_strike_41 : decode cX4_strike 41 = .ok (.invokevirtual 117, 3) := by decide +kernel
theorem dX4_strike_44 : decode cX4_strike 44 = .ok (.aload_n 0, 1) := by decide +kernel
theorem dX4_strike_45 : decode cX4_strike 45 = .ok (.invokevirtual 81, 3) := by decide +kernel
theorem dX4_strike_48 : decode cX4_strike 48 = .ok (.iload_n 1, 1) := by decide +kernel
theorem dX4_strike_49 : decode cX4_strike 49 = .ok (.ireturn, 1) := by decide +kernel
set_option maxRecDepth 20000 in
theorem ggX4_clear_X1_size : GoodIn wsX4_clear wsX1_size := goodIn_r _ [6, 7, 98, 99] (by decide +kernel) (by decide +kernel)
set_option maxRecDepth 20000 in
theorem gX4_clear_X1_size : GoodIn wsX4_clear (wsV RX4 111 RX1 yX1_size wsX1_size) := goodIn_app (goodIn_of _ (by decide +kernel)) ggX4_clear_X1_size
set_option maxRecDepth 20000 in
theorem ggX4_clear_X1_removeAll : GoodIn wsX4_clear wsX1_removeAll := goodIn_r _ [11, 7, 98, 99] (by decide +kernel) (by decide +kernel)
set_option maxRecDepth 20000 in
theorem gX4_clear_X1_removeAll : GoodIn wsX4_clear (wsV RX4 120 RX1 yX1_removeAll wsX1_removeAll) := goodIn_app (goodIn_of _ (by decide +kernel)) ggX4_clear_X1_removeAll
set_option maxRecDepth 20000 in
theorem ggX4_clear_X4_shorten : GoodIn wsX4_clear wsX4_shorten := goodIn_r _ [16, 17, 1, 18, 19, 20, 21, 22, 23, 24, 25, 26, 27, 28, 29, 30, 31, 32, 33, 3, 4, 5, 6, 7, 34, 35, 36, 37, 38, 39, 40, 41, 42, 43, 44, 45, 46, 47, 48, 49, 50, 51, 52, 53, 54, 55, 56, 57, 58, 59, 60, 61, 62, 63, 64, 65, 66, 67, 68, 69, 70, 71, 72, 73, 74, 75, 76, 77, 78, 79, 80, 81, 82, 83, 84, 85, 86, 87, 88, 89, 90, 91, 92, 93, 94, 95, 96, 97, 100, 101, 102, 103, 104, 98, 99, 105, 106, 107] (by decide +kernel) (by decide +kernel)
set_option maxRecDepth 20000 in
theorem gX4_clear_X4_shorten : GoodIn wsX4_clear (wsV RX4 81 RX4 yX4_shorten wsX4_shorten) := goodIn_app (goodIn_of _ (by decide +kernel)) ggX4_clear_X4_shorten
theorem dX4_clear_0 : decode cX4_clear 0 = .ok (.aload_n 0, 1) := by decide +kernel
theorem dX4_clear_1 : decode cX4_clear 1 = .ok (.getfield 19, 3) := by decide +kernel
theorem dX4_clear_4 : decode cX4_clear 4 = .ok (.invokevirtual 111, 3) := by decide +kernel
theorem dX4_clear_7 : decode cX4_clear 7 = .ok (.istore_n 1, 1) := by decide +kernel
theorem dX4_clear_8 : decode cX4_clear 8 = .ok (.aload_n 0, 1) := by decide +kernel
theorem dX4_clear_9 : decode cX4_clear 9 = .ok (.getfield 19, 3) := by decide +kernel
theorem dX4_clear_12 : decode cX4_clear 12 = .ok (.invokevirtual 120, 3) := by decide +kernel
theorem dX4_clear_15 : decode cX4_clear 15 = .ok (.aload_n 0, 1) := by decide +kernel
theorem dX4_clear_16 : decode cX4_clear 16 = .ok (.invokevirtual 81, 3) := by decide +kernel
theorem dX4_clear_19 : decode cX4_clear 19 = .ok (.iload_n 1, 1) := by decide +kernel
theorem dX4_clear_20 : decode cX4_clear 20 = .ok (.ireturn, 1) := by decide +kernel
set_option maxRecDepth 20000 in
theorem ggX4_words_X1_size : GoodIn wsX4_words wsX1_size := goodIn_r _ [6, 7, 18, 19] (by decide +kernel) (by decide +kernel)
set_option maxRecDepth 20000 in
theorem gX4_words_X1_size : GoodIn wsX4_words (wsV RX4 111 RX1 yX1_size wsX1_size) := goodIn_app (goodIn_of _ (by decide +kernel)) ggX4_words_X1_size
theorem dX4_words_0 : decode cX4_words 0 = .ok (.aload_n 0, 1) := by decide +kernel
theorem dX4_words_1 : decode cX4_words 1 = .ok (.getfield 19, 3) := by decide +kernel
theorem dX4_words_4 : decode cX4_words 4 = .ok (.invokevirtual 111, 3) := by decide +kernel
theorem dX4_words_7 : decode cX4_words 7 = .ok (.ireturn, 1) := by decide +kernel
set_option maxRecDepth 20000 in
theorem ggX4_typeOf_X1_has : GoodIn wsX4_typeOf wsX1_has := goodIn_r _ [8, 9, 26, 27] (by decide +kernel) (by decide +kernel)
set_option maxRecDepth 20000 in
theorem gX4_typeOf_X1_has : GoodIn wsX4_typeOf (wsV RX4 123 RX1 yX1_has wsX1_has) := goodIn_app (goodIn_of _ (by decide +kernel)) ggX4_typeOf_X1_has
set_option maxRecDepth 20000 in
theorem ggX4_typeOf_X1_typeAt : GoodIn wsX4_typeOf wsX1_typeAt := goodIn_r _ [13, 14, 15, 5, 6, 7, 8, 9, 26, 27] (by decide +kernel) (by decide +kernel)
set_option maxRecDepth 20000 in
theorem gX4_typeOf_X1_typeAt : GoodIn wsX4_typeOf (wsV RX4 114 RX1 yX1_typeAt wsX1_typeAt) := goodIn_app (goodIn_of _ (by decide +kernel)) ggX4_typeOf_X1_typeAt
theorem dX4_typeOf_0 : decode cX4_typeOf 0 = .ok (.aload_n 0, 1) := by decide +kernel
theorem dX4_typeOf_1 : decode cX4_typeOf 1 = .ok (.getfield 19, 3) := by decide +kernel
theorem dX4_typeOf_4 : decode cX4_typeOf 4 = .ok (.iload_n 1, 1) := by decide +kernel
theorem dX4_typeOf_5 : decode cX4_typeOf 5 = .ok (.invokevirtual 123, 3) := by decide +kernel
theorem dX4_typeOf_8 : decode cX4_typeOf 8 = .ok (.ifCond .ne 13, 3) := by decide +kernel
theorem dX4_typeOf_11 : decode cX4_typeOf 11 = .ok (.new 91, 3) := by decide +kernel
theorem dX4_typeOf_14 : decode cX4_typeOf 14 = .ok (.dup, 1) := by decide +kernel
theorem dX4_typeOf_15 : decode cX4_typeOf 15 = .ok (.ldc 124, 2) := by decide +kernel
theorem dX4_typeOf_17 : decode cX4_typeOf 17 = .ok (.invokespecial 95, 3) := by decide +kernel
theorem dX4_typeOf_20 : decode cX4_typeOf 20 = .ok (.athrow, 1) := by decide +kernel
theorem dX4_typeOf_21 : decode cX4_typeOf 21 = .ok (.aload_n 0, 1) := by decide +kernel
theorem dX4_typeOf_22 : decode cX4_typeOf 22 = .ok (.getfield 19, 3) := by decide +kernel
theorem dX4_typeOf_25 : decode cX4_typeOf 25 = .ok (.iload_n 1, 1) := by decide +kernel
theorem dX4_typeOf_26 : decode cX4_typeOf 26 = .ok (.invokevirtual 114, 3) := by decide +kernel
theorem dX4_typeOf_29 : decode cX4_typeOf 29 = .ok (.ireturn, 1) := by decide +kernel
set_option maxRecDepth 20000 in
theorem ggX4_groups_X2_size : GoodIn wsX4_groups wsX2_size := goodIn_r _ [6, 7, 18, 19, 20, 21, 22] (by decide +kernel) (by decide +kernel)
set_option maxRecDepth 20000 in
theorem gX4_groups_X2_size : GoodIn wsX4_groups (wsV RX4 126 RX2 yX2_size wsX2_size) := goodIn_app (goodIn_of _ (by decide +kernel)) ggX4_groups_X2_size
theorem dX4_groups_0 : decode cX4_groups 0 = .ok (.aload_n 0, 1) := by decide +kernel
theorem dX4_groups_1 : decode cX4_groups 1 = .ok (.getfield 26, 3) := by decide +kernel
theorem dX4_groups_4 : decode cX4_groups 4 = .ok (.invokevirtual 126, 3) := by decide +kernel
theorem dX4_groups_7 : decode cX4_groups 7 = .ok (.ireturn, 1) := by decide +kernel
set_option maxRecDepth 20000 in
theorem ggX4_codeOf_X2_has : GoodIn wsX4_codeOf wsX2_has := goodIn_r _ [8, 9, 31, 32, 33, 34, 35] (by decide +kernel) (by decide +kernel)
set_option maxRecDepth 20000 in
theorem gX4_codeOf_X2_has : GoodIn wsX4_codeOf (wsV RX4 127 RX2 yX2_has wsX2_has) := goodIn_app (goodIn_of _ (by decide +kernel)) ggX4_codeOf_X2_has
set_option maxRecDepth 20000 in
theorem ggX4_codeOf_X2_codeAt : GoodIn wsX4_codeOf wsX2_codeAt := goodIn_r _ [13, 14, 15, 16, 17, 7, 18, 19, 20, 5, 6, 8, 9, 31, 32, 33, 34, 35] (by decide +kernel) (by decide +kernel)
set_option maxRecDepth 20000 in
theorem gX4_codeOf_X2_codeAt : GoodIn wsX4_codeOf (wsV RX4 130 RX2 yX2_codeAt wsX2_codeAt) := goodIn_app (goodIn_of _ (by decide +kernel)) ggX4_codeOf_X2_codeAt
theorem dX4_codeOf_0 : decode cX4_codeOf 0 = .ok (.aload_n 0, 1) := by decide +kernel
theorem dX4_codeOf_1 : decode cX4_codeOf 1 = .ok (.getfield 26, 3) := by decide +kernel
theorem dX4_codeOf_4 : decode cX4_codeOf 4 = .ok (.iload_n 1, 1) := by decide +kernel
theorem dX4_codeOf_5 : decode cX4_codeOf 5 = .ok (.invokevirtual 127, 3) := by decide +kernel
theorem dX4_codeOf_8 : decode cX4_codeOf 8 = .ok (.ifCond .ne 13, 3) := by decide +kernel
theorem dX4_codeOf_11 : decode cX4_codeOf 11 = .ok (.new 91, 3) := by decide +kernel
theorem dX4_codeOf_14 : decode cX4_codeOf 14 = .ok (.dup, 1) := by decide +kernel
theorem dX4_codeOf_15 : decode cX4_codeOf 15 = .ok (.ldc 128, 2) := by decide +kernel
theorem dX4_codeOf_17 : decode cX4_codeOf 17 = .ok (.invokespecial 95, 3) := by decide +kernel
theorem dX4_codeOf_20 : decode cX4_codeOf 20 = .ok (.athrow, 1) := by decide +kernel
theorem dX4_codeOf_21 : decode cX4_codeOf 21 = .ok (.aload_n 0, 1) := by decide +kernel
theorem dX4_codeOf_22 : decode cX4_codeOf 22 = .ok (.getfield 26, 3) := by decide +kernel
theorem dX4_codeOf_25 : decode cX4_codeOf 25 = .ok (.iload_n 1, 1) := by decide +kernel
theorem dX4_codeOf_26 : decode cX4_codeOf 26 = .ok (.invokevirtual 130, 3) := by decide +kernel
theorem dX4_codeOf_29 : decode cX4_codeOf 29 = .ok (.ireturn, 1) := by decide +kernel
set_option maxRecDepth 20000 in
theorem ggX4_startOf_X2_has : GoodIn wsX4_startOf wsX2_has := goodIn_r _ [8, 9, 26, 27, 28, 29, 30] (by decide +kernel) (by decide +kernel)
set_option maxRecDepth 20000 in
theorem gX4_startOf_X2_has : GoodIn wsX4_startOf (wsV RX4 127 RX2 yX2_has wsX2_has) := goodIn_app (goodIn_of _ (by decide +kernel)) ggX4_startOf_X2_has
set_option maxRecDepth 20000 in
theorem ggX4_startOf_X2_startAt : GoodIn wsX4_startOf wsX2_startAt := goodIn_r _ [13, 14, 15, 5, 6, 7, 8, 9, 26, 27, 28, 29, 30] (by decide +kernel) (by decide +kernel)
set_option maxRecDepth 20000 in
theorem gX4_startOf_X2_startAt : GoodIn wsX4_startOf (wsV RX4 133 RX2 yX2_startAt wsX2_startAt) := goodIn_app (goodIn_of _ (by decide +kernel)) ggX4_startOf_X2_startAt
theorem dX4_startOf_0 : decode cX4_startOf 0 = .ok (.aload_n 0, 1) := by decide +kernel
theorem dX4_startOf_1 : decode cX4_startOf 1 = .ok (.getfield 26, 3) := by decide +kernel
theorem dX4_startOf_4 : decode cX4_startOf 4 = .ok (.iload_n 1, 1) := by decide +kernel
theorem dX4_startOf_5 : decode cX4_startOf 5 = .ok (.invokevirtual 127, 3) := by decide +kernel
theorem dX4_startOf_8 : decode cX4_startOf 8 = .ok (.ifCond .ne 13, 3) := by decide +kernel
theorem dX4_startOf_11 : decode cX4_startOf 11 = .ok (.new 91, 3) := by decide +kernel
theorem dX4_startOf_14 : decode cX4_startOf 14 = .ok (.dup, 1) := by decide +kernel
theorem dX4_startOf_15 : decode cX4_startOf 15 = .ok (.ldc 128, 2) := by decide +kernel
theorem dX4_startOf_17 : decode cX4_startOf 17 = .ok (.invokespecial 95, 3) := by decide +kernel
theorem dX4_startOf_20 : decode cX4_startOf 20 = .ok (.athrow, 1) := by decide +kernel
theorem dX4_startOf_21 : decode cX4_startOf 21 = .ok (.aload_n 0, 1) := by decide +kernel
theorem dX4_startOf_22 : decode cX4_startOf 22 = .ok (.getfield 26, 3) := by decide +kernel
theorem dX4_startOf_25 : decode cX4_startOf 25 = .ok (.iload_n 1, 1) := by decide +kernel
theorem dX4_startOf_26 : decode cX4_startOf 26 = .ok (.invokevirtual 133, 3) := by decide +kernel
theorem dX4_startOf_29 : decode cX4_startOf 29 = .ok (.ireturn, 1) := by decide +kernel
set_option maxRecDepth 20000 in
theorem ggX4_usesOf_X0_has : GoodIn wsX4_usesOf wsX0_has := goodIn_r _ [9, 10, 41, 42, 43] (by decide +kernel) (by decide +kernel)
set_option maxRecDepth 20000 in
theorem gX4_usesOf_X0_has : GoodIn wsX4_usesOf (wsV RX4 88 RX0 yX0_has wsX0_has) := goodIn_app (goodIn_of _ (by decide +kernel)) ggX4_usesOf_X0_has
set_option maxRecDepth 20000 in
theorem ggX4_usesOf_X2_groupsWith : GoodIn wsX4_usesOf wsX2_groupsWith := goodIn_r _ [15, 16, 17, 18, 19, 14, 20, 21, 22, 23, 24, 25, 26, 27, 28, 29, 30, 44, 45, 46, 47, 48] (by decide +kernel) (by decide +kernel)
set_option maxRecDepth 20000 in
theorem gX4_usesOf_X2_groupsWith : GoodIn wsX4_usesOf (wsV RX4 136 RX2 yX2_groupsWith wsX2_groupsWith) := goodIn_app (goodIn_of _ (by decide +kernel)) ggX4_usesOf_X2_groupsWith
theorem dX4_usesOf_0 : decode cX4_usesOf 0 = .ok (.aload_n 0, 1) := by decide +kernel
theorem dX4_usesOf_1 : decode cX4_usesOf 1 = .ok (.getfield 10, 3) := by decide +kernel
theorem dX4_usesOf_4 : decode cX4_usesOf 4 = .ok (.iload_n 1, 1) := by decide +kernel
theorem dX4_usesOf_5 : decode cX4_usesOf 5 = .ok (.invokevirtual 88, 3) := by decide +kernel
theorem dX4_usesOf_8 : decode cX4_usesOf 8 = .ok (.ifCond .ne 13, 3) := by decide +kernel
theorem dX4_usesOf_11 : decode cX4_usesOf 11 = .ok (.new 91, 3) := by decide +kernel
theorem dX4_usesOf_14 : decode cX4_usesOf 14 = .ok (.dup, 1) := by decide +kernel
theorem dX4_usesOf_15 : decode cX4_usesOf 15 = .ok (.ldc 93, 2) := by decide +kernel
theorem dX4_usesOf_17 : decode cX4_usesOf 17 = .ok (.invokespecial 95, 3) := by decide +kernel
theorem dX4_usesOf_20 : decode cX4_usesOf 20 = .ok (.athrow, 1) := by decide +kernel
theorem dX4_usesOf_21 : decode cX4_usesOf 21 = .ok (.aload_n 0, 1) := by decide +kernel
theorem dX4_usesOf_22 : decode cX4_usesOf 22 = .ok (.getfield 26, 3) := by decide +kernel
theorem dX4_usesOf_25 : decode cX4_usesOf 25 = .ok (.iload_n 1, 1) := by decide +kernel
theorem dX4_usesOf_26 : decode cX4_usesOf 26 = .ok (.invokevirtual 136, 3) := by decide +kernel
theorem dX4_usesOf_29 : decode cX4_usesOf 29 = .ok (.ireturn, 1) := by decide +kernel
set_option maxRecDepth 20000 in
theorem ggX4_counted_X2_size : GoodIn wsX4_counted wsX2_size := goodIn_r _ [7, 8, 49, 50, 51, 52, 53] (by decide +kernel) (by decide +kernel)
set_option maxRecDepth 20000 in
theorem gX4_counted_X2_size : GoodIn wsX4_counted (wsV RX4 126 RX2 yX2_size wsX2_size) := goodIn_app (goodIn_of _ (by decide +kernel)) ggX4_counted_X2_size
set_option maxRecDepth 20000 in
theorem ggX4_counted_X2_codeAt : GoodIn wsX4_counted wsX2_codeAt := goodIn_r _ [12, 13, 14, 15, 16, 6, 17, 18, 19, 20, 21, 22, 8, 49, 50, 51, 52, 53] (by decide +kernel) (by decide +kernel)
set_option maxRecDepth 20000 in
theorem gX4_counted_X2_codeAt : GoodIn wsX4_counted (wsV RX4 130 RX2 yX2_codeAt wsX2_codeAt) := goodIn_app (goodIn_of _ (by decide +kernel)) ggX4_counted_X2_codeAt
set_option maxRecDepth 20000 in
theorem ggX4_counted_X2_startAt : GoodIn wsX4_counted wsX2_startAt := goodIn_r _ [17, 18, 19, 20, 21, 6, 22, 8, 49, 50, 51, 52, 53] (by decide +kernel) (by decide +kernel)
set_option maxRecDepth 20000 in
theorem gX4_counted_X2_startAt : GoodIn wsX4_counted (wsV RX4 133 RX2 yX2_startAt wsX2_startAt) := goodIn_app (goodIn_of _ (by decide +kernel)) ggX4_counted_X2_startAt
set_option maxRecDepth 20000 in
theorem ggX4_counted_X1_countOf : GoodIn wsX4_counted wsX1_countOf := goodIn_r _ [28, 29, 30, 31, 27, 32, 33, 34, 35, 36, 37, 38, 54, 55] (by decide +kernel) (by decide +kernel)
set_option maxRecDepth 20000 in
theorem gX4_counted_X1_countOf : GoodIn wsX4_counted (wsV RX4 139 RX1 yX1_countOf wsX1_countOf) := goodIn_app (goodIn_of _ (by decide +kernel)) ggX4_counted_X1_countOf
theorem dX4_counted_0 : decode cX4_counted 0 = .ok (.iconst 0, 1) := by decide +kernel
theorem dX4_counted_1 : decode cX4_counted 1 = .ok (.istore_n 1, 1) := by decide +kernel
theorem dX4_counted_2 : decode cX4_counted 2 = .ok (.iconst 0, 1) := by decide +kernel
theorem dX4_counted_3 : decode cX4_counted 3 = .ok (.istore_n 2, 1) := by decide +kernel
theorem dX4_counted_4 : decode cX4_counted 4 = .ok (.iload_n 2, 1) := by decide +kernel
theorem dX4_counted_5 : decode cX4_counted 5 = .ok (.aload_n 0, 1) := by decide +kernel
theorem dX4_counted_6 : decode cX4_counted 6 = .ok (.getfield 26, 3) := by decide +kernel
theorem dX4_counted_9 : decode cX4_counted 9 = .ok (.invokevirtual 126, 3) := by decide +kernel
theorem dX4_counted_12 : decode cX4_counted 12 = .ok (.if_icmp .ge 53, 3) := by decide +kernel
theorem dX4_counted_15 : decode cX4_counted 15 = .ok (.aload_n 0, 1) := by decide +kernel
theorem dX4_counted_16 : decode cX4_counted 16 = .ok (.getfield 26, 3) := by decide +kernel
theorem dX4_counted_19 : decode cX4_counted 19 = .ok (.iload_n 2, 1) := by decide +kernel
theorem dX4_counted_20 : decode cX4_counted 20 = .ok (.invokevirtual 130, 3) := by decide +kernel
theorem dX4_counted_23 : decode cX4_counted 23 = .ok (.iconst (-1), 1) := by decide +kernel
theorem dX4_counted_24 : decode cX4_counted 24 = .ok (.if_icmp .ne 7, 3) := by decide +kernel
theorem dX4_counted_27 : decode cX4_counted 27 = .ok (.iconst 1, 1) := by decide +kernel
theorem dX4_counted_28 : decode cX4_counted 28 = .ok (.goto 4, 3) := by decide +kernel
theorem dX4_counted_31 : decode cX4_counted 31 = .ok (.iconst 0, 1) := by decide +kernel
theorem dX4_counted_32 : decode cX4_counted 32 = .ok (.istore_n 3, 1) := by decide +kernel
theorem dX4_counted_33 : decode cX4_counted 33 = .ok (.iload_n 1, 1) := by decide +kernel
theorem dX4_counted_34 : decode cX4_counted 34 = .ok (.iload_n 3, 1) := by decide +kernel
theorem dX4_counted_35 : decode cX4_counted 35 = .ok (.ifCond .eq 21, 3) := by decide +kernel
theorem dX4_counted_38 : decode cX4_counted 38 = .ok (.aload_n 0, 1) := by decide +kernel
theorem dX4_counted_39 : decode cX4_counted 39 = .ok (.getfield 19, 3) := by decide +kernel
theorem dX4_counted_42 : decode cX4_counted 42 = .ok (.aload_n 0, 1) := by decide +kernel
theorem dX4_counted_43 : decode cX4_counted 43 = .ok (.getfield 26, 3) := by decide +kernel
theorem dX4_counted_46 : decode cX4_counted 46 = .ok (.iload_n 2, 1) := by decide +kernel
theorem dX4_counted_47 : decode cX4_counted 47 = .ok (.invokevirtual 133, 3) := by decide +kernel
theorem dX4_counted_50 : decode cX4_counted 50 = .ok (.invokevirtual 139, 3) := by decide +kernel
theorem dX4_counted_53 : decode cX4_counted 53 = .ok (.goto 4, 3) := by decide +kernel
theorem dX4_counted_56 : decode cX4_counted 56 = .ok (.iconst 1, 1) := by decide +kernel
theorem dX4_counted_57 : decode cX4_counted 57 = .ok (.iadd, 1) := by decide +kernel
theorem dX4_counted_58 : decode cX4_counted 58 = .ok (.istore_n 1, 1) := by decide +kernel
theorem dX4_counted_59 : decode cX4_counted 59 = .ok (.iinc 2 1, 3) := by decide +kernel
theorem dX4_counted_62 : decode cX4_counted 62 = .ok (.goto (-58), 3) := by decide +kernel
theorem dX4_counted_65 : decode cX4_counted 65 = .ok (.iload_n 1, 1) := by decide +kernel
theorem dX4_counted_66 : decode cX4_counted 66 = .ok (.ireturn, 1) := by decide +kernel
set_option maxRecDepth 20000 in
theorem ggX4_cost_X4_counted : GoodIn wsX4_cost wsX4_counted := goodIn_r _ [5, 6, 7, 8, 9, 10, 11, 12, 13, 14, 15, 16, 17, 18, 19, 20, 21, 22, 23, 24, 25, 26, 27, 28, 29, 30, 31, 32, 33, 34, 35, 36, 37, 38, 39, 40, 41, 42, 43, 56, 57, 58, 59, 60, 61, 62, 63, 64, 65, 66, 67, 68, 69, 70, 71, 72] (by decide +kernel) (by decide +kernel)
set_option maxRecDepth 20000 in
theorem gX4_cost_X4_counted : GoodIn wsX4_cost (wsV RX4 142 RX4 yX4_counted wsX4_counted) := goodIn_app (goodIn_of _ (by decide +kernel)) ggX4_cost_X4_counted
set_option maxRecDepth 20000 in
theorem ggX4_cost_X4_costOf : GoodIn wsX4_cost wsX4_costOf := goodIn_r _ [47, 7, 48, 49, 50, 51, 52, 53, 54, 32, 55, 43, 56, 57, 58, 59, 60, 61, 62, 63, 64, 65, 71, 72] (by decide +kernel) (by decide +kernel)
set_option maxRecDepth 20000 in
theorem gX4_cost_X4_costOf : GoodIn wsX4_cost (wsV RX4 145 RX4 yX4_costOf wsX4_costOf) := goodIn_app (goodIn_of _ (by decide +kernel)) ggX4_cost_X4_costOf
theorem dX4_cost_0 : decode cX4_cost 0 = .ok (.aload_n 0, 1) := by decide +kernel
theorem dX4_cost_1 : decode cX4_cost 1 = .ok (.aload_n 0, 1) := by decide +kernel
theorem dX4_cost_2 : decode cX4_cost 2 = .ok (.invokevirtual 142, 3) := by decide +kernel
theorem dX4_cost_5 : decode cX4_cost 5 = .ok (.invokevirtual 145, 3) := by decide +kernel
theorem dX4_cost_8 : decode cX4_cost 8 = .ok (.ireturn, 1) := by decide +kernel
set_option maxRecDepth 20000 in
theorem ggX4_saved_X1_countOfAll : GoodIn wsX4_saved wsX1_countOfAll := goodIn_r _ [6, 7, 8, 9, 10, 5, 11, 12, 13, 14, 15, 16, 17, 18, 19, 20, 75, 76] (by decide +kernel) (by decide +kernel)
set_option maxRecDepth 20000 in
theorem gX4_saved_X1_countOfAll : GoodIn wsX4_saved (wsV RX4 148 RX1 yX1_countOfAll wsX1_countOfAll) := goodIn_app (goodIn_of _ (by decide +kernel)) ggX4_saved_X1_countOfAll
set_option maxRecDepth 20000 in
theorem ggX4_saved_X4_costOf : GoodIn wsX4_saved wsX4_costOf := goodIn_r _ [25, 1, 26, 27, 28, 29, 30, 31, 32, 5, 33, 7, 65, 66, 67, 68, 69, 70, 71, 72, 73, 74, 75, 76] (by decide +kernel) (by decide +kernel)
set_option maxRecDepth 20000 in
theorem gX4_saved_X4_costOf : GoodIn wsX4_saved (wsV RX4 145 RX4 yX4_costOf wsX4_costOf) := goodIn_app (goodIn_of _ (by decide +kernel)) ggX4_saved_X4_costOf
set_option maxRecDepth 20000 in
theorem ggX4_saved_X4_cost : GoodIn wsX4_saved wsX4_cost := goodIn_r _ [37, 38, 39, 40, 24, 41, 42, 1, 43, 44, 45, 46, 47, 48, 49, 50, 51, 52, 53, 54, 55, 56, 57, 58, 59, 60, 61, 62, 63, 64, 9, 10, 5, 11, 12, 13, 14, 15, 16, 17, 18, 19, 20, 7, 21, 22, 23, 25, 26, 27, 28, 29, 30, 31, 32, 33, 65, 66, 67, 68, 69, 70, 71, 72, 73, 74, 77, 78, 79, 80, 81, 75, 76] (by decide +kernel) (by decide +kernel)
set_option maxRecDepth 20000 in
theorem gX4_saved_X4_cost : GoodIn wsX4_saved (wsV RX4 151 RX4 yX4_cost wsX4_cost) := goodIn_app (goodIn_of _ (by decide +kernel)) ggX4_saved_X4_cost
theorem dX4_saved_0 : decode cX4_saved 0 = .ok (.aload_n 0, 1) := by decide +kernel
theorem dX4_saved_1 : decode cX4_saved 1 = .ok (.aload_n 0, 1) := by decide +kernel
theorem dX4_saved_2 : decode cX4_saved 2 = .ok (.getfield 19, 3) := by decide +kernel
theorem dX4_saved_5 : decode cX4_saved 5 = .ok (.invokevirtual 148, 3) := by decide +kernel
theorem dX4_saved_8 : decode cX4_saved 8 = .ok (.invokevirtual 145, 3) := by decide +kernel
theorem dX4_saved_11 : decode cX4_saved 11 = .ok (.aload_n 0, 1) := by decide +kernel
theorem dX4_saved_12 : decode cX4_saved 12 = .ok (.invokevirtual 151, 3) := by decide +kernel
theorem dX4_saved_15 : decode cX4_saved 15 = .ok (.isub, 1) := by decide +kernel
theorem dX4_saved_16 : decode cX4_saved 16 = .ok (.ireturn, 1) := by decide +kernel
theorem dX4_setQuality_0 : decode cX4_setQuality 0 = .ok (.iload_n 1, 1) := by decide +kernel
theorem dX4_setQuality_1 : decode cX4_setQuality 1 = .ok (.iconst 1, 1) := by decide +kernel
theorem dX4_setQuality_2 : decode cX4_setQuality 2 = .ok (.if_icmp .lt 9, 3) := by decide +kernel
theorem dX4_setQuality_5 : decode cX4_setQuality 5 = .ok (.iload_n 1, 1) := by decide +kernel
theorem dX4_setQuality_6 : decode cX4_setQuality 6 = .ok (.bipush 9, 2) := by decide +kernel
theorem dX4_setQuality_8 : decode cX4_setQuality 8 = .ok (.if_icmp .le 13, 3) := by decide +kernel
theorem dX4_setQuality_11 : decode cX4_setQuality 11 = .ok (.new 48, 3) := by decide +kernel
theorem dX4_setQuality_14 : decode cX4_setQuality 14 = .ok (.dup, 1) := by decide +kernel
theorem dX4_setQuality_15 : decode cX4_setQuality 15 = .ok (.ldc 154, 2) := by decide +kernel
theorem dX4_setQuality_17 : decode cX4_setQuality 17 = .ok (.invokespecial 52, 3) := by decide +kernel
theorem dX4_setQuality_20 : decode cX4_setQuality 20 = .ok (.athrow, 1) := by decide +kernel
theorem dX4_setQuality_21 : decode cX4_setQuality 21 = .ok (.aload_n 0, 1) := by decide +kernel
theorem dX4_setQuality_22 : decode cX4_setQuality 22 = .ok (.getfield 40, 3) := by decide +kernel
theorem dX4_setQuality_25 : decode cX4_setQuality 25 = .ok (.istore_n 2, 1) := by decide +kernel
theorem dX4_setQuality_26 : decode cX4_setQuality 26 = .ok (.aload_n 0, 1) := by decide +kernel
theorem dX4_setQuality_27 : decode cX4_setQuality 27 = .ok (.iload_n 1, 1) := by decide +kernel
theorem dX4_setQuality_28 : decode cX4_setQuality 28 = .ok (.putfield 40, 3) := by decide +kernel
theorem dX4_setQuality_31 : decode cX4_setQuality 31 = .ok (.iload_n 2, 1) := by decide +kernel
theorem dX4_setQuality_32 : decode cX4_setQuality 32 = .ok (.ireturn, 1) := by decide +kernel
set_option maxRecDepth 20000 in
theorem ggX4_send_X1_size : GoodIn wsX4_send wsX1_size := goodIn_r _ [15, 16, 173, 174] (by decide +kernel) (by decide +kernel)
set_option maxRecDepth 20000 in
theorem gX4_send_X1_size : GoodIn wsX4_send (wsV RX4 111 RX1 yX1_size wsX1_size) := goodIn_app (goodIn_of _ (by decide +kernel)) ggX4_send_X1_size
set_option maxRecDepth 20000 in
theorem ggX4_send_X4_cost : GoodIn wsX4_send wsX4_cost := goodIn_r _ [21, 22, 23, 24, 20, 25, 6, 3, 26, 27, 28, 29, 30, 31, 32, 33, 34, 35, 36, 37, 38, 39, 40, 41, 42, 43, 44, 45, 46, 47, 48, 49, 14, 50, 51, 52, 53, 54, 55, 56, 57, 58, 59, 16, 60, 61, 62, 63, 64, 65, 66, 67, 11, 12, 13, 15, 163, 164, 165, 166, 167, 168, 169, 170, 171, 172, 175, 176, 177, 178, 179, 173, 174] (by decide +kernel) (by decide +kernel)
set_option maxRecDepth 20000 in
theorem gX4_send_X4_cost : GoodIn wsX4_send (wsV RX4 151 RX4 yX4_cost wsX4_cost) := goodIn_app (goodIn_of _ (by decide +kernel)) ggX4_send_X4_cost
set_option maxRecDepth 20000 in
theorem ggX4_send_X2_size : GoodIn wsX4_send wsX2_size := goodIn_r _ [30, 31, 175, 176, 177, 178, 179] (by decide +kernel) (by decide +kernel)
set_option maxRecDepth 20000 in
theorem gX4_send_X2_size : GoodIn wsX4_send (wsV RX4 126 RX2 yX2_size wsX2_size) := goodIn_app (goodIn_of _ (by decide +kernel)) ggX4_send_X2_size
set_option maxRecDepth 20000 in
theorem ggX4_send_X3_run : GoodIn wsX4_send wsX3_run := goodIn_r _ [72, 73, 74, 75, 76, 77, 78, 79, 71, 80, 81, 82, 83, 84, 85, 20, 86, 180, 181, 182, 183] (by decide +kernel) (by decide +kernel)
set_option maxRecDepth 20000 in
theorem gX4_send_X3_run : GoodIn wsX4_send (wsV RX4 162 RX3 yX3_run wsX3_run) := goodIn_app (goodIn_of _ (by decide +kernel)) ggX4_send_X3_run
set_option maxRecDepth 20000 in
theorem ggX4_send_X3_sentAtEnd : GoodIn wsX4_send wsX3_sentAtEnd := goodIn_r _ [90, 73, 180, 181, 182, 183] (by decide +kernel) (by decide +kernel)
set_option maxRecDepth 20000 in
theorem gX4_send_X3_sentAtEnd : GoodIn wsX4_send (wsV RX4 166 RX3 yX3_sentAtEnd wsX3_sentAtEnd) := goodIn_app (goodIn_of _ (by decide +kernel)) ggX4_send_X3_sentAtEnd
set_option maxRecDepth 20000 in
theorem ggX4_send_X3_repeatsAsked : GoodIn wsX4_send wsX3_repeatsAsked := goodIn_r _ [94, 75, 180, 181, 182, 183] (by decide +kernel) (by decide +kernel)
set_option maxRecDepth 20000 in
theorem gX4_send_X3_repeatsAsked : GoodIn wsX4_send (wsV RX4 172 RX3 yX3_repeatsAsked wsX3_repeatsAsked) := goodIn_app (goodIn_of _ (by decide +kernel)) ggX4_send_X3_repeatsAsked
set_option maxRecDepth 20000 in
theorem ggX4_send_X3_groupsLost : GoodIn wsX4_send wsX3_groupsLost := goodIn_r _ [98, 76, 180, 181, 182, 183] (by decide +kernel) (by decide +kernel)
set_option maxRecDepth 20000 in
theorem gX4_send_X3_groupsLost : GoodIn wsX4_send (wsV RX4 178 RX3 yX3_groupsLost wsX3_groupsLost) := goodIn_app (goodIn_of _ (by decide +kernel)) ggX4_send_X3_groupsLost
set_option maxRecDepth 20000 in
theorem ggX4_send_X1_removeAll : GoodIn wsX4_send wsX1_removeAll := goodIn_r _ [102, 16, 173, 174] (by decide +kernel) (by decide +kernel)
set_option maxRecDepth 20000 in
theorem gX4_send_X1_removeAll : GoodIn wsX4_send (wsV RX4 120 RX1 yX1_removeAll wsX1_removeAll) := goodIn_app (goodIn_of _ (by decide +kernel)) ggX4_send_X1_removeAll
set_option maxRecDepth 20000 in
theorem ggX4_send_X4_shorten : GoodIn wsX4_send wsX4_shorten := goodIn_r _ [106, 6, 3, 107, 108, 109, 110, 29, 111, 112, 113, 114, 115, 116, 117, 66, 118, 119, 120, 12, 13, 14, 15, 16, 121, 122, 123, 124, 125, 36, 126, 127, 128, 129, 130, 131, 132, 133, 134, 135, 136, 137, 138, 139, 140, 141, 142, 143, 144, 56, 57, 58, 59, 51, 52, 53, 54, 55, 145, 146, 147, 148, 149, 150, 151, 152, 153, 154, 155, 156, 157, 158, 159, 160, 161, 162, 31, 41, 163, 164, 165, 166, 167, 168, 169, 170, 171, 172, 175, 176, 177, 178, 179, 173, 174, 184, 185, 186] (by decide +kernel) (by decide +kernel)
set_option maxRecDepth 20000 in
theorem gX4_send_X4_shorten : GoodIn wsX4_send (wsV RX4 81 RX4 yX4_shorten wsX4_shorten) := goodIn_app (goodIn_of _ (by decide +kernel)) ggX4_send_X4_shorten
theorem dX4_send_0 : decode cX4_send 0 = .ok (.aload_n 0, 1) := by decide +kernel
theorem dX4_send_1 : decode cX4_send 1 = .ok (.getfield 19, 3) := by decide +kernel
theorem dX4_send_4 : decode cX4_send 4 = .ok (.invokevirtual 111, 3) := by decide +kernel
theorem dX4_send_7 : decode cX4_send 7 = .ok (.ifCond .ne 13, 3) := by decide +kernel
theorem dX4_send_10 : decode cX4_send 10 = .ok (.new 66, 3) := by decide +kernel
theorem dX4_send_13 : decode cX4_send 13 = .ok (.dup, 1) := by decide +kernel
theorem dX4_send_14 : decode cX4_send 14 = .ok (.ldc 112, 2) := by decide +kernel
theorem dX4_send_16 : decode cX4_send 16 = .ok (.invokespecial 70, 3) := by decide +kernel
theorem dX4_send_19 : decode cX4_send 19 = .ok (.athrow, 1) := by decide +kernel
theorem dX4_send_20 : decode cX4_send 20 = .ok (.aload_n 0, 1) := by decide +kernel
theorem dX4_send_21 : decode cX4_send 21 = .ok (.dup, 1) := by decide +kernel
theorem dX4_send_22 : decode cX4_send 22 = .ok (.getfield 156, 3) := by decide +kernel
theorem dX4_send_25 : decode cX4_send 25 = .ok (.aload_n 0, 1) := by decide +kernel
theorem dX4_send_26 : decode cX4_send 26 = .ok (.invokevirtual 151, 3) := by decide +kernel
theorem dX4_send_29 : decode cX4_send 29 = .ok (.iadd, 1) := by decide +kernel
theorem dX4_send_30 : decode cX4_send 30 = .ok (.putfield 156, 3) := by decide +kernel
theorem dX4_send_33 : decode cX4_send 33 = .ok (.aload_n 0, 1) := by decide +kernel
theorem dX4_send_34 : decode cX4_send 34 = .ok (.getfield 36, 3) := by decide +kernel
theorem dX4_send_37 : decode cX4_send 37 = .ok (.aload_n 0, 1) := by decide +kernel
theorem dX4_send_38 : decode cX4_send 38 = .ok (.getfield 26, 3) := by decide +kernel
theorem dX4_send_41 : decode cX4_send 41 = .ok (.invokevirtual 126, 3) := by decide +kernel
theorem dX4_send_44 : decode cX4_send 44 = .ok (.aload_n 0, 1) := by decide +kernel
theorem dX4_send_45 : decode cX4_send 45 = .ok (.getfield 159, 3) := by decide +kernel
theorem dX4_send_48 : decode cX4_send 48 = .ok (.aload_n 0, 1) := by decide +kernel
theorem dX4_send_49 : decode cX4_send 49 = .ok (.getfield 40, 3) := by decide +kernel
theorem dX4_send_52 : decode cX4_send 52 = .ok (.invokevirtual 162, 3) := by decide +kernel
theorem dX4_send_55 : decode cX4_send 55 = .ok (.aload_n 0, 1) := by decide +kernel
theorem dX4_send_56 : decode cX4_send 56 = .ok (.aload_n 0, 1) := by decide +kernel
theorem dX4_send_57 : decode cX4_send 57 = .ok (.getfield 36, 3) := by decide +kernel
theorem dX4_send_60 : decode cX4_send 60 = .ok (.invokevirtual 166, 3) := by decide +kernel
theorem dX4_send_63 : decode cX4_send 63 = .ok (.putfield 159, 3) := by decide +kernel
theorem dX4_send_66 : decode cX4_send 66 = .ok (.aload_n 0, 1) := by decide +kernel
theorem dX4_send_67 : decode cX4_send 67 = .ok (.dup, 1) := by decide +kernel
theorem dX4_send_68 : decode cX4_send 68 = .ok (.getfield 169, 3) := by decide +kernel
theorem dX4_send_71 : decode cX4_send 71 = .ok (.aload_n 0, 1) := by decide +kernel
theorem dX4_send_72 : decode cX4_send 72 = .ok (.getfield 36, 3) := by decide +kernel
theorem dX4_send_75 : decode cX4_send 75 = .ok (.invokevirtual 172, 3) := by decide +kernel
theorem dX4_send_78 : decode cX4_send 78 = .ok (.iadd, 1) := by decide +kernel
theorem dX4_send_79 : decode cX4_send 79 = .ok (.putfield 169, 3) := by decide +kernel
theorem dX4_send_82 : decode cX4_send 82 = .ok (.aload_n 0, 1) := by decide +kernel
theorem dX4_send_83 : decode cX4_send 83 = .ok (.dup, 1) := by decide +kernel
theorem dX4_send_84 : decode cX4_send 84 = .ok (.getfield 175, 3) := by decide +kernel
theorem dX4_send_87 : decode cX4_send 87 = .ok (.aload_n 0, 1) := by decide +kernel
theorem dX4_send_88 : decode cX4_send 88 = .ok (.getfield 36, 3) := by decide +kernel
theorem dX4_send_91 : decode cX4_send 91 = .ok (.invokevirtual 178, 3) := by decide +kernel
theorem dX4_send_94 : decode cX4_send 94 = .ok (.iadd, 1) := by decide +kernel
theorem dX4_send_95 : decode cX4_send 95 = .ok (.putfield 175, 3) := by decide +kernel
theorem dX4_send_98 : decode cX4_send 98 = .ok (.aload_n 0, 1) := by decide +kernel
theorem dX4_send_99 : decode cX4_send 99 = .ok (.getfield 19, 3) := by decide +kernel
theorem dX4_send_102 : decode cX4_send 102 = .ok (.invokevirtual 120, 3) := by decide +kernel
theorem dX4_send_105 : decode cX4_send 105 = .ok (.aload_n 0, 1) := by decide +kernel
theorem dX4_send_106 : decode cX4_send 106 = .ok (.invokevirtual 81, 3) := by decide +kernel
theorem dX4_send_109 : decode cX4_send 109 = .ok (.aload_n 0, 1) := by decide +kernel
theorem dX4_send_110 : decode cX4_send 110 = .ok (.getfield 36, 3) := by decide +kernel
theorem dX4_send_113 : decode cX4_send 113 = .ok (.invokevirtual 178, 3) := by decide +kernel
theorem dX4_send_116 : decode cX4_send 116 = .ok (.ireturn, 1) := by decide +kernel
theorem dX4_sentGroups_0 : decode cX4_sentGroups 0 = .ok (.aload_n 0, 1) := by decide +kernel
theorem dX4_sentGroups_1 : decode cX4_sentGroups 1 = .ok (.getfield 159, 3) := by decide +kernel
theorem dX4_sentGroups_4 : decode cX4_sentGroups 4 = .ok (.ireturn, 1) := by decide +kernel
theorem dX4_repeats_0 : decode cX4_repeats 0 = .ok (.aload_n 0, 1) := by decide +kernel
theorem dX4_repeats_1 : decode cX4_repeats 1 = .ok (.getfield 169, 3) := by decide +kernel
theorem dX4_repeats_4 : decode cX4_repeats 4 = .ok (.ireturn, 1) := by decide +kernel
theorem dX4_lost_0 : decode cX4_lost 0 = .ok (.aload_n 0, 1) := by decide +kernel
theorem dX4_lost_1 : decode cX4_lost 1 = .ok (.getfield 175, 3) := by decide +kernel
theorem dX4_lost_4 : decode cX4_lost 4 = .ok (.ireturn, 1) := by decide +kernel
theorem dX4_earned_0 : decode cX4_earned 0 = .ok (.aload_n 0, 1) := by decide +kernel
theorem dX4_earned_1 : decode cX4_earned 1 = .ok (.getfield 156, 3) := by decide +kernel
theorem dX4_earned_4 : decode cX4_earned 4 = .ok (.ireturn, 1) := by decide +kernel
set_option maxRecDepth 20000 in
theorem ggX4_untilGarbled_X4_isGarbled : GoodIn wsX4_untilGarbled wsX4_isGarbled := goodIn_r _ [6] (by decide +kernel) (by decide +kernel)
set_option maxRecDepth 20000 in
theorem gX4_untilGarbled_X4_isGarbled : GoodIn wsX4_untilGarbled (va_wsS RX4 181 yX4_isGarbled wsX4_isGarbled) := goodIn_app (goodIn_of _ (by decide +kernel)) ggX4_untilGarbled_X4_isGarbled
theorem dX4_untilGarbled_0 : decode cX4_untilGarbled 0 = .ok (.iconst 1, 1) := by decide +kernel
theorem dX4_untilGarbled_1 : decode cX4_untilGarbled 1 = .ok (.istore_n 1, 1) := by decide +kernel
theorem dX4_untilGarbled_2 : decode cX4_untilGarbled 2 = .ok (.iload_n 1, 1) := by decide +kernel
theorem dX4_untilGarbled_3 : decode cX4_untilGarbled 3 = .ok (.sipush 1000, 3) := by decide +kernel
theorem dX4_untilGarbled_6 : decode cX4_untilGarbled 6 = .ok (.if_icmp .ge 25, 3) := by decide +kernel
theorem dX4_untilGarbled_9 : decode cX4_untilGarbled 9 = .ok (.aload_n 0, 1) := by decide +kernel
theorem dX4_untilGarbled_10 : decode cX4_untilGarbled 10 = .ok (.getfield 159, 3) := by decide +kernel
theorem dX4_untilGarbled_13 : decode cX4_untilGarbled 13 = .ok (.iload_n 1, 1) := by decide +kernel
theorem dX4_untilGarbled_14 : decode cX4_untilGarbled 14 = .ok (.iadd, 1) := by decide +kernel
theorem dX4_untilGarbled_15 : decode cX4_untilGarbled 15 = .ok (.aload_n 0, 1) := by decide +kernel
theorem dX4_untilGarbled_16 : decode cX4_untilGarbled 16 = .ok (.getfield 40, 3) := by decide +kernel
theorem dX4_untilGarbled_19 : decode cX4_untilGarbled 19 = .ok (.invokestatic 181, 3) := by decide +kernel
theorem dX4_untilGarbled_22 : decode cX4_untilGarbled 22 = .ok (.ifCond .ne 9, 3) := by decide +kernel
theorem dX4_untilGarbled_25 : decode cX4_untilGarbled 25 = .ok (.iinc 1 1, 3) := by decide +kernel
theorem dX4_untilGarbled_28 : decode cX4_untilGarbled 28 = .ok (.goto (-26), 3) := by decide +kernel
theorem dX4_untilGarbled_31 : decode cX4_untilGarbled 31 = .ok (.iload_n 1, 1) := by decide +kernel
theorem dX4_untilGarbled_32 : decode cX4_untilGarbled 32 = .ok (.ireturn, 1) := by decide +kernel
set_option maxRecDepth 20000 in
theorem ggX4_wouldBeGarbled_X2_size : GoodIn wsX4_wouldBeGarbled wsX2_size := goodIn_r _ [9, 10, 45, 46, 47, 48, 49] (by decide +kernel) (by decide +kernel)
set_option maxRecDepth 20000 in
theorem gX4_wouldBeGarbled_X2_size : GoodIn wsX4_wouldBeGarbled (wsV RX4 126 RX2 yX2_size wsX2_size) := goodIn_app (goodIn_of _ (by decide +kernel)) ggX4_wouldBeGarbled_X2_size
set_option maxRecDepth 20000 in
theorem ggX4_wouldBeGarbled_X3_run : GoodIn wsX4_wouldBeGarbled wsX3_run := goodIn_r _ [15, 16, 17, 18, 19, 20, 21, 22, 14, 23, 24, 25, 26, 27, 28, 29, 30, 50, 51, 52, 53] (by decide +kernel) (by decide +kernel)
set_option maxRecDepth 20000 in
theorem gX4_wouldBeGarbled_X3_run : GoodIn wsX4_wouldBeGarbled (wsV RX4 162 RX3 yX3_run wsX3_run) := goodIn_app (goodIn_of _ (by decide +kernel)) ggX4_wouldBeGarbled_X3_run
set_option maxRecDepth 20000 in
theorem ggX4_wouldBeGarbled_X3_garbledAtFirst : GoodIn wsX4_wouldBeGarbled wsX3_garbledAtFirst := goodIn_r _ [34, 17, 50, 51, 52, 53] (by decide +kernel) (by decide +kernel)
set_option maxRecDepth 20000 in
theorem gX4_wouldBeGarbled_X3_garbledAtFirst : GoodIn wsX4_wouldBeGarbled (wsV RX4 185 RX3 yX3_garbledAtFirst wsX3_garbledAtFirst) := goodIn_app (goodIn_of _ (by decide +kernel)) ggX4_wouldBeGarbled_X3_garbledAtFirst
theorem dX4_wouldBeGarbled_0 : decode cX4_wouldBeGarbled 0 = .ok (.aload_n 0, 1) := by decide +kernel
theorem dX4_wouldBeGarbled_1 : decode cX4_wouldBeGarbled 1 = .ok (.getfield 36, 3) := by decide +kernel
theorem dX4_wouldBeGarbled_4 : decode cX4_wouldBeGarbled 4 = .ok (.aload_n 0, 1) := by decide +kernel
theorem dX4_wouldBeGarbled_5 : decode cX4_wouldBeGarbled 5 = .ok (.getfield 26, 3) := by decide +kernel
theorem dX4_wouldBeGarbled_8 : decode cX4_wouldBeGarbled 8 = .ok (.invokevirtual 126, 3) := by decide +kernel
theorem dX4_wouldBeGarbled_11 : decode cX4_wouldBeGarbled 11 = .ok (.aload_n 0, 1) := by decide +kernel
theorem dX4_wouldBeGarbled_12 : decode cX4_wouldBeGarbled 12 = .ok (.getfield 159, 3) := by decide +kernel
theorem dX4_wouldBeGarbled_15 : decode cX4_wouldBeGarbled 15 = .ok (.aload_n 0, 1) := by decide +kernel
theorem dX4_wouldBeGarbled_16 : decode cX4_wouldBeGarbled 16 = .ok (.getfield 40, 3) := by decide +kernel
theorem dX4_wouldBeGarbled_19 : decode cX4_wouldBeGarbled 19 = .ok (.invokevirtual 162, 3) := by decide +kernel
theorem dX4_wouldBeGarbled_22 : decode cX4_wouldBeGarbled 22 = .ok (.aload_n 0, 1) := by decide +kernel
theorem dX4_wouldBeGarbled_23 : decode cX4_wouldBeGarbled 23 = .ok (.getfield 36, 3) := by decide +kernel
theorem dX4_wouldBeGarbled_26 : decode cX4_wouldBeGarbled 26 = .ok (.invokevirtual 185, 3) := by decide +kernel
theorem dX4_wouldBeGarbled_29 : decode cX4_wouldBeGarbled 29 = .ok (.ireturn, 1) := by decide +kernel
set_option maxRecDepth 20000 in
theorem ggX4_repeatsIfSent_X2_size : GoodIn wsX4_repeatsIfSent wsX2_size := goodIn_r _ [9, 10, 45, 46, 47, 48, 49] (by decide +kernel) (by decide +kernel)
set_option maxRecDepth 20000 in
theorem gX4_repeatsIfSent_X2_size : GoodIn wsX4_repeatsIfSent (wsV RX4 126 RX2 yX2_size wsX2_size) := goodIn_app (goodIn_of _ (by decide +kernel)) ggX4_repeatsIfSent_X2_size
set_option maxRecDepth 20000 in
theorem ggX4_repeatsIfSent_X3_run : GoodIn wsX4_repeatsIfSent wsX3_run := goodIn_r _ [15, 16, 17, 18, 19, 20, 21, 22, 14, 23, 24, 25, 26, 27, 28, 29, 30, 50, 51, 52, 53] (by decide +kernel) (by decide +kernel)
set_option maxRecDepth 20000 in
theorem gX4_repeatsIfSent_X3_run : GoodIn wsX4_repeatsIfSent (wsV RX4 162 RX3 yX3_run wsX3_run) := goodIn_app (goodIn_of _ (by decide +kernel)) ggX4_repeatsIfSent_X3_run
set_option maxRecDepth 20000 in
theorem ggX4_repeatsIfSent_X3_repeatsAsked : GoodIn wsX4_repeatsIfSent wsX3_repeatsAsked := goodIn_r _ [34, 18, 50, 51, 52, 53] (by decide +kernel) (by decide +kernel)
set_option maxRecDepth 20000 in
theorem gX4_repeatsIfSent_X3_repeatsAsked : GoodIn wsX4_repeatsIfSent (wsV RX4 172 RX3 yX3_repeatsAsked wsX3_repeatsAsked) := goodIn_app (goodIn_of _ (by decide +kernel)) ggX4_repeatsIfSent_X3_repeatsAsked
theorem dX4_repeatsIfSent_0 : decode cX4_repeatsIfSent 0 = .ok (.aload_n 0, 1) := by decide +kernel
theorem dX4_repeatsIfSent_1 : decode cX4_repeatsIfSent 1 = .ok (.getfield 36, 3) := by decide +kernel
theorem dX4_repeatsIfSent_4 : decode cX4_repeatsIfSent 4 = .ok (.aload_n 0, 1) := by decide +kernel
theorem dX4_repeatsIfSent_5 : decode cX4_repeatsIfSent 5 = .ok (.getfield 26, 3) := by decide +kernel
theorem dX4_repeatsIfSent_8 : decode cX4_repeatsIfSent 8 = .ok (.invokevirtual 126, 3) := by decide +kernel
theorem dX4_repeatsIfSent_11 : decode cX4_repeatsIfSent 11 = .ok (.aload_n 0, 1) := by decide +kernel
theorem dX4_repeatsIfSent_12 : decode cX4_repeatsIfSent 12 = .ok (.getfield 159, 3) := by decide +kernel
theorem dX4_repeatsIfSent_15 : decode cX4_repeatsIfSent 15 = .ok (.aload_n 0, 1) := by decide +kernel
theorem dX4_repeatsIfSent_16 : decode cX4_repeatsIfSent 16 = .ok (.getfield 40, 3) := by decide +kernel
theorem dX4_repeatsIfSent_19 : decode cX4_repeatsIfSent 19 = .ok (.invokevirtual 162, 3) := by decide +kernel
theorem dX4_repeatsIfSent_22 : decode cX4_repeatsIfSent 22 = .ok (.aload_n 0, 1) := by decide +kernel
theorem dX4_repeatsIfSent_23 : decode cX4_repeatsIfSent 23 = .ok (.getfield 36, 3) := by decide +kernel
theorem dX4_repeatsIfSent_26 : decode cX4_repeatsIfSent 26 = .ok (.invokevirtual 172, 3) := by decide +kernel
theorem dX4_repeatsIfSent_29 : decode cX4_repeatsIfSent 29 = .ok (.ireturn, 1) := by decide +kernel
set_option maxRecDepth 20000 in
theorem ggX4_meanLength_X0_size : GoodIn wsX4_meanLength wsX0_size := goodIn_r _ [6, 7, 27, 28, 29] (by decide +kernel) (by decide +kernel)
set_option maxRecDepth 20000 in
theorem gX4_meanLength_X0_size : GoodIn wsX4_meanLength (wsV RX4 84 RX0 yX0_size wsX0_size) := goodIn_app (goodIn_of _ (by decide +kernel)) ggX4_meanLength_X0_size
set_option maxRecDepth 20000 in
theorem ggX4_meanLength_X0_wordsIn : GoodIn wsX4_meanLength wsX0_wordsIn := goodIn_r _ [11, 12, 13, 14, 15, 5, 16, 7, 27, 28, 29] (by decide +kernel) (by decide +kernel)
set_option maxRecDepth 20000 in
theorem gX4_meanLength_X0_wordsIn : GoodIn wsX4_meanLength (wsV RX4 96 RX0 yX0_wordsIn wsX0_wordsIn) := goodIn_app (goodIn_of _ (by decide +kernel)) ggX4_meanLength_X0_wordsIn
theorem dX4_meanLength_0 : decode cX4_meanLength 0 = .ok (.aload_n 0, 1) := by decide +kernel
theorem dX4_meanLength_1 : decode cX4_meanLength 1 = .ok (.getfield 10, 3) := by decide +kernel
theorem dX4_meanLength_4 : decode cX4_meanLength 4 = .ok (.invokevirtual 84, 3) := by decide +kernel
theorem dX4_meanLength_7 : decode cX4_meanLength 7 = .ok (.ifCond .ne 5, 3) := by decide +kernel
theorem dX4_meanLength_10 : decode cX4_meanLength 10 = .ok (.dconst 0, 1) := by decide +kernel
theorem dX4_meanLength_11 : decode cX4_meanLength 11 = .ok (.dreturn, 1) := by decide +kernel
theorem dX4_meanLength_12 : decode cX4_meanLength 12 = .ok (.iconst 0, 1) := by decide +kernel
theorem dX4_meanLength_13 : decode cX4_meanLength 13 = .ok (.istore_n 1, 1) := by decide +kernel
theorem dX4_meanLength_14 : decode cX4_meanLength 14 = .ok (.iconst 0, 1) := by decide +kernel
theorem dX4_meanLength_15 : decode cX4_meanLength 15 = .ok (.istore_n 2, 1) := by decide +kernel
theorem dX4_meanLength_16 : decode cX4_meanLength 16 = .ok (.iload_n 2, 1) := by decide +kernel
theorem dX4_meanLength_17 : decode cX4_meanLength 17 = .ok (.aload_n 0, 1) := by decide +kernel
theorem dX4_meanLength_18 : decode cX4_meanLength 18 = .ok (.getfield 10, 3) := by decide +kernel
theorem dX4_meanLength_21 : decode cX4_meanLength 21 = .ok (.invokevirtual 84, 3) := by decide +kernel
theorem dX4_meanLength_24 : decode cX4_meanLength 24 = .ok (.if_icmp .ge 20, 3) := by decide +kernel
theorem dX4_meanLength_27 : decode cX4_meanLength 27 = .ok (.iload_n 1, 1) := by decide +kernel
theorem dX4_meanLength_28 : decode cX4_meanLength 28 = .ok (.aload_n 0, 1) := by decide +kernel
theorem dX4_meanLength_29 : decode cX4_meanLength 29 = .ok (.getfield 10, 3) := by decide +kernel
theorem dX4_meanLength_32 : decode cX4_meanLength 32 = .ok (.iload_n 2, 1) := by decide +kernel
theorem dX4_meanLength_33 : decode cX4_meanLength 33 = .ok (.invokevirtual 96, 3) := by decide +kernel
theorem dX4_meanLength_36 : decode cX4_meanLength 36 = .ok (.iadd, 1) := by decide +kernel
theorem dX4_meanLength_37 : decode cX4_meanLength 37 = .ok (.istore_n 1, 1) := by decide +kernel
theorem dX4_meanLength_38 : decode cX4_meanLength 38 = .ok (.iinc 2 1, 3) := by decide +kernel
theorem dX4_meanLength_41 : decode cX4_meanLength 41 = .ok (.goto (-25), 3) := by decide +kernel
theorem dX4_meanLength_44 : decode cX4_meanLength 44 = .ok (.iload_n 1, 1) := by decide +kernel
theorem dX4_meanLength_45 : decode cX4_meanLength 45 = .ok (.i2d, 1) := by decide +kernel
theorem dX4_meanLength_46 : decode cX4_meanLength 46 = .ok (.aload_n 0, 1) := by decide +kernel
theorem dX4_meanLength_47 : decode cX4_meanLength 47 = .ok (.getfield 10, 3) := by decide +kernel
theorem dX4_meanLength_50 : decode cX4_meanLength 50 = .ok (.invokevirtual 84, 3) := by decide +kernel
theorem dX4_meanLength_53 : decode cX4_meanLength 53 = .ok (.i2d, 1) := by decide +kernel
theorem dX4_meanLength_54 : decode cX4_meanLength 54 = .ok (.ddiv, 1) := by decide +kernel
theorem dX4_meanLength_55 : decode cX4_meanLength 55 = .ok (.dreturn, 1) := by decide +kernel
set_option maxRecDepth 20000 in
theorem ggX4_costOf_X1_size : GoodIn wsX4_costOf wsX1_size := goodIn_r _ [10, 11, 22, 23] (by decide +kernel) (by decide +kernel)
set_option maxRecDepth 20000 in
theorem gX4_costOf_X1_size : GoodIn wsX4_costOf (wsV RX4 111 RX1 yX1_size wsX1_size) := goodIn_app (goodIn_of _ (by decide +kernel)) ggX4_costOf_X1_size
theorem dX4_costOf_0 : decode cX4_costOf 0 = .ok (.aload_n 0, 1) := by decide +kernel
theorem dX4_costOf_1 : decode cX4_costOf 1 = .ok (.getfield 19, 3) := by decide +kernel
theorem dX4_costOf_4 : decode cX4_costOf 4 = .ok (.invokevirtual 111, 3) := by decide +kernel
theorem dX4_costOf_7 : decode cX4_costOf 7 = .ok (.ifCond .ne 5, 3) := by decide +kernel
theorem dX4_costOf_10 : decode cX4_costOf 10 = .ok (.iconst 0, 1) := by decide +kernel
theorem dX4_costOf_11 : decode cX4_costOf 11 = .ok (.ireturn, 1) := by decide +kernel
theorem dX4_costOf_12 : decode cX4_costOf 12 = .ok (.bipush 20, 2) := by decide +kernel
theorem dX4_costOf_14 : decode cX4_costOf 14 = .ok (.iconst 3, 1) := by decide +kernel
theorem dX4_costOf_15 : decode cX4_costOf 15 = .ok (.iconst 0, 1) := by decide +kernel
theorem dX4_costOf_16 : decode cX4_costOf 16 = .ok (.iload_n 1, 1) := by decide +kernel
theorem dX4_costOf_17 : decode cX4_costOf 17 = .ok (.bipush 10, 2) := by decide +kernel
theorem dX4_costOf_19 : decode cX4_costOf 19 = .ok (.isub, 1) := by decide +kernel
theorem dX4_costOf_20 : decode cX4_costOf 20 = .ok (.invokestatic 254, 3) := by decide +kernel
theorem dX4_costOf_23 : decode cX4_costOf 23 = .ok (.imul, 1) := by decide +kernel
theorem dX4_costOf_24 : decode cX4_costOf 24 = .ok (.iadd, 1) := by decide +kernel
theorem dX4_costOf_25 : decode cX4_costOf 25 = .ok (.ireturn, 1) := by decide +kernel
set_option maxRecDepth 20000 in
theorem ggX4_shorten_X2_partAsIs : GoodIn wsX4_shorten wsX2_partAsIs := goodIn_r _ [8, 9, 10, 11, 7, 12, 13, 14, 15, 16, 17, 18, 19, 20, 21, 22, 23, 24, 25, 26, 27, 28, 29, 30, 31, 32, 33, 34, 35, 36, 37, 38, 39, 40, 41, 42, 43, 44, 45, 46, 47, 48, 49, 50, 51, 52, 53, 54, 55, 56, 57, 58, 59, 60, 61, 62, 63, 64, 65, 66, 67, 68, 69, 70, 71, 72, 73, 74, 75, 76, 77, 88, 89, 90, 91, 92, 93, 94, 95, 96, 97] (by decide +kernel) (by decide +kernel)
set_option maxRecDepth 20000 in
theorem gX4_shorten_X2_partAsIs : GoodIn wsX4_shorten (wsV RX4 260 RX2 yX2_partAsIs wsX2_partAsIs) := goodIn_app (goodIn_of _ (by decide +kernel)) ggX4_shorten_X2_partAsIs
theorem dX4_shorten_0 : decode cX4_shorten 0 = .ok (.aload_n 0, 1) := by decide +kernel
theorem dX4_shorten_1 : decode cX4_shorten 1 = .ok (.getfield 26, 3) := by decide +kernel
theorem dX4_shorten_4 : decode cX4_shorten 4 = .ok (.aload_n 0, 1) := by decide +kernel
theorem dX4_shorten_5 : decode cX4_shorten 5 = .ok (.getfield 19, 3) := by decide +kernel
theorem dX4_shorten_8 : decode cX4_shorten 8 = .ok (.aload_n 0, 1) := by decide +kernel
theorem dX4_shorten_9 : decode cX4_shorten 9 = .ok (.getfield 10, 3) := by decide +kernel
theorem dX4_shorten_12 : decode cX4_shorten 12 = .ok (.invokevirtual 260, 3) := by decide +kernel
theorem dX4_shorten_15 : decode cX4_shorten 15 = .ok (.return_, 1) := by decide +kernel
theorem dX4_isType_0 : decode cX4_isType 0 = .ok (.iload_n 0, 1) := by decide +kernel
theorem dX4_isType_1 : decode cX4_isType 1 = .ok (.ifCond .lt 13, 3) := by decide +kernel
theorem dX4_isType_4 : decode cX4_isType 4 = .ok (.iload_n 0, 1) := by decide +kernel
theorem dX4_isType_5 : decode cX4_isType 5 = .ok (.bipush 10, 2) := by decide +kernel
theorem dX4_isType_7 : decode cX4_isType 7 = .ok (.if_icmp .ge 7, 3) := by decide +kernel
theorem dX4_isType_10 : decode cX4_isType 10 = .ok (.iconst 1, 1) := by decide +kernel
theorem dX4_isType_11 : decode cX4_isType 11 = .ok (.goto 4, 3) := by decide +kernel
theorem dX4_isType_14 : decode cX4_isType 14 = .ok (.iconst 0, 1) := by decide +kernel
theorem dX4_isType_15 : decode cX4_isType 15 = .ok (.ireturn, 1) := by decide +kernel
set_option maxRecDepth 20000 in
theorem ggX4_isTypeOrNone_X4_isType : GoodIn wsX4_isTypeOrNone wsX4_isType := goodIn_r _ [4] (by decide +kernel) (by decide +kernel)
set_option maxRecDepth 20000 in
theorem gX4_isTypeOrNone_X4_isType : GoodIn wsX4_isTypeOrNone (va_wsS RX4 44 yX4_isType wsX4_isType) := goodIn_app (goodIn_of _ (by decide +kernel)) ggX4_isTypeOrNone_X4_isType
theorem dX4_isTypeOrNone_0 : decode cX4_isTypeOrNone 0 = .ok (.iload_n 0, 1) := by decide +kernel
theorem dX4_isTypeOrNone_1 : decode cX4_isTypeOrNone 1 = .ok (.iconst (-1), 1) := by decide +kernel
theorem dX4_isTypeOrNone_2 : decode cX4_isTypeOrNone 2 = .ok (.if_icmp .eq 10, 3) := by decide +kernel
theorem dX4_isTypeOrNone_5 : decode cX4_isTypeOrNone 5 = .ok (.iload_n 0, 1) := by decide +kernel
theorem dX4_isTypeOrNone_6 : decode cX4_isTypeOrNone 6 = .ok (.invokestatic 44, 3) := by decide +kernel
theorem dX4_isTypeOrNone_9 : decode cX4_isTypeOrNone 9 = .ok (.ifCond .eq 7, 3) := by decide +kernel
theorem dX4_isTypeOrNone_12 : decode cX4_isTypeOrNone 12 = .ok (.iconst 1, 1) := by decide +kernel
theorem dX4_isTypeOrNone_13 : decode cX4_isTypeOrNone 13 = .ok (.goto 4, 3) := by decide +kernel
theorem dX4_isTypeOrNone_16 : decode cX4_isTypeOrNone 16 = .ok (.iconst 0, 1) := by decide +kernel
theorem dX4_isTypeOrNone_17 : decode cX4_isTypeOrNone 17 = .ok (.ireturn, 1) := by decide +kernel
theorem dX4_isGarbled_0 : decode cX4_isGarbled 0 = .ok (.iload_n 0, 1) := by decide +kernel
theorem dX4_isGarbled_1 : decode cX4_isGarbled 1 = .ok (.bipush 7, 2) := by decide +kernel
theorem dX4_isGarbled_3 : decode cX4_isGarbled 3 = .ok (.imul, 1) := by decide +kernel
theorem dX4_isGarbled_4 : decode cX4_isGarbled 4 = .ok (.iload_n 0, 1) := by decide +kernel
theorem dX4_isGarbled_5 : decode cX4_isGarbled 5 = .ok (.bipush 10, 2) := by decide +kernel
theorem dX4_isGarbled_7 : decode cX4_isGarbled 7 = .ok (.idiv, 1) := by decide +kernel
theorem dX4_isGarbled_8 : decode cX4_isGarbled 8 = .ok (.iadd, 1) := by decide +kernel
theorem dX4_isGarbled_9 : decode cX4_isGarbled 9 = .ok (.bipush 10, 2) := by decide +kernel
theorem dX4_isGarbled_11 : decode cX4_isGarbled 11 = .ok (.irem, 1) := by decide +kernel
theorem dX4_isGarbled_12 : decode cX4_isGarbled 12 = .ok (.iload_n 1, 1) := by decide +kernel
theorem dX4_isGarbled_13 : decode cX4_isGarbled 13 = .ok (.if_icmp .lt 7, 3) := by decide +kernel
theorem dX4_isGarbled_16 : decode cX4_isGarbled 16 = .ok (.iconst 1, 1) := by decide +kernel
theorem dX4_isGarbled_17 : decode cX4_isGarbled 17 = .ok (.goto 4, 3) := by decide +kernel
theorem dX4_isGarbled_20 : decode cX4_isGarbled 20 = .ok (.iconst 0, 1) := by decide +kernel
theorem dX4_isGarbled_21 : decode cX4_isGarbled 21 = .ok (.ireturn, 1) := by decide +kernel
