theorem goodIn_c2 {big a : List Cond} {c : Cond} (hc : GoodIn big [c]) (ha : GoodIn big a) : GoodIn big (c :: a) := fun w h => (List.mem_cons.mp h).elim (fun e => hc w (List.mem_singleton.mpr e)) (ha w)
theorem dL_below_0 : decode cL_below 0 = .ok (.iload_n 0, 1) := by decide +kernel
theorem dL_below_1 : decode cL_below 1 = .ok (.ldc 7, 2) := by decide +kernel
theorem dL_below_3 : decode cL_below 3 = .ok (.iand, 1) := by decide +kernel
theorem dL_below_4 : decode cL_below 4 = .ok (.iload_n 1, 1) := by decide +kernel
theorem dL_below_5 : decode cL_below 5 = .ok (.irem, 1) := by decide +kernel
theorem dL_below_6 : decode cL_below 6 = .ok (.ireturn, 1) := by decide +kernel
theorem dL_cell_0 : decode cL_cell 0 = .ok (.iload_n 1, 1) := by decide +kernel
theorem dL_cell_1 : decode cL_cell 1 = .ok (.aload_n 0, 1) := by decide +kernel
theorem dL_cell_2 : decode cL_cell 2 = .ok (.arraylength, 1) := by decide +kernel
theorem dL_cell_3 : decode cL_cell 3 = .ok (.if_icmp .ge 9, 3) := by decide +kernel
theorem dL_cell_6 : decode cL_cell 6 = .ok (.aload_n 0, 1) := by decide +kernel
theorem dL_cell_7 : decode cL_cell 7 = .ok (.iload_n 1, 1) := by decide +kernel
theorem dL_cell_8 : decode cL_cell 8 = .ok (.iaload, 1) := by decide +kernel
theorem dL_cell_9 : decode cL_cell 9 = .ok (.goto 9, 3) := by decide +kernel
theorem dL_cell_12 : decode cL_cell 12 = .ok (.ldc 8, 2) := by decide +kernel
theorem dL_cell_14 : decode cL_cell 14 = .ok (.iload_n 1, 1) := by decide +kernel
theorem dL_cell_15 : decode cL_cell 15 = .ok (.iconst 3, 1) := by decide +kernel
theorem dL_cell_16 : decode cL_cell 16 = .ok (.iadd, 1) := by decide +kernel
theorem dL_cell_17 : decode cL_cell 17 = .ok (.imul, 1) := by decide +kernel
theorem dL_cell_18 : decode cL_cell 18 = .ok (.ireturn, 1) := by decide +kernel
set_option maxRecDepth 20000 in
theorem ggL_add_X4_addCode : GoodIn wsL_add wsX4_addCode := goodIn_ca (goodIn_ca (goodIn_r _ [5, 6, 7, 8, 9, 10, 11, 12, 4, 13, 14, 15, 16, 17, 18, 19, 20, 21, 22, 23, 24, 25, 26, 27, 28, 29, 30, 31, 32, 33, 34, 35, 36, 37, 38, 39, 40, 41, 42, 43, 44, 45, 46, 47, 48, 49, 50, 51, 52, 53, 54, 55, 56, 57, 58, 59, 60, 61, 62, 63, 64, 65, 66, 67, 68, 69, 70, 71, 72, 73, 74, 75, 76, 77, 78, 79, 80, 81, 82, 83, 84, 85, 86, 87, 88, 89, 90, 91, 92, 93, 94, 95, 96, 97, 98, 99, 100, 101, 102, 103, 104, 105, 106, 107, 108, 109, 110, 111, 112, 113, 114, 115, 116, 117, 118, 119, 120, 121, 122, 123, 124, 125, 126, 127, 128, 129, 130, 131] (by decide +kernel) (by decide +kernel)) (goodIn_sub (fun _ h => List.mem_cons_of_mem _ (List.mem_append_left _ (List.mem_append_right _ h))) (by decide +kernel))) (goodIn_sub (fun _ h => List.mem_cons_of_mem _ (List.mem_append_right _ h)) (by decide +kernel))
set_option maxRecDepth 20000 in
theorem gL_add_X4_addCode : GoodIn wsL_add (wsV RL 9 RX4 yX4_addCode wsX4_addCode) := goodIn_app (goodIn_of _ (by decide +kernel)) ggL_add_X4_addCode
theorem dL_add_0 : decode cL_add 0 = .ok (.aload_n 0, 1) := by decide +kernel
theorem dL_add_1 : decode cL_add 1 = .ok (.aload_n 1, 1) := by decide +kernel
theorem dL_add_2 : decode cL_add 2 = .ok (.iconst 0, 1) := by decide +kernel
theorem dL_add_3 : decode cL_add 3 = .ok (.iaload, 1) := by decide +kernel
theorem dL_add_4 : decode cL_add 4 = .ok (.aload_n 1, 1) := by decide +kernel
theorem dL_add_5 : decode cL_add 5 = .ok (.iconst 1, 1) := by decide +kernel
theorem dL_add_6 : decode cL_add 6 = .ok (.iaload, 1) := by decide +kernel
theorem dL_add_7 : decode cL_add 7 = .ok (.aload_n 1, 1) := by decide +kernel
theorem dL_add_8 : decode cL_add 8 = .ok (.arraylength, 1) := by decide +kernel
theorem dL_add_9 : decode cL_add 9 = .ok (.iconst 2, 1) := by decide +kernel
theorem dL_add_10 : decode cL_add 10 = .ok (.if_icmp .le 9, 3) := by decide +kernel
theorem dL_add_13 : decode cL_add 13 = .ok (.aload_n 1, 1) := by decide +kernel
theorem dL_add_14 : decode cL_add 14 = .ok (.iconst 2, 1) := by decide +kernel
theorem dL_add_15 : decode cL_add 15 = .ok (.iaload, 1) := by decide +kernel
theorem dL_add_16 : decode cL_add 16 = .ok (.goto 4, 3) := by decide +kernel
theorem dL_add_19 : decode cL_add 19 = .ok (.iconst (-1), 1) := by decide +kernel
theorem dL_add_20 : decode cL_add 20 = .ok (.aload_n 1, 1) := by decide +kernel
theorem dL_add_21 : decode cL_add 21 = .ok (.arraylength, 1) := by decide +kernel
theorem dL_add_22 : decode cL_add 22 = .ok (.iconst 3, 1) := by decide +kernel
theorem dL_add_23 : decode cL_add 23 = .ok (.if_icmp .le 9, 3) := by decide +kernel
theorem dL_add_26 : decode cL_add 26 = .ok (.aload_n 1, 1) := by decide +kernel
theorem dL_add_27 : decode cL_add 27 = .ok (.iconst 3, 1) := by decide +kernel
theorem dL_add_28 : decode cL_add 28 = .ok (.iaload, 1) := by decide +kernel
theorem dL_add_29 : decode cL_add 29 = .ok (.goto 4, 3) := by decide +kernel
theorem dL_add_32 : decode cL_add 32 = .ok (.iconst (-1), 1) := by decide +kernel
theorem dL_add_33 : decode cL_add 33 = .ok (.invokevirtual 9, 3) := by decide +kernel
theorem dL_add_36 : decode cL_add 36 = .ok (.ireturn, 1) := by decide +kernel
set_option maxRecDepth 20000 in
theorem ggL_act_L_below : GoodIn wsL_act wsL_below := goodIn_r _ [12, 13] (by decide +kernel) (by decide +kernel)
set_option maxRecDepth 20000 in
theorem gL_act_L_below : GoodIn wsL_act (va_wsS RL 25 yL_below wsL_below) := goodIn_app (goodIn_of _ (by decide +kernel)) ggL_act_L_below
set_option maxRecDepth 20000 in
theorem ggL_act_X5_isThere : GoodIn wsL_act wsX5_isThere := goodIn_r _ [17] (by decide +kernel) (by decide +kernel)
set_option maxRecDepth 20000 in
theorem gL_act_X5_isThere : GoodIn wsL_act (va_wsS RL 31 yX5_isThere wsX5_isThere) := goodIn_app (goodIn_of _ (by decide +kernel)) ggL_act_X5_isThere
set_option maxRecDepth 20000 in
theorem ggL_act_X5_with : GoodIn wsL_act wsX5_with := goodIn_r _ [20, 21] (by decide +kernel) (by decide +kernel)
set_option maxRecDepth 20000 in
theorem gL_act_X5_with : GoodIn wsL_act (va_wsS RL 35 yX5_with wsX5_with) := goodIn_app (goodIn_of _ (by decide +kernel)) ggL_act_X5_with
set_option maxRecDepth 20000 in
theorem ggL_act_L_add : GoodIn wsL_act wsL_add := goodIn_ca (goodIn_ca (goodIn_r _ [24, 25, 26, 27, 28, 29, 30, 31, 32, 33, 34, 35, 36, 37, 38, 39, 40, 41, 42, 43, 44, 45, 46, 47, 48, 49, 50, 51, 52, 53, 54, 55, 56, 57, 58, 59, 60, 61, 62, 63, 64, 65, 66, 67, 68, 69, 70, 71, 72, 73, 74, 75, 76, 77, 78, 79, 80, 81, 82, 83, 84, 85, 86, 87, 88, 89, 90, 91, 92, 93, 94, 95, 96, 97, 98, 99, 100, 101, 102, 103, 104, 105, 106, 107, 108, 109, 110, 111, 112, 113, 114, 115, 116, 117, 118, 119, 120, 121, 122, 123, 124, 125, 126, 127, 128, 129, 130, 131, 132, 133, 134, 135, 304, 305, 306, 307, 308, 309, 310, 311, 312, 313, 314, 315, 316, 317, 318, 319, 320, 321, 322, 323] (by decide +kernel) (by decide +kernel)) (goodIn_sub (fun _ h => List.mem_cons_of_mem _ (List.mem_append_left _ (List.mem_append_left _ (List.mem_append_right _ h)))) (by decide +kernel))) (goodIn_sub (fun _ h => List.mem_cons_of_mem _ (List.mem_append_left _ (List.mem_append_right _ h))) (by decide +kernel))
set_option maxRecDepth 20000 in
theorem gL_act_L_add : GoodIn wsL_act (va_wsS RL 39 yL_add wsL_add) := goodIn_app (goodIn_of _ (by decide +kernel)) ggL_act_L_add
set_option maxRecDepth 20000 in
theorem ggL_act_X5_without : GoodIn wsL_act wsX5_without := goodIn_r _ [138, 21] (by decide +kernel) (by decide +kernel)
set_option maxRecDepth 20000 in
theorem gL_act_X5_without : GoodIn wsL_act (va_wsS RL 43 yX5_without wsX5_without) := goodIn_app (goodIn_of _ (by decide +kernel)) ggL_act_X5_without
set_option maxRecDepth 20000 in
theorem ggL_act_X4_dropCode : GoodIn wsL_act wsX4_dropCode := goodIn_ca (goodIn_r _ [142, 143, 144, 34, 145, 57, 58, 44, 59, 46, 146, 107, 108, 109, 64, 56, 147, 148, 149, 150, 55, 151, 152, 153, 154, 66, 67, 68, 28, 69, 70, 71, 72, 73, 74, 75, 76, 77, 78, 79, 80, 81, 82, 83, 84, 85, 86, 87, 88, 89, 90, 91, 92, 93, 94, 95, 96, 97, 98, 99, 100, 101, 102, 103, 104, 105, 106, 110, 111, 112, 113, 114, 115, 116, 117, 118, 119, 52, 53, 54, 120, 121, 122, 123, 124, 125, 126, 127, 128, 129, 130, 131, 132, 133, 134, 304, 305, 306, 307, 308, 309, 310, 311, 312, 313, 314, 315, 316, 317, 318, 319, 320, 321, 322, 323] (by decide +kernel) (by decide +kernel)) (goodIn_sub (fun _ h => List.mem_cons_of_mem _ (List.mem_append_right _ h)) (by decide +kernel))
set_option maxRecDepth 20000 in
theorem gL_act_X4_dropCode : GoodIn wsL_act (wsV RL 47 RX4 yX4_dropCode wsX4_dropCode) := goodIn_app (goodIn_of _ (by decide +kernel)) ggL_act_X4_dropCode
set_option maxRecDepth 20000 in
theorem ggL_act_X4_strike : GoodIn wsL_act wsX4_strike := goodIn_ca (goodIn_r _ [158, 32, 33, 71, 159, 87, 88, 89, 90, 91, 160, 115, 116, 117, 118, 110, 111, 112, 113, 161, 162, 163, 164, 165, 166, 83, 167, 66, 67, 68, 28, 69, 70, 34, 72, 73, 74, 75, 76, 77, 78, 79, 80, 81, 82, 84, 85, 86, 92, 93, 94, 95, 96, 97, 98, 99, 100, 44, 101, 46, 102, 103, 104, 105, 106, 107, 108, 109, 64, 56, 57, 58, 59, 114, 119, 52, 53, 54, 55, 120, 121, 122, 123, 124, 125, 126, 127, 128, 129, 130, 131, 132, 133, 134, 304, 305, 306, 307, 308, 309, 310, 311, 312, 313, 322, 323, 317, 318, 319, 320, 321, 314, 315, 316] (by decide +kernel) (by decide +kernel)) (goodIn_sub (fun _ h => List.mem_cons_of_mem _ (List.mem_append_left _ (List.mem_append_right _ h))) (by decide +kernel))
set_option maxRecDepth 20000 in
theorem gL_act_X4_strike : GoodIn wsL_act (wsV RL 51 RX4 yX4_strike wsX4_strike) := goodIn_app (goodIn_of _ (by decide +kernel)) ggL_act_X4_strike
set_option maxRecDepth 20000 in
theorem ggL_act_X4_clear : GoodIn wsL_act wsX4_clear := goodIn_r _ [171, 71, 159, 87, 88, 89, 90, 91, 172, 173, 174, 175, 66, 67, 68, 28, 69, 70, 34, 72, 73, 74, 75, 76, 77, 78, 79, 80, 81, 82, 83, 84, 85, 86, 92, 93, 94, 95, 96, 97, 98, 99, 100, 44, 101, 46, 102, 103, 104, 105, 106, 107, 108, 109, 64, 56, 57, 58, 59, 110, 111, 112, 113, 114, 115, 116, 117, 118, 119, 52, 53, 54, 55, 120, 121, 122, 123, 124, 125, 126, 127, 128, 129, 130, 131, 132, 133, 134, 304, 305, 306, 307, 308, 309, 310, 311, 312, 313, 322, 323, 317, 318, 319, 320, 321, 314, 315, 316] (by decide +kernel) (by decide +kernel)
set_option maxRecDepth 20000 in
theorem gL_act_X4_clear : GoodIn wsL_act (wsV RL 55 RX4 yX4_clear wsX4_clear) := goodIn_app (goodIn_of _ (by decide +kernel)) ggL_act_X4_clear
set_option maxRecDepth 20000 in
theorem ggL_act_X4_setQuality : GoodIn wsL_act wsX4_setQuality := goodIn_ca (goodIn_r _ [179, 30, 31, 180, 304, 305, 306, 307, 308, 309, 310, 311, 312, 313] (by decide +kernel) (by decide +kernel)) (goodIn_sub (fun _ h => List.mem_cons_of_mem _ (List.mem_append_left _ (List.mem_append_left _ (List.mem_append_right _ h)))) (by decide +kernel))
set_option maxRecDepth 20000 in
theorem gL_act_X4_setQuality : GoodIn wsL_act (wsV RL 62 RX4 yX4_setQuality wsX4_setQuality) := goodIn_app (goodIn_of _ (by decide +kernel)) ggL_act_X4_setQuality
set_option maxRecDepth 20000 in
theorem ggL_act_X5_cost : GoodIn wsL_act wsX5_cost := goodIn_r _ [184, 185, 186, 187, 188, 16, 189, 190, 191, 192, 3, 21, 193, 15, 17, 297, 298, 299, 300, 301, 302, 303] (by decide +kernel) (by decide +kernel)
set_option maxRecDepth 20000 in
theorem gL_act_X5_cost : GoodIn wsL_act (wsV RL 68 RX5 yX5_cost wsX5_cost) := goodIn_app (goodIn_of _ (by decide +kernel)) ggL_act_X5_cost
set_option maxRecDepth 20000 in
theorem ggL_act_X5_groups : GoodIn wsL_act wsX5_groups := goodIn_r _ [197, 198, 185, 190, 191, 16, 192, 3, 21, 193, 15, 17, 297, 298, 299, 300, 301, 302, 303] (by decide +kernel) (by decide +kernel)
set_option maxRecDepth 20000 in
theorem gL_act_X5_groups : GoodIn wsL_act (wsV RL 72 RX5 yX5_groups wsX5_groups) := goodIn_app (goodIn_of _ (by decide +kernel)) ggL_act_X5_groups
set_option maxRecDepth 20000 in
theorem ggL_act_X5_send : GoodIn wsL_act wsX5_send := goodIn_r _ [202, 3, 203, 204, 205, 16, 206, 297, 298, 299, 300, 301, 302, 303] (by decide +kernel) (by decide +kernel)
set_option maxRecDepth 20000 in
theorem gL_act_X5_send : GoodIn wsL_act (wsV RL 75 RX5 yX5_send wsX5_send) := goodIn_app (goodIn_of _ (by decide +kernel)) ggL_act_X5_send
set_option maxRecDepth 20000 in
theorem ggL_act_X4_send_c : GoodIn wsL_act [.code yX4_send cX4_send 1 (some .int)] := goodIn_r _ [210] (by decide +kernel) (by decide +kernel)
set_option maxRecDepth 20000 in
theorem ggL_act_X4_send_s0 : GoodIn wsL_act wsX4_send_r1 := goodIn_r _ [32, 33, 71, 211, 212, 70, 213, 180, 214, 215, 159, 87, 88, 89, 90, 91, 216, 217, 218, 28, 219, 220, 221, 222] (by decide +kernel) (by decide +kernel)
set_option maxRecDepth 20000 in
theorem ggL_act_X4_send_s1 : GoodIn wsL_act wsX4_send_r2 := goodIn_r _ [223, 224, 225, 226, 75, 227, 133, 228, 229, 230, 231, 97, 232, 233, 234, 235, 134, 236, 237, 238, 239, 240, 241, 242] (by decide +kernel) (by decide +kernel)
set_option maxRecDepth 20000 in
theorem ggL_act_X4_send_s2 : GoodIn wsL_act wsX4_send_r3 := goodIn_r _ [243, 244, 114, 115, 116, 117, 118, 110, 111, 112, 113, 245, 246, 247, 248, 249, 166, 83, 167, 250, 251, 252, 253, 254] (by decide +kernel) (by decide +kernel)
set_option maxRecDepth 20000 in
theorem ggL_act_X4_send_s3 : GoodIn wsL_act wsX4_send_r4 := goodIn_r _ [255, 256, 257, 258, 259, 260, 261, 262, 263, 264, 265, 266, 267, 268, 269, 270, 271, 272, 273, 274, 275, 276, 277, 278] (by decide +kernel) (by decide +kernel)
set_option maxRecDepth 20000 in
theorem ggL_act_X4_send_s4 : GoodIn wsL_act wsX4_send_r5 := goodIn_r _ [279, 280, 172, 173, 174, 175, 66, 67, 68, 69, 34, 72, 73, 74, 76, 77, 78, 79, 80, 81, 82, 84, 85, 86] (by decide +kernel) (by decide +kernel)
set_option maxRecDepth 20000 in
theorem ggL_act_X4_send_s5 : GoodIn wsL_act wsX4_send_r6 := goodIn_r _ [92, 93, 94, 95, 96, 98, 99, 100, 44, 101, 46, 102, 103, 104, 105, 106, 107, 108, 109, 64, 56, 57, 58, 59] (by decide +kernel) (by decide +kernel)
set_option maxRecDepth 20000 in
theorem ggL_act_X4_send_s6 : GoodIn wsL_act wsX4_send_r7 := goodIn_r _ [119, 52, 53, 54, 55, 120, 121, 122, 123, 124, 125, 126, 127, 128, 129, 130, 131, 132] (by decide +kernel) (by decide +kernel)
set_option maxRecDepth 20000 in
theorem ggL_act_X4_send_s7 : GoodIn wsL_act wsX40 := goodIn_r _ [304, 305, 306, 307, 308, 309, 310, 311, 312, 313] (by decide +kernel) (by decide +kernel)
set_option maxRecDepth 20000 in
theorem ggL_act_X4_send_s8 : GoodIn wsL_act wsX10 := goodIn_r _ [322, 323] (by decide +kernel) (by decide +kernel)
set_option maxRecDepth 20000 in
theorem ggL_act_X4_send_s9 : GoodIn wsL_act wsX20 := goodIn_r _ [317, 318, 319, 320, 321] (by decide +kernel) (by decide +kernel)
set_option maxRecDepth 20000 in
theorem ggL_act_X4_send_s10 : GoodIn wsL_act wsX30 := goodIn_r _ [324, 325, 326, 327] (by decide +kernel) (by decide +kernel)
set_option maxRecDepth 20000 in
theorem ggL_act_X4_send_s11 : GoodIn wsL_act wsX00 := goodIn_r _ [314, 315, 316] (by decide +kernel) (by decide +kernel)
set_option maxRecDepth 20000 in
theorem ggL_act_X4_send : GoodIn wsL_act wsX4_send := goodIn_ca (goodIn_ca (goodIn_ca (goodIn_ca (goodIn_ca (goodIn_ca (goodIn_c2 ggL_act_X4_send_c (goodIn_app ggL_act_X4_send_s0 (goodIn_app ggL_act_X4_send_s1 (goodIn_app ggL_act_X4_send_s2 (goodIn_app ggL_act_X4_send_s3 (goodIn_app ggL_act_X4_send_s4 (goodIn_app ggL_act_X4_send_s5 ggL_act_X4_send_s6))))))) ggL_act_X4_send_s7) ggL_act_X4_send_s8) ggL_act_X4_send_s9) ggL_act_X4_send_s10) ggL_act_X4_send_s11) (goodIn_sub (fun _ h => List.mem_cons_of_mem _ (List.mem_append_left _ (List.mem_append_right _ h))) (by decide +kernel))
set_option maxRecDepth 20000 in
theorem gL_act_X4_send : GoodIn wsL_act (wsV RL 88 RX4 yX4_send wsX4_send) := goodIn_app (goodIn_of _ (by decide +kernel)) ggL_act_X4_send
set_option maxRecDepth 20000 in
theorem ggL_act_X5_with_ : GoodIn wsL_act wsX5_with_ := goodIn_r _ [283, 3] (by decide +kernel) (by decide +kernel)
set_option maxRecDepth 20000 in
theorem gL_act_X5_with_ : GoodIn wsL_act (va_wsS RL 90 yX5_with_ wsX5_with_) := goodIn_app (goodIn_of _ (by decide +kernel)) ggL_act_X5_with_
set_option maxRecDepth 20000 in
theorem ggL_act_X4_write : GoodIn wsL_act wsX4_write := goodIn_ca (goodIn_ca (goodIn_r _ [287, 30, 31, 32, 33, 71, 35, 36, 28, 37, 288, 289, 290, 89, 291, 91, 292, 293, 294, 295, 118, 296, 66, 67, 68, 69, 70, 34, 72, 73, 74, 75, 76, 77, 78, 79, 80, 81, 82, 83, 84, 85, 86, 87, 88, 90, 92, 93, 94, 95, 96, 97, 98, 99, 100, 44, 101, 46, 102, 103, 104, 105, 106, 107, 108, 109, 64, 56, 57, 58, 59, 110, 111, 112, 113, 114, 115, 116, 117, 119, 52, 53, 54, 55, 120, 121, 122, 123, 124, 125, 126, 127, 128, 129, 130, 131, 132, 133, 134, 159, 304, 305, 306, 307, 308, 309, 310, 311, 312, 313, 322, 323, 317, 318, 319, 320, 321, 314, 315, 316] (by decide +kernel) (by decide +kernel)) (goodIn_sub (fun _ h => List.mem_cons_of_mem _ (List.mem_append_left _ (List.mem_append_left _ (List.mem_append_right _ h)))) (by decide +kernel))) (goodIn_sub (fun _ h => List.mem_cons_of_mem _ (List.mem_append_left _ (List.mem_append_right _ h))) (by decide +kernel))
set_option maxRecDepth 20000 in
theorem gL_act_X4_write : GoodIn wsL_act (wsV RL 93 RX4 yX4_write wsX4_write) := goodIn_app (goodIn_of _ (by decide +kernel)) ggL_act_X4_write
theorem dL_act_0 : decode cL_act 0 = .ok (.aload_n 1, 1) := by decide +kernel
theorem dL_act_1 : decode cL_act 1 = .ok (.getfield 15, 3) := by decide +kernel
theorem dL_act_4 : decode cL_act 4 = .ok (.arraylength, 1) := by decide +kernel
theorem dL_act_5 : decode cL_act 5 = .ok (.istore_n 3, 1) := by decide +kernel
theorem dL_act_6 : decode cL_act 6 = .ok (.aload_n 1, 1) := by decide +kernel
theorem dL_act_7 : decode cL_act 7 = .ok (.getfield 21, 3) := by decide +kernel
theorem dL_act_10 : decode cL_act 10 = .ok (.arraylength, 1) := by decide +kernel
theorem dL_act_11 : decode cL_act 11 = .ok (.istore 4, 2) := by decide +kernel
theorem dL_act_13 : decode cL_act 13 = .ok (.iload_n 2, 1) := by decide +kernel
theorem dL_act_14 : decode cL_act 14 = .ok (.iconst 5, 1) := by decide +kernel
theorem dL_act_15 : decode cL_act 15 = .ok (.invokestatic 25, 3) := by decide +kernel
theorem dL_act_18 : decode cL_act 18 = .ok (.ifCond .ne 8, 3) := by decide +kernel
theorem dL_act_21 : decode cL_act 21 = .ok (.bipush 10, 2) := by decide +kernel
theorem dL_act_23 : decode cL_act 23 = .ok (.goto 4, 3) := by decide +kernel
theorem dL_act_26 : decode cL_act 26 = .ok (.iconst 3, 1) := by decide +kernel
theorem dL_act_27 : decode cL_act 27 = .ok (.istore 5, 2) := by decide +kernel
theorem dL_act_29 : decode cL_act 29 = .ok (.iload_n 2, 1) := by decide +kernel
theorem dL_act_30 : decode cL_act 30 = .ok (.bipush 9, 2) := by decide +kernel
theorem dL_act_32 : decode cL_act 32 = .ok (.ishr, 1) := by decide +kernel
theorem dL_act_33 : decode cL_act 33 = .ok (.bipush 16, 2) := by decide +kernel
theorem dL_act_35 : decode cL_act 35 = .ok (.invokestatic 25, 3) := by decide +kernel
theorem dL_act_38 : decode cL_act 38 = .ok (.tableswitch 509 0 6 #[42, 42, 207, 264, 337, 370, 409], 42) := by decide +kernel
theorem dL_act_80 : decode cL_act 80 = .ok (.iconst 2, 1) := by decide +kernel
theorem dL_act_81 : decode cL_act 81 = .ok (.iload_n 2, 1) := by decide +kernel
theorem dL_act_82 : decode cL_act 82 = .ok (.iconst 2, 1) := by decide +kernel
theorem dL_act_83 : decode cL_act 83 = .ok (.ishr, 1) := by decide +kernel
theorem dL_act_84 : decode cL_act 84 = .ok (.iconst 3, 1) := by decide +kernel
theorem dL_act_85 : decode cL_act 85 = .ok (.invokestatic 25, 3) := by decide +kernel
theorem dL_act_88 : decode cL_act 88 = .ok (.iadd, 1) := by decide +kernel
theorem dL_act_89 : decode cL_act 89 = .ok (.newarray .int, 2) := by decide +kernel
theorem dL_act_91 : decode cL_act 91 = .ok (.astore 6, 2) := by decide +kernel
theorem dL_act_93 : decode cL_act 93 = .ok (.iconst 0, 1) := by decide +kernel
theorem dL_act_94 : decode cL_act 94 = .ok (.istore 7, 2) := by decide +kernel
theorem dL_act_96 : decode cL_act 96 = .ok (.iload 7, 2) := by decide +kernel
theorem dL_act_98 : decode cL_act 98 = .ok (.aload 6, 2) := by decide +kernel
theorem dL_act_100 : decode cL_act 100 = .ok (.arraylength, 1) := by decide +kernel
theorem dL_act_101 : decode cL_act 101 = .ok (.if_icmp .ge 27, 3) := by decide +kernel
theorem dL_act_104 : decode cL_act 104 = .ok (.aload 6, 2) := by decide +kernel
theorem dL_act_106 : decode cL_act 106 = .ok (.iload 7, 2) := by decide +kernel
theorem dL_act_108 : decode cL_act 108 = .ok (.iload_n 2, 1) := by decide +kernel
theorem dL_act_109 : decode cL_act 109 = .ok (.iconst 2, 1) := by decide +kernel
theorem dL_act_110 : decode cL_act 110 = .ok (.iconst 2, 1) := by decide +kernel
theorem dL_act_111 : decode cL_act 111 = .ok (.iload 7, 2) := by decide +kernel
theorem dL_act_113 : decode cL_act 113 = .ok (.imul, 1) := by decide +kernel
theorem dL_act_114 : decode cL_act 114 = .ok (.iadd, 1) := by decide +kernel
theorem dL_act_115 : decode cL_act 115 = .ok (.ishr, 1) := by decide +kernel
theorem dL_act_116 : decode cL_act 116 = .ok (.iload 5, 2) := by decide +kernel
theorem dL_act_118 : decode cL_act 118 = .ok (.invokestatic 25, 3) := by decide +kernel
theorem dL_act_121 : decode cL_act 121 = .ok (.iastore, 1) := by decide +kernel
theorem dL_act_122 : decode cL_act 122 = .ok (.iinc 7 1, 3) := by decide +kernel
theorem dL_act_125 : decode cL_act 125 = .ok (.goto (-29), 3) := by decide +kernel
theorem dL_act_128 : decode cL_act 128 = .ok (.iload 4, 2) := by decide +kernel
theorem dL_act_130 : decode cL_act 130 = .ok (.bipush 8, 2) := by decide +kernel
theorem dL_act_132 : decode cL_act 132 = .ok (.if_icmp .ne 7, 3) := by decide +kernel
theorem dL_act_135 : decode cL_act 135 = .ok (.iconst 1, 1) := by decide +kernel
theorem dL_act_136 : decode cL_act 136 = .ok (.goto 4, 3) := by decide +kernel
theorem dL_act_139 : decode cL_act 139 = .ok (.iconst 0, 1) := by decide +kernel
theorem dL_act_140 : decode cL_act 140 = .ok (.istore 7, 2) := by decide +kernel
theorem dL_act_142 : decode cL_act 142 = .ok (.aload_n 1, 1) := by decide +kernel
theorem dL_act_143 : decode cL_act 143 = .ok (.getfield 21, 3) := by decide +kernel
theorem dL_act_146 : decode cL_act 146 = .ok (.astore 8, 2) := by decide +kernel
theorem dL_act_148 : decode cL_act 148 = .ok (.aload 8, 2) := by decide +kernel
theorem dL_act_150 : decode cL_act 150 = .ok (.arraylength, 1) := by decide +kernel
theorem dL_act_151 : decode cL_act 151 = .ok (.istore 9, 2) := by decide +kernel
theorem dL_act_153 : decode cL_act 153 = .ok (.iconst 0, 1) := by decide +kernel
theorem dL_act_154 : decode cL_act 154 = .ok (.istore 10, 2) := by decide +kernel
theorem dL_act_156 : decode cL_act 156 = .ok (.iload 10, 2) := by decide +kernel
theorem dL_act_158 : decode cL_act 158 = .ok (.iload 9, 2) := by decide +kernel
theorem dL_act_160 : decode cL_act 160 = .ok (.if_icmp .ge 48, 3) := by decide +kernel
theorem dL_act_163 : decode cL_act 163 = .ok (.aload 8, 2) := by decide +kernel
theorem dL_act_165 : decode cL_act 165 = .ok (.iload 10, 2) := by decide +kernel
theorem dL_act_167 : decode cL_act 167 = .ok (.aaload, 1) := by decide +kernel
theorem dL_act_168 : decode cL_act 168 = .ok (.astore 11, 2) := by decide +kernel
theorem dL_act_170 : decode cL_act 170 = .ok (.iload 7, 2) := by decide +kernel
theorem dL_act_172 : decode cL_act 172 = .ok (.ifCond .ne 23, 3) := by decide +kernel
theorem dL_act_175 : decode cL_act 175 = .ok (.aload 11, 2) := by decide +kernel
theorem dL_act_177 : decode cL_act 177 = .ok (.arraylength, 1) := by decide +kernel
theorem dL_act_178 : decode cL_act 178 = .ok (.aload 6, 2) := by decide +kernel
theorem dL_act_180 : decode cL_act 180 = .ok (.arraylength, 1) := by decide +kernel
theorem dL_act_181 : decode cL_act 181 = .ok (.if_icmp .ne 18, 3) := by decide +kernel
theorem dL_act_184 : decode cL_act 184 = .ok (.aload 11, 2) := by decide +kernel
theorem dL_act_186 : decode cL_act 186 = .ok (.aload 6, 2) := by decide +kernel
theorem dL_act_188 : decode cL_act 188 = .ok (.iconst 0, 1) := by decide +kernel
theorem dL_act_189 : decode cL_act 189 = .ok (.invokestatic 31, 3) := by decide +kernel
theorem dL_act_192 : decode cL_act 192 = .ok (.ifCond .eq 7, 3) := by decide +kernel
theorem dL_act_195 : decode cL_act 195 = .ok (.iconst 1, 1) := by decide +kernel
theorem dL_act_196 : decode cL_act 196 = .ok (.goto 4, 3) := by decide +kernel
theorem dL_act_199 : decode cL_act 199 = .ok (.iconst 0, 1) := by decide +kernel
theorem dL_act_200 : decode cL_act 200 = .ok (.istore 7, 2) := by decide +kernel
theorem dL_act_202 : decode cL_act 202 = .ok (.iinc 10 1, 3) := by decide +kernel
theorem dL_act_205 : decode cL_act 205 = .ok (.goto (-49), 3) := by decide +kernel
theorem dL_act_208 : decode cL_act 208 = .ok (.iload 7, 2) := by decide +kernel
theorem dL_act_210 : decode cL_act 210 = .ok (.ifCond .eq 5, 3) := by decide +kernel
theorem dL_act_213 : decode cL_act 213 = .ok (.iconst 1, 1) := by decide +kernel
theorem dL_act_214 : decode cL_act 214 = .ok (.ireturn, 1) := by decide +kernel
theorem dL_act_215 : decode cL_act 215 = .ok (.aload_n 1, 1) := by decide +kernel
theorem dL_act_216 : decode cL_act 216 = .ok (.aload_n 1, 1) := by decide +kernel
theorem dL_act_217 : decode cL_act 217 = .ok (.getfield 21, 3) := by decide +kernel
theorem dL_act_220 : decode cL_act 220 = .ok (.aload 6, 2) := by decide +kernel
theorem dL_act_222 : decode cL_act 222 = .ok (.invokestatic 35, 3) := by decide +kernel
theorem dL_act_225 : decode cL_act 225 = .ok (.putfield 21, 3) := by decide +kernel
theorem dL_act_228 : decode cL_act 228 = .ok (.aload_n 0, 1) := by decide +kernel
theorem dL_act_229 : decode cL_act 229 = .ok (.aload 6, 2) := by decide +kernel
theorem dL_act_231 : decode cL_act 231 = .ok (.invokestatic 39, 3) := by decide +kernel
theorem dL_act_234 : decode cL_act 234 = .ok (.iload 4, 2) := by decide +kernel
theorem dL_act_236 : decode cL_act 236 = .ok (.if_icmp .ne 7, 3) := by decide +kernel
theorem dL_act_239 : decode cL_act 239 = .ok (.iconst 1, 1) := by decide +kernel
theorem dL_act_240 : decode cL_act 240 = .ok (.goto 4, 3) := by decide +kernel
theorem dL_act_243 : decode cL_act 243 = .ok (.iconst 0, 1) := by decide +kernel
theorem dL_act_244 : decode cL_act 244 = .ok (.ireturn, 1) := by decide +kernel
theorem dL_act_245 : decode cL_act 245 = .ok (.iload 4, 2) := by decide +kernel
theorem dL_act_247 : decode cL_act 247 = .ok (.ifCond .ne 5, 3) := by decide +kernel
theorem dL_act_250 : decode cL_act 250 = .ok (.iconst 1, 1) := by decide +kernel
theorem dL_act_251 : decode cL_act 251 = .ok (.ireturn, 1) := by decide +kernel
theorem dL_act_252 : decode cL_act 252 = .ok (.iload_n 2, 1) := by decide +kernel
theorem dL_act_253 : decode cL_act 253 = .ok (.iconst 3, 1) := by decide +kernel
theorem dL_act_254 : decode cL_act 254 = .ok (.ishr, 1) := by decide +kernel
theorem dL_act_255 : decode cL_act 255 = .ok (.iload 4, 2) := by decide +kernel
theorem dL_act_257 : decode cL_act 257 = .ok (.invokestatic 25, 3) := by decide +kernel
theorem dL_act_260 : decode cL_act 260 = .ok (.istore 8, 2) := by decide +kernel
theorem dL_act_262 : decode cL_act 262 = .ok (.aload_n 1, 1) := by decide +kernel
theorem dL_act_263 : decode cL_act 263 = .ok (.getfield 21, 3) := by decide +kernel
theorem dL_act_266 : decode cL_act 266 = .ok (.iload 8, 2) := by decide +kernel
theorem dL_act_268 : decode cL_act 268 = .ok (.aaload, 1) := by decide +kernel
theorem dL_act_269 : decode cL_act 269 = .ok (.arraylength, 1) := by decide +kernel
theorem dL_act_270 : decode cL_act 270 = .ok (.istore 9, 2) := by decide +kernel
theorem dL_act_272 : decode cL_act 272 = .ok (.aload_n 1, 1) := by decide +kernel
theorem dL_act_273 : decode cL_act 273 = .ok (.aload_n 1, 1) := by decide +kernel
theorem dL_act_274 : decode cL_act 274 = .ok (.getfield 21, 3) := by decide +kernel
theorem dL_act_277 : decode cL_act 277 = .ok (.iload 8, 2) := by decide +kernel
theorem dL_act_279 : decode cL_act 279 = .ok (.invokestatic 43, 3) := by decide +kernel
theorem dL_act_282 : decode cL_act 282 = .ok (.putfield 21, 3) := by decide +kernel
theorem dL_act_285 : decode cL_act 285 = .ok (.aload_n 0, 1) := by decide +kernel
theorem dL_act_286 : decode cL_act 286 = .ok (.iload 8, 2) := by decide +kernel
theorem dL_act_288 : decode cL_act 288 = .ok (.invokevirtual 47, 3) := by decide +kernel
theorem dL_act_291 : decode cL_act 291 = .ok (.iload 9, 2) := by decide +kernel
theorem dL_act_293 : decode cL_act 293 = .ok (.if_icmp .ne 7, 3) := by decide +kernel
theorem dL_act_296 : decode cL_act 296 = .ok (.iconst 1, 1) := by decide +kernel
theorem dL_act_297 : decode cL_act 297 = .ok (.goto 4, 3) := by decide +kernel
theorem dL_act_300 : decode cL_act 300 = .ok (.iconst 0, 1) := by decide +kernel
theorem dL_act_301 : decode cL_act 301 = .ok (.ireturn, 1) := by decide +kernel
theorem dL_act_302 : decode cL_act 302 = .ok (.iload_n 3, 1) := by decide +kernel
theorem dL_act_303 : decode cL_act 303 = .ok (.ifCond .ne 5, 3) := by decide +kernel
theorem dL_act_306 : decode cL_act 306 = .ok (.iconst 1, 1) := by decide +kernel
theorem dL_act_307 : decode cL_act 307 = .ok (.ireturn, 1) := by decide +kernel
theorem dL_act_308 : decode cL_act 308 = .ok (.aload_n 1, 1) := by decide +kernel
theorem dL_act_309 : decode cL_act 309 = .ok (.getfield 15, 3) := by decide +kernel
theorem dL_act_312 : decode cL_act 312 = .ok (.iload_n 3, 1) := by decide +kernel
theorem dL_act_313 : decode cL_act 313 = .ok (.iconst 1, 1) := by decide +kernel
theorem dL_act_314 : decode cL_act 314 = .ok (.isub, 1) := by decide +kernel
theorem dL_act_315 : decode cL_act 315 = .ok (.iaload, 1) := by decide +kernel
theorem dL_act_316 : decode cL_act 316 = .ok (.istore 10, 2) := by decide +kernel
theorem dL_act_318 : decode cL_act 318 = .ok (.iload_n 3, 1) := by decide +kernel
theorem dL_act_319 : decode cL_act 319 = .ok (.iconst 1, 1) := by decide +kernel
theorem dL_act_320 : decode cL_act 320 = .ok (.isub, 1) := by decide +kernel
theorem dL_act_321 : decode cL_act 321 = .ok (.newarray .int, 2) := by decide +kernel
theorem dL_act_323 : decode cL_act 323 = .ok (.astore 11, 2) := by decide +kernel
theorem dL_act_325 : decode cL_act 325 = .ok (.iconst 0, 1) := by decide +kernel
theorem dL_act_326 : decode cL_act 326 = .ok (.istore 12, 2) := by decide +kernel
theorem dL_act_328 : decode cL_act 328 = .ok (.iload 12, 2) := by decide +kernel
theorem dL_act_330 : decode cL_act 330 = .ok (.iload_n 3, 1) := by decide +kernel
theorem dL_act_331 : decode cL_act 331 = .ok (.iconst 1, 1) := by decide +kernel
theorem dL_act_332 : decode cL_act 332 = .ok (.isub, 1) := by decide +kernel
theorem dL_act_333 : decode cL_act 333 = .ok (.if_icmp .ge 21, 3) := by decide +kernel
theorem dL_act_336 : decode cL_act 336 = .ok (.aload 11, 2) := by decide +kernel
theorem dL_act_338 : decode cL_act 338 = .ok (.iload 12, 2) := by decide +kernel
theorem dL_act_340 : decode cL_act 340 = .ok (.aload_n 1, 1) := by decide +kernel
theorem dL_act_341 : decode cL_act 341 = .ok (.getfield 15, 3) := by decide +kernel
theorem dL_act_344 : decode cL_act 344 = .ok (.iload 12, 2) := by decide +kernel
theorem dL_act_346 : decode cL_act 346 = .ok (.iaload, 1) := by decide +kernel
theorem dL_act_347 : decode cL_act 347 = .ok (.iastore, 1) := by decide +kernel
theorem dL_act_348 : decode cL_act 348 = .ok (.iinc 12 1, 3) := by decide +kernel
theorem dL_act_351 : decode cL_act 351 = .ok (.goto (-23), 3) := by decide +kernel
theorem dL_act_354 : decode cL_act 354 = .ok (.aload_n 1, 1) := by decide +kernel
theorem dL_act_355 : decode cL_act 355 = .ok (.aload 11, 2) := by decide +kernel
theorem dL_act_357 : decode cL_act 357 = .ok (.putfield 15, 3) := by decide +kernel
theorem dL_act_360 : decode cL_act 360 = .ok (.aload_n 0, 1) := by decide +kernel
theorem dL_act_361 : decode cL_act 361 = .ok (.invokevirtual 51, 3) := by decide +kernel
theorem dL_act_364 : decode cL_act 364 = .ok (.iload 10, 2) := by decide +kernel
theorem dL_act_366 : decode cL_act 366 = .ok (.if_icmp .ne 7, 3) := by decide +kernel
theorem dL_act_369 : decode cL_act 369 = .ok (.iconst 1, 1) := by decide +kernel
theorem dL_act_370 : decode cL_act 370 = .ok (.goto 4, 3) := by decide +kernel
theorem dL_act_373 : decode cL_act 373 = .ok (.iconst 0, 1) := by decide +kernel
theorem dL_act_374 : decode cL_act 374 = .ok (.ireturn, 1) := by decide +kernel
theorem dL_act_375 : decode cL_act 375 = .ok (.iload_n 2, 1) := by decide +kernel
theorem dL_act_376 : decode cL_act 376 = .ok (.iconst 2, 1) := by decide +kernel
theorem dL_act_377 : decode cL_act 377 = .ok (.ishr, 1) := by decide +kernel
theorem dL_act_378 : decode cL_act 378 = .ok (.iconst 4, 1) := by decide +kernel
theorem dL_act_379 : decode cL_act 379 = .ok (.invokestatic 25, 3) := by decide +kernel
theorem dL_act_382 : decode cL_act 382 = .ok (.ifCond .le 5, 3) := by decide +kernel
theorem dL_act_385 : decode cL_act 385 = .ok (.iconst 1, 1) := by decide +kernel
theorem dL_act_386 : decode cL_act 386 = .ok (.ireturn, 1) := by decide +kernel
theorem dL_act_387 : decode cL_act 387 = .ok (.aload_n 1, 1) := by decide +kernel
theorem dL_act_388 : decode cL_act 388 = .ok (.iconst 0, 1) := by decide +kernel
theorem dL_act_389 : decode cL_act 389 = .ok (.newarray .int, 2) := by decide +kernel
theorem dL_act_391 : decode cL_act 391 = .ok (.putfield 15, 3) := by decide +kernel
theorem dL_act_394 : decode cL_act 394 = .ok (.aload_n 0, 1) := by decide +kernel
theorem dL_act_395 : decode cL_act 395 = .ok (.invokevirtual 55, 3) := by decide +kernel
theorem dL_act_398 : decode cL_act 398 = .ok (.iload_n 3, 1) := by decide +kernel
theorem dL_act_399 : decode cL_act 399 = .ok (.if_icmp .ne 7, 3) := by decide +kernel
theorem dL_act_402 : decode cL_act 402 = .ok (.iconst 1, 1) := by decide +kernel
theorem dL_act_403 : decode cL_act 403 = .ok (.goto 4, 3) := by decide +kernel
theorem dL_act_406 : decode cL_act 406 = .ok (.iconst 0, 1) := by decide +kernel
theorem dL_act_407 : decode cL_act 407 = .ok (.ireturn, 1) := by decide +kernel
theorem dL_act_408 : decode cL_act 408 = .ok (.aload_n 1, 1) := by decide +kernel
theorem dL_act_409 : decode cL_act 409 = .ok (.getfield 58, 3) := by decide +kernel
theorem dL_act_412 : decode cL_act 412 = .ok (.istore 12, 2) := by decide +kernel
theorem dL_act_414 : decode cL_act 414 = .ok (.aload_n 1, 1) := by decide +kernel
theorem dL_act_415 : decode cL_act 415 = .ok (.iconst 1, 1) := by decide +kernel
theorem dL_act_416 : decode cL_act 416 = .ok (.iload_n 2, 1) := by decide +kernel
theorem dL_act_417 : decode cL_act 417 = .ok (.iconst 2, 1) := by decide +kernel
theorem dL_act_418 : decode cL_act 418 = .ok (.ishr, 1) := by decide +kernel
theorem dL_act_419 : decode cL_act 419 = .ok (.bipush 9, 2) := by decide +kernel
theorem dL_act_421 : decode cL_act 421 = .ok (.invokestatic 25, 3) := by decide +kernel
theorem dL_act_424 : decode cL_act 424 = .ok (.iadd, 1) := by decide +kernel
theorem dL_act_425 : decode cL_act 425 = .ok (.putfield 58, 3) := by decide +kernel
theorem dL_act_428 : decode cL_act 428 = .ok (.aload_n 0, 1) := by decide +kernel
theorem dL_act_429 : decode cL_act 429 = .ok (.aload_n 1, 1) := by decide +kernel
theorem dL_act_430 : decode cL_act 430 = .ok (.getfield 58, 3) := by decide +kernel
theorem dL_act_433 : decode cL_act 433 = .ok (.invokevirtual 62, 3) := by decide +kernel
theorem dL_act_436 : decode cL_act 436 = .ok (.iload 12, 2) := by decide +kernel
theorem dL_act_438 : decode cL_act 438 = .ok (.if_icmp .ne 7, 3) := by decide +kernel
theorem dL_act_441 : decode cL_act 441 = .ok (.iconst 1, 1) := by decide +kernel
theorem dL_act_442 : decode cL_act 442 = .ok (.goto 4, 3) := by decide +kernel
theorem dL_act_445 : decode cL_act 445 = .ok (.iconst 0, 1) := by decide +kernel
theorem dL_act_446 : decode cL_act 446 = .ok (.ireturn, 1) := by decide +kernel
theorem dL_act_447 : decode cL_act 447 = .ok (.iload_n 3, 1) := by decide +kernel
theorem dL_act_448 : decode cL_act 448 = .ok (.ifCond .ne 5, 3) := by decide +kernel
theorem dL_act_451 : decode cL_act 451 = .ok (.iconst 1, 1) := by decide +kernel
theorem dL_act_452 : decode cL_act 452 = .ok (.ireturn, 1) := by decide +kernel
theorem dL_act_453 : decode cL_act 453 = .ok (.aload_n 1, 1) := by decide +kernel
theorem dL_act_454 : decode cL_act 454 = .ok (.dup, 1) := by decide +kernel
theorem dL_act_455 : decode cL_act 455 = .ok (.getfield 65, 3) := by decide +kernel
theorem dL_act_458 : decode cL_act 458 = .ok (.aload_n 1, 1) := by decide +kernel
theorem dL_act_459 : decode cL_act 459 = .ok (.aload_n 1, 1) := by decide +kernel
theorem dL_act_460 : decode cL_act 460 = .ok (.getfield 21, 3) := by decide +kernel
theorem dL_act_463 : decode cL_act 463 = .ok (.invokevirtual 68, 3) := by decide +kernel
theorem dL_act_466 : decode cL_act 466 = .ok (.iadd, 1) := by decide +kernel
theorem dL_act_467 : decode cL_act 467 = .ok (.putfield 65, 3) := by decide +kernel
theorem dL_act_470 : decode cL_act 470 = .ok (.aload_n 1, 1) := by decide +kernel
theorem dL_act_471 : decode cL_act 471 = .ok (.aload_n 1, 1) := by decide +kernel
theorem dL_act_472 : decode cL_act 472 = .ok (.invokevirtual 72, 3) := by decide +kernel
theorem dL_act_475 : decode cL_act 475 = .ok (.aload_n 1, 1) := by decide +kernel
theorem dL_act_476 : decode cL_act 476 = .ok (.getfield 58, 3) := by decide +kernel
theorem dL_act_479 : decode cL_act 479 = .ok (.invokevirtual 75, 3) := by decide +kernel
theorem dL_act_482 : decode cL_act 482 = .ok (.astore 13, 2) := by decide +kernel
theorem dL_act_484 : decode cL_act 484 = .ok (.aload_n 1, 1) := by decide +kernel
theorem dL_act_485 : decode cL_act 485 = .ok (.dup, 1) := by decide +kernel
theorem dL_act_486 : decode cL_act 486 = .ok (.getfield 79, 3) := by decide +kernel
theorem dL_act_489 : decode cL_act 489 = .ok (.aload 13, 2) := by decide +kernel
theorem dL_act_491 : decode cL_act 491 = .ok (.iconst 0, 1) := by decide +kernel
theorem dL_act_492 : decode cL_act 492 = .ok (.iaload, 1) := by decide +kernel
theorem dL_act_493 : decode cL_act 493 = .ok (.iadd, 1) := by decide +kernel
theorem dL_act_494 : decode cL_act 494 = .ok (.putfield 79, 3) := by decide +kernel
theorem dL_act_497 : decode cL_act 497 = .ok (.aload_n 1, 1) := by decide +kernel
theorem dL_act_498 : decode cL_act 498 = .ok (.dup, 1) := by decide +kernel
theorem dL_act_499 : decode cL_act 499 = .ok (.getfield 82, 3) := by decide +kernel
theorem dL_act_502 : decode cL_act 502 = .ok (.aload 13, 2) := by decide +kernel
theorem dL_act_504 : decode cL_act 504 = .ok (.iconst 1, 1) := by decide +kernel
theorem dL_act_505 : decode cL_act 505 = .ok (.iaload, 1) := by decide +kernel
theorem dL_act_506 : decode cL_act 506 = .ok (.iadd, 1) := by decide +kernel
theorem dL_act_507 : decode cL_act 507 = .ok (.putfield 82, 3) := by decide +kernel
theorem dL_act_510 : decode cL_act 510 = .ok (.aload_n 1, 1) := by decide +kernel
theorem dL_act_511 : decode cL_act 511 = .ok (.dup, 1) := by decide +kernel
theorem dL_act_512 : decode cL_act 512 = .ok (.getfield 85, 3) := by decide +kernel
theorem dL_act_515 : decode cL_act 515 = .ok (.aload 13, 2) := by decide +kernel
theorem dL_act_517 : decode cL_act 517 = .ok (.iconst 2, 1) := by decide +kernel
theorem dL_act_518 : decode cL_act 518 = .ok (.iaload, 1) := by decide +kernel
theorem dL_act_519 : decode cL_act 519 = .ok (.iadd, 1) := by decide +kernel
theorem dL_act_520 : decode cL_act 520 = .ok (.putfield 85, 3) := by decide +kernel
theorem dL_act_523 : decode cL_act 523 = .ok (.aload_n 1, 1) := by decide +kernel
theorem dL_act_524 : decode cL_act 524 = .ok (.iconst 0, 1) := by decide +kernel
theorem dL_act_525 : decode cL_act 525 = .ok (.newarray .int, 2) := by decide +kernel
theorem dL_act_527 : decode cL_act 527 = .ok (.putfield 15, 3) := by decide +kernel
theorem dL_act_530 : decode cL_act 530 = .ok (.aload_n 0, 1) := by decide +kernel
theorem dL_act_531 : decode cL_act 531 = .ok (.invokevirtual 88, 3) := by decide +kernel
theorem dL_act_534 : decode cL_act 534 = .ok (.aload 13, 2) := by decide +kernel
theorem dL_act_536 : decode cL_act 536 = .ok (.iconst 2, 1) := by decide +kernel
theorem dL_act_537 : decode cL_act 537 = .ok (.iaload, 1) := by decide +kernel
theorem dL_act_538 : decode cL_act 538 = .ok (.if_icmp .ne 7, 3) := by decide +kernel
theorem dL_act_541 : decode cL_act 541 = .ok (.iconst 1, 1) := by decide +kernel
theorem dL_act_542 : decode cL_act 542 = .ok (.goto 4, 3) := by decide +kernel
theorem dL_act_545 : decode cL_act 545 = .ok (.iconst 0, 1) := by decide +kernel
theorem dL_act_546 : decode cL_act 546 = .ok (.ireturn, 1) := by decide +kernel
theorem dL_act_547 : decode cL_act 547 = .ok (.iload_n 3, 1) := by decide +kernel
theorem dL_act_548 : decode cL_act 548 = .ok (.bipush 24, 2) := by decide +kernel
theorem dL_act_550 : decode cL_act 550 = .ok (.if_icmp .ne 5, 3) := by decide +kernel
theorem dL_act_553 : decode cL_act 553 = .ok (.iconst 1, 1) := by decide +kernel
theorem dL_act_554 : decode cL_act 554 = .ok (.ireturn, 1) := by decide +kernel
theorem dL_act_555 : decode cL_act 555 = .ok (.aload_n 1, 1) := by decide +kernel
theorem dL_act_556 : decode cL_act 556 = .ok (.aload_n 1, 1) := by decide +kernel
theorem dL_act_557 : decode cL_act 557 = .ok (.getfield 15, 3) := by decide +kernel
theorem dL_act_560 : decode cL_act 560 = .ok (.iload_n 2, 1) := by decide +kernel
theorem dL_act_561 : decode cL_act 561 = .ok (.iconst 2, 1) := by decide +kernel
theorem dL_act_562 : decode cL_act 562 = .ok (.ishr, 1) := by decide +kernel
theorem dL_act_563 : decode cL_act 563 = .ok (.iload 5, 2) := by decide +kernel
theorem dL_act_565 : decode cL_act 565 = .ok (.invokestatic 25, 3) := by decide +kernel
theorem dL_act_568 : decode cL_act 568 = .ok (.invokestatic 90, 3) := by decide +kernel
theorem dL_act_571 : decode cL_act 571 = .ok (.putfield 15, 3) := by decide +kernel
theorem dL_act_574 : decode cL_act 574 = .ok (.aload_n 0, 1) := by decide +kernel
theorem dL_act_575 : decode cL_act 575 = .ok (.iload_n 2, 1) := by decide +kernel
theorem dL_act_576 : decode cL_act 576 = .ok (.iconst 2, 1) := by decide +kernel
theorem dL_act_577 : decode cL_act 577 = .ok (.ishr, 1) := by decide +kernel
theorem dL_act_578 : decode cL_act 578 = .ok (.iload 5, 2) := by decide +kernel
theorem dL_act_580 : decode cL_act 580 = .ok (.invokestatic 25, 3) := by decide +kernel
theorem dL_act_583 : decode cL_act 583 = .ok (.invokevirtual 93, 3) := by decide +kernel
theorem dL_act_586 : decode cL_act 586 = .ok (.iload_n 3, 1) := by decide +kernel
theorem dL_act_587 : decode cL_act 587 = .ok (.iconst 1, 1) := by decide +kernel
theorem dL_act_588 : decode cL_act 588 = .ok (.iadd, 1) := by decide +kernel
theorem dL_act_589 : decode cL_act 589 = .ok (.if_icmp .ne 7, 3) := by decide +kernel
theorem dL_act_592 : decode cL_act 592 = .ok (.iconst 1, 1) := by decide +kernel
theorem dL_act_593 : decode cL_act 593 = .ok (.goto 4, 3) := by decide +kernel
theorem dL_act_596 : decode cL_act 596 = .ok (.iconst 0, 1) := by decide +kernel
theorem dL_act_597 : decode cL_act 597 = .ok (.ireturn, 1) := by decide +kernel
