set_option maxRecDepth 20000 in
theorem ggL_law_X4_init : GoodIn wsL_law wsX4_init := goodIn_r _ [17, 18, 19, 20, 21, 22, 23, 24, 25, 26, 27, 28, 29, 30, 31, 32, 33, 34, 35, 36, 37, 38, 39, 40, 41, 42, 3, 43, 44, 45, 46, 47, 48, 49, 50, 51, 52, 53, 54, 55, 56, 57, 58, 59, 60, 476, 477, 478, 459, 460, 461, 462, 463, 464, 465, 466, 467, 468, 479, 480, 481, 482, 483, 484, 485, 486, 487, 488, 489] (by decide +kernel) (by decide +kernel)
set_option maxRecDepth 20000 in
theorem gL_law_X4_init : GoodIn wsL_law (wsX4_init) := ggL_law_X4_init
set_option maxRecDepth 20000 in
theorem ggL_law_L_cell : GoodIn wsL_law wsL_cell := goodIn_r _ [77, 78] (by decide +kernel) (by decide +kernel)
set_option maxRecDepth 20000 in
theorem gL_law_L_cell : GoodIn wsL_law (va_wsS RL 97 yL_cell wsL_cell) := goodIn_app (goodIn_of _ (by decide +kernel)) ggL_law_L_cell
set_option maxRecDepth 20000 in
theorem ggL_law_X4_words : GoodIn wsL_law wsX4_words := goodIn_r _ [348, 28, 214, 147, 148, 27, 149, 150, 459, 460, 461, 462, 463, 464, 465, 466, 467, 468, 479, 480] (by decide +kernel) (by decide +kernel)
set_option maxRecDepth 20000 in
theorem gL_law_X4_words : GoodIn wsL_law (wsV RL 110 RX4 yX4_words wsX4_words) := goodIn_app (goodIn_of _ (by decide +kernel)) ggL_law_X4_words
set_option maxRecDepth 20000 in
theorem ggL_law_X4_codes : GoodIn wsL_law wsX4_codes := goodIn_r _ [352, 24, 190, 156, 157, 23, 158, 113, 459, 460, 461, 462, 463, 464, 465, 466, 467, 468, 476, 477, 478] (by decide +kernel) (by decide +kernel)
set_option maxRecDepth 20000 in
theorem gL_law_X4_codes : GoodIn wsL_law (wsV RL 113 RX4 yX4_codes wsX4_codes) := goodIn_app (goodIn_of _ (by decide +kernel)) ggL_law_X4_codes
set_option maxRecDepth 20000 in
theorem ggL_law_X4_groups : GoodIn wsL_law wsX4_groups := goodIn_r _ [356, 32, 273, 274, 275, 31, 276, 189, 459, 460, 461, 462, 463, 464, 465, 466, 467, 468, 481, 482, 483, 484, 485] (by decide +kernel) (by decide +kernel)
set_option maxRecDepth 20000 in
theorem gL_law_X4_groups : GoodIn wsL_law (wsV RL 115 RX4 yX4_groups wsX4_groups) := goodIn_app (goodIn_of _ (by decide +kernel)) ggL_law_X4_groups
set_option maxRecDepth 20000 in
theorem ggL_law_X4_codeOf : GoodIn wsL_law wsX4_codeOf := goodIn_ca (goodIn_r _ [360, 198, 199, 32, 361, 286, 287, 31, 288, 189, 277, 278, 279, 280, 56, 281, 282, 283, 284, 57, 285, 459, 460, 461, 462, 463, 464, 465, 466, 467, 468, 481, 482, 483, 484, 485] (by decide +kernel) (by decide +kernel)) (goodIn_sub (fun _ h => List.mem_append_right _ h) (by decide +kernel))
set_option maxRecDepth 20000 in
theorem gL_law_X4_codeOf : GoodIn wsL_law (wsV RL 116 RX4 yX4_codeOf wsX4_codeOf) := goodIn_app (goodIn_of _ (by decide +kernel)) ggL_law_X4_codeOf
set_option maxRecDepth 20000 in
theorem ggL_law_X4_startOf : GoodIn wsL_law wsX4_startOf := goodIn_ca (goodIn_r _ [365, 198, 199, 32, 361, 286, 287, 31, 288, 189, 289, 282, 283, 284, 57, 285, 459, 460, 461, 462, 463, 464, 465, 466, 467, 468, 481, 482, 483, 484, 485] (by decide +kernel) (by decide +kernel)) (goodIn_sub (fun _ h => List.mem_append_right _ h) (by decide +kernel))
set_option maxRecDepth 20000 in
theorem gL_law_X4_startOf : GoodIn wsL_law (wsV RL 119 RX4 yX4_startOf wsX4_startOf) := goodIn_app (goodIn_of _ (by decide +kernel)) ggL_law_X4_startOf
set_option maxRecDepth 20000 in
theorem ggL_law_X4_lengthOf : GoodIn wsL_law wsX4_lengthOf := goodIn_ca (goodIn_r _ [369, 198, 199, 24, 200, 123, 124, 23, 125, 113, 201, 164, 165, 166, 44, 122, 459, 460, 461, 462, 463, 464, 465, 466, 467, 468, 476, 477, 478] (by decide +kernel) (by decide +kernel)) (goodIn_sub (fun _ h => List.mem_append_right _ h) (by decide +kernel))
set_option maxRecDepth 20000 in
theorem gL_law_X4_lengthOf : GoodIn wsL_law (wsV RL 122 RX4 yX4_lengthOf wsX4_lengthOf) := goodIn_app (goodIn_of _ (by decide +kernel)) ggL_law_X4_lengthOf
set_option maxRecDepth 20000 in
theorem ggL_law_X4_typeOf : GoodIn wsL_law wsX4_typeOf := goodIn_ca (goodIn_r _ [373, 198, 199, 28, 374, 168, 169, 27, 170, 150, 215, 172, 173, 174, 49, 167, 459, 460, 461, 462, 463, 464, 465, 466, 467, 468, 479, 480] (by decide +kernel) (by decide +kernel)) (goodIn_sub (fun _ h => List.mem_append_right _ h) (by decide +kernel))
set_option maxRecDepth 20000 in
theorem gL_law_X4_typeOf : GoodIn wsL_law (wsV RL 125 RX4 yX4_typeOf wsX4_typeOf) := goodIn_app (goodIn_of _ (by decide +kernel)) ggL_law_X4_typeOf
set_option maxRecDepth 20000 in
theorem ggL_law_X4_usesOf : GoodIn wsL_law wsX4_usesOf := goodIn_ca (goodIn_r _ [378, 198, 199, 24, 32, 200, 123, 124, 23, 125, 113, 379, 380, 381, 31, 382, 189, 383, 278, 279, 280, 56, 281, 282, 283, 284, 57, 285, 286, 287, 288, 459, 460, 461, 462, 463, 464, 465, 466, 467, 468, 476, 477, 478, 481, 482, 483, 484, 485] (by decide +kernel) (by decide +kernel)) (goodIn_sub (fun _ h => List.mem_append_right _ h) (by decide +kernel))
set_option maxRecDepth 20000 in
theorem gL_law_X4_usesOf : GoodIn wsL_law (wsV RL 128 RX4 yX4_usesOf wsX4_usesOf) := goodIn_app (goodIn_of _ (by decide +kernel)) ggL_law_X4_usesOf
set_option maxRecDepth 20000 in
theorem ggL_law_X4_counted : GoodIn wsL_law wsX4_counted := goodIn_r _ [272, 32, 28, 273, 274, 275, 31, 276, 189, 277, 278, 279, 280, 56, 281, 282, 283, 284, 57, 285, 286, 287, 288, 289, 290, 291, 292, 27, 293, 171, 172, 173, 174, 49, 167, 168, 169, 170, 150, 459, 460, 461, 462, 463, 464, 465, 466, 467, 468, 481, 482, 483, 484, 485, 479, 480] (by decide +kernel) (by decide +kernel)
set_option maxRecDepth 20000 in
theorem gL_law_X4_counted : GoodIn wsL_law (wsV RL 131 RX4 yX4_counted wsX4_counted) := goodIn_app (goodIn_of _ (by decide +kernel)) ggL_law_X4_counted
set_option maxRecDepth 20000 in
theorem ggL_law_X4_cost : GoodIn wsL_law wsX4_cost := goodIn_r _ [268, 269, 270, 271, 2, 272, 32, 28, 273, 274, 275, 31, 276, 189, 277, 278, 279, 280, 56, 281, 282, 283, 284, 57, 285, 286, 287, 288, 289, 290, 291, 292, 27, 293, 171, 172, 173, 174, 49, 167, 168, 169, 170, 150, 294, 295, 296, 297, 298, 6, 7, 8, 214, 147, 148, 149, 459, 460, 461, 462, 463, 464, 465, 466, 467, 468, 481, 482, 483, 484, 485, 479, 480] (by decide +kernel) (by decide +kernel)
set_option maxRecDepth 20000 in
theorem gL_law_X4_cost : GoodIn wsL_law (wsV RL 134 RX4 yX4_cost wsX4_cost) := goodIn_app (goodIn_of _ (by decide +kernel)) ggL_law_X4_cost
set_option maxRecDepth 20000 in
theorem ggL_law_X4_saved : GoodIn wsL_law wsX4_saved := goodIn_r _ [389, 28, 390, 391, 392, 27, 393, 150, 394, 291, 292, 293, 171, 172, 173, 174, 49, 167, 168, 169, 170, 294, 295, 296, 2, 297, 298, 6, 7, 8, 214, 147, 148, 149, 265, 266, 267, 268, 269, 270, 271, 272, 32, 273, 274, 275, 31, 276, 189, 277, 278, 279, 280, 56, 281, 282, 283, 284, 57, 285, 286, 287, 288, 289, 290, 459, 460, 461, 462, 463, 464, 465, 466, 467, 468, 479, 480, 481, 482, 483, 484, 485] (by decide +kernel) (by decide +kernel)
set_option maxRecDepth 20000 in
theorem gL_law_X4_saved : GoodIn wsL_law (wsV RL 136 RX4 yX4_saved wsX4_saved) := goodIn_app (goodIn_of _ (by decide +kernel)) ggL_law_X4_saved
set_option maxRecDepth 20000 in
theorem ggL_law_X4_repeatsIfSent : GoodIn wsL_law wsX4_repeatsIfSent := goodIn_r _ [398, 37, 32, 262, 38, 273, 274, 275, 31, 276, 189, 299, 300, 301, 36, 302, 303, 304, 305, 306, 307, 308, 309, 310, 311, 312, 313, 314, 315, 2, 316, 321, 322, 323, 324, 459, 460, 461, 462, 463, 464, 465, 466, 467, 468, 481, 482, 483, 484, 485, 486, 487, 488, 489] (by decide +kernel) (by decide +kernel)
set_option maxRecDepth 20000 in
theorem gL_law_X4_repeatsIfSent : GoodIn wsL_law (wsV RL 144 RX4 yX4_repeatsIfSent wsX4_repeatsIfSent) := goodIn_app (goodIn_of _ (by decide +kernel)) ggL_law_X4_repeatsIfSent
set_option maxRecDepth 20000 in
theorem ggL_law_X4_wouldBeGarbled : GoodIn wsL_law wsX4_wouldBeGarbled := goodIn_r _ [402, 37, 32, 262, 38, 273, 274, 275, 31, 276, 189, 299, 300, 301, 36, 302, 303, 304, 305, 306, 307, 308, 309, 310, 311, 312, 313, 314, 315, 2, 316, 403, 404, 405, 406, 459, 460, 461, 462, 463, 464, 465, 466, 467, 468, 481, 482, 483, 484, 485, 486, 487, 488, 489] (by decide +kernel) (by decide +kernel)
set_option maxRecDepth 20000 in
theorem gL_law_X4_wouldBeGarbled : GoodIn wsL_law (wsV RL 147 RX4 yX4_wouldBeGarbled wsX4_wouldBeGarbled) := goodIn_app (goodIn_of _ (by decide +kernel)) ggL_law_X4_wouldBeGarbled
set_option maxRecDepth 20000 in
theorem ggL_law_X4_untilGarbled : GoodIn wsL_law wsX4_untilGarbled := goodIn_r _ [410, 262, 38, 411, 315, 2, 316, 459, 460, 461, 462, 463, 464, 465, 466, 467, 468] (by decide +kernel) (by decide +kernel)
set_option maxRecDepth 20000 in
theorem gL_law_X4_untilGarbled : GoodIn wsL_law (wsV RL 150 RX4 yX4_untilGarbled wsX4_untilGarbled) := goodIn_app (goodIn_of _ (by decide +kernel)) ggL_law_X4_untilGarbled
set_option maxRecDepth 20000 in
theorem ggL_law_X4_lost : GoodIn wsL_law wsX4_lost := goodIn_r _ [415, 264, 459, 460, 461, 462, 463, 464, 465, 466, 467, 468] (by decide +kernel) (by decide +kernel)
set_option maxRecDepth 20000 in
theorem gL_law_X4_lost : GoodIn wsL_law (wsV RL 153 RX4 yX4_lost wsX4_lost) := goodIn_app (goodIn_of _ (by decide +kernel)) ggL_law_X4_lost
set_option maxRecDepth 20000 in
theorem ggL_law_X4_repeats : GoodIn wsL_law wsX4_repeats := goodIn_r _ [419, 263, 459, 460, 461, 462, 463, 464, 465, 466, 467, 468] (by decide +kernel) (by decide +kernel)
set_option maxRecDepth 20000 in
theorem gL_law_X4_repeats : GoodIn wsL_law (wsV RL 155 RX4 yX4_repeats wsX4_repeats) := goodIn_app (goodIn_of _ (by decide +kernel)) ggL_law_X4_repeats
set_option maxRecDepth 20000 in
theorem ggL_law_X4_sentGroups : GoodIn wsL_law wsX4_sentGroups := goodIn_r _ [423, 262, 459, 460, 461, 462, 463, 464, 465, 466, 467, 468] (by decide +kernel) (by decide +kernel)
set_option maxRecDepth 20000 in
theorem gL_law_X4_sentGroups : GoodIn wsL_law (wsV RL 157 RX4 yX4_sentGroups wsX4_sentGroups) := goodIn_app (goodIn_of _ (by decide +kernel)) ggL_law_X4_sentGroups
set_option maxRecDepth 20000 in
theorem ggL_law_L_below : GoodIn wsL_law wsL_below := goodIn_r _ [81, 82] (by decide +kernel) (by decide +kernel)
set_option maxRecDepth 20000 in
theorem gL_law_L_below : GoodIn wsL_law (va_wsS RL 25 yL_below wsL_below) := goodIn_app (goodIn_of _ (by decide +kernel)) ggL_law_L_below
set_option maxRecDepth 20000 in
theorem ggL_law_X4_write : GoodIn wsL_law wsX4_write := goodIn_ca (goodIn_ca (goodIn_r _ [335, 99, 100, 101, 102, 28, 103, 104, 2, 105, 336, 337, 338, 27, 339, 150, 340, 341, 342, 343, 49, 344, 131, 132, 133, 134, 32, 24, 135, 136, 137, 31, 138, 139, 140, 141, 142, 143, 144, 7, 145, 54, 146, 147, 148, 149, 151, 152, 153, 154, 55, 56, 155, 156, 157, 23, 158, 113, 159, 160, 161, 162, 163, 164, 165, 166, 44, 122, 123, 124, 125, 167, 168, 169, 170, 171, 172, 173, 174, 175, 119, 120, 121, 43, 176, 177, 178, 179, 180, 181, 182, 183, 184, 185, 186, 187, 188, 189, 57, 214, 459, 460, 461, 462, 463, 464, 465, 466, 467, 468, 479, 480, 481, 482, 483, 484, 485, 476, 477, 478] (by decide +kernel) (by decide +kernel)) (goodIn_sub (fun _ h => List.mem_append_left _ (List.mem_append_left _ (List.mem_append_right _ h))) (by decide +kernel))) (goodIn_sub (fun _ h => List.mem_append_left _ (List.mem_append_right _ h)) (by decide +kernel))
set_option maxRecDepth 20000 in
theorem gL_law_X4_write : GoodIn wsL_law (wsV RL 93 RX4 yX4_write wsX4_write) := goodIn_app (goodIn_of _ (by decide +kernel)) ggL_law_X4_write
set_option maxRecDepth 20000 in
theorem ggL_law_X4_strike : GoodIn wsL_law wsX4_strike := goodIn_ca (goodIn_r _ [213, 101, 102, 28, 214, 147, 148, 27, 149, 150, 215, 172, 173, 174, 49, 167, 168, 169, 170, 216, 217, 218, 219, 220, 6, 7, 8, 131, 132, 133, 2, 134, 32, 24, 135, 136, 137, 31, 138, 139, 140, 141, 142, 143, 144, 145, 54, 146, 151, 152, 153, 154, 55, 56, 155, 156, 157, 23, 158, 113, 159, 160, 161, 162, 163, 164, 165, 166, 44, 122, 123, 124, 125, 171, 175, 119, 120, 121, 43, 176, 177, 178, 179, 180, 181, 182, 183, 184, 185, 186, 187, 188, 189, 57, 459, 460, 461, 462, 463, 464, 465, 466, 467, 468, 479, 480, 481, 482, 483, 484, 485, 476, 477, 478] (by decide +kernel) (by decide +kernel)) (goodIn_sub (fun _ h => List.mem_append_left _ (List.mem_append_right _ h)) (by decide +kernel))
set_option maxRecDepth 20000 in
theorem gL_law_X4_strike : GoodIn wsL_law (wsV RL 51 RX4 yX4_strike wsX4_strike) := goodIn_app (goodIn_of _ (by decide +kernel)) ggL_law_X4_strike
set_option maxRecDepth 20000 in
theorem ggL_law_X4_earned : GoodIn wsL_law wsX4_earned := goodIn_r _ [427, 261, 459, 460, 461, 462, 463, 464, 465, 466, 467, 468] (by decide +kernel) (by decide +kernel)
set_option maxRecDepth 20000 in
theorem gL_law_X4_earned : GoodIn wsL_law (wsV RL 160 RX4 yX4_earned wsX4_earned) := goodIn_app (goodIn_of _ (by decide +kernel)) ggL_law_X4_earned
set_option maxRecDepth 20000 in
theorem ggL_law_X5_send : GoodIn wsL_law wsX5_send := goodIn_r _ [252, 3, 253, 254, 255, 67, 256, 469, 470, 471, 472, 473, 474, 475] (by decide +kernel) (by decide +kernel)
set_option maxRecDepth 20000 in
theorem gL_law_X5_send : GoodIn wsL_law (wsV RL 75 RX5 yX5_send wsX5_send) := goodIn_app (goodIn_of _ (by decide +kernel)) ggL_law_X5_send
set_option maxRecDepth 20000 in
theorem ggL_law_X4_send_c : GoodIn wsL_law [.code yX4_send cX4_send 1 (some .int)] := goodIn_r _ [260] (by decide +kernel) (by decide +kernel)
set_option maxRecDepth 20000 in
theorem ggL_law_X4_send_s0 : GoodIn wsL_law wsX4_send_r1 := goodIn_r _ [101, 102, 28, 261, 37, 32, 262, 38, 263, 264, 214, 147, 148, 27, 149, 150, 265, 266, 267, 2, 268, 269, 270, 271] (by decide +kernel) (by decide +kernel)
set_option maxRecDepth 20000 in
theorem ggL_law_X4_send_s1 : GoodIn wsL_law wsX4_send_r2 := goodIn_r _ [272, 273, 274, 275, 31, 276, 189, 277, 278, 279, 280, 56, 281, 282, 283, 284, 57, 285, 286, 287, 288, 289, 290, 291] (by decide +kernel) (by decide +kernel)
set_option maxRecDepth 20000 in
theorem ggL_law_X4_send_s2 : GoodIn wsL_law wsX4_send_r3 := goodIn_r _ [292, 293, 171, 172, 173, 174, 49, 167, 168, 169, 170, 294, 295, 296, 297, 298, 6, 7, 8, 299, 300, 301, 36, 302] (by decide +kernel) (by decide +kernel)
set_option maxRecDepth 20000 in
theorem ggL_law_X4_send_s3 : GoodIn wsL_law wsX4_send_r4 := goodIn_r _ [303, 304, 305, 306, 307, 308, 309, 310, 311, 312, 313, 314, 315, 316, 317, 318, 319, 320, 321, 322, 323, 324, 325, 326] (by decide +kernel) (by decide +kernel)
set_option maxRecDepth 20000 in
theorem ggL_law_X4_send_s4 : GoodIn wsL_law wsX4_send_r5 := goodIn_r _ [327, 328, 225, 226, 227, 228, 131, 132, 133, 134, 24, 135, 136, 137, 138, 139, 140, 141, 142, 143, 144, 145, 54, 146] (by decide +kernel) (by decide +kernel)
set_option maxRecDepth 20000 in
theorem ggL_law_X4_send_s5 : GoodIn wsL_law wsX4_send_r6 := goodIn_r _ [151, 152, 153, 154, 55, 155, 156, 157, 23, 158, 113, 159, 160, 161, 162, 163, 164, 165, 166, 44, 122, 123, 124, 125] (by decide +kernel) (by decide +kernel)
set_option maxRecDepth 20000 in
theorem ggL_law_X4_send_s6 : GoodIn wsL_law wsX4_send_r7 := goodIn_r _ [175, 119, 120, 121, 43, 176, 177, 178, 179, 180, 181, 182, 183, 184, 185, 186, 187, 188] (by decide +kernel) (by decide +kernel)
set_option maxRecDepth 20000 in
theorem ggL_law_X4_send_s7 : GoodIn wsL_law wsX40 := goodIn_r _ [459, 460, 461, 462, 463, 464, 465, 466, 467, 468] (by decide +kernel) (by decide +kernel)
set_option maxRecDepth 20000 in
theorem ggL_law_X4_send_s8 : GoodIn wsL_law wsX10 := goodIn_r _ [479, 480] (by decide +kernel) (by decide +kernel)
set_option maxRecDepth 20000 in
theorem ggL_law_X4_send_s9 : GoodIn wsL_law wsX20 := goodIn_r _ [481, 482, 483, 484, 485] (by decide +kernel) (by decide +kernel)
set_option maxRecDepth 20000 in
theorem ggL_law_X4_send_s10 : GoodIn wsL_law wsX30 := goodIn_r _ [486, 487, 488, 489] (by decide +kernel) (by decide +kernel)
set_option maxRecDepth 20000 in
theorem ggL_law_X4_send_s11 : GoodIn wsL_law wsX00 := goodIn_r _ [476, 477, 478] (by decide +kernel) (by decide +kernel)
set_option maxRecDepth 20000 in
theorem ggL_law_X4_send : GoodIn wsL_law wsX4_send := goodIn_ca (goodIn_ca (goodIn_ca (goodIn_ca (goodIn_ca (goodIn_ca (goodIn_c2 ggL_law_X4_send_c (goodIn_app ggL_law_X4_send_s0 (goodIn_app ggL_law_X4_send_s1 (goodIn_app ggL_law_X4_send_s2 (goodIn_app ggL_law_X4_send_s3 (goodIn_app ggL_law_X4_send_s4 (goodIn_app ggL_law_X4_send_s5 ggL_law_X4_send_s6))))))) ggL_law_X4_send_s7) ggL_law_X4_send_s8) ggL_law_X4_send_s9) ggL_law_X4_send_s10) ggL_law_X4_send_s11) (goodIn_sub (fun _ h => List.mem_append_left _ (List.mem_append_right _ h)) (by decide +kernel))
set_option maxRecDepth 20000 in
theorem gL_law_X4_send : GoodIn wsL_law (wsV RL 88 RX4 yX4_send wsX4_send) := goodIn_app (goodIn_of _ (by decide +kernel)) ggL_law_X4_send
set_option maxRecDepth 20000 in
theorem ggL_law_X5_isSame_c : GoodIn wsL_law [.code yX5_isSame cX5_isSame 9 (some .boolean)] := goodIn_r _ [431] (by decide +kernel) (by decide +kernel)
set_option maxRecDepth 20000 in
theorem ggL_law_X5_isSame_s0 : GoodIn wsL_law wsX5_isSame_r1 := goodIn_r _ [72, 73, 71, 253, 432, 433, 434, 3, 241, 242, 67, 243, 244, 87, 88, 435, 350, 351, 2, 352, 24, 190, 156, 157] (by decide +kernel) (by decide +kernel)
set_option maxRecDepth 20000 in
theorem ggL_law_X5_isSame_s1 : GoodIn wsL_law wsX5_isSame_r2 := goodIn_r _ [23, 158, 113, 436, 346, 347, 348, 28, 214, 147, 148, 27, 149, 150, 437, 354, 355, 356, 32, 273, 274, 275, 31, 276] (by decide +kernel) (by decide +kernel)
set_option maxRecDepth 20000 in
theorem ggL_law_X5_isSame_s2 : GoodIn wsL_law wsX5_isSame_r3 := goodIn_r _ [189, 438, 270, 271, 272, 277, 278, 279, 280, 56, 281, 282, 283, 284, 57, 285, 286, 287, 288, 289, 290, 291, 292, 293] (by decide +kernel) (by decide +kernel)
set_option maxRecDepth 20000 in
theorem ggL_law_X5_isSame_s3 : GoodIn wsL_law wsX5_isSame_r4 := goodIn_r _ [171, 172, 173, 174, 49, 167, 168, 169, 170, 237, 238, 239, 240, 439, 266, 267, 268, 269, 294, 295, 296, 297, 298, 6] (by decide +kernel) (by decide +kernel)
set_option maxRecDepth 20000 in
theorem ggL_law_X5_isSame_s4 : GoodIn wsL_law wsX5_isSame_r5 := goodIn_r _ [7, 8, 440, 234, 235, 236, 441, 387, 388, 389, 390, 391, 392, 393, 394, 265, 442, 421, 422, 423, 262, 443, 417, 418] (by decide +kernel) (by decide +kernel)
set_option maxRecDepth 20000 in
theorem ggL_law_X5_isSame_s5 : GoodIn wsL_law wsX5_isSame_r6 := goodIn_r _ [419, 263, 444, 413, 414, 415, 264, 445, 425, 426, 427, 261, 446, 447, 448, 449, 450, 363, 364, 365, 198, 199, 361, 451] (by decide +kernel) (by decide +kernel)
set_option maxRecDepth 20000 in
theorem ggL_law_X5_isSame_s6 : GoodIn wsL_law wsX5_isSame_r7 := goodIn_r _ [358, 359, 360, 452, 367, 368, 369, 200, 123, 124, 125, 201, 164, 165, 166, 44, 122, 453, 376, 377, 378, 379, 380, 381] (by decide +kernel) (by decide +kernel)
set_option maxRecDepth 20000 in
theorem ggL_law_X5_isSame_s7 : GoodIn wsL_law wsX5_isSame_r8 := goodIn_r _ [382, 383, 454, 371, 372, 373, 374, 215, 455, 456, 457, 458] (by decide +kernel) (by decide +kernel)
set_option maxRecDepth 20000 in
theorem ggL_law_X5_isSame_s8 : GoodIn wsL_law wsX50 := goodIn_r _ [469, 470, 471, 472, 473, 474, 475] (by decide +kernel) (by decide +kernel)
set_option maxRecDepth 20000 in
theorem ggL_law_X5_isSame_s9 : GoodIn wsL_law wsX40 := goodIn_r _ [459, 460, 461, 462, 463, 464, 465, 466, 467, 468] (by decide +kernel) (by decide +kernel)
set_option maxRecDepth 20000 in
theorem ggL_law_X5_isSame_s10 : GoodIn wsL_law wsX00 := goodIn_r _ [476, 477, 478] (by decide +kernel) (by decide +kernel)
set_option maxRecDepth 20000 in
theorem ggL_law_X5_isSame_s11 : GoodIn wsL_law wsX10 := goodIn_r _ [479, 480] (by decide +kernel) (by decide +kernel)
set_option maxRecDepth 20000 in
theorem ggL_law_X5_isSame_s12 : GoodIn wsL_law wsX20 := goodIn_r _ [481, 482, 483, 484, 485] (by decide +kernel) (by decide +kernel)
set_option maxRecDepth 20000 in
theorem ggL_law_X5_isSame : GoodIn wsL_law wsX5_isSame := goodIn_ca (goodIn_ca (goodIn_ca (goodIn_ca (goodIn_ca (goodIn_ca (goodIn_c2 ggL_law_X5_isSame_c (goodIn_app ggL_law_X5_isSame_s0 (goodIn_app ggL_law_X5_isSame_s1 (goodIn_app ggL_law_X5_isSame_s2 (goodIn_app ggL_law_X5_isSame_s3 (goodIn_app ggL_law_X5_isSame_s4 (goodIn_app ggL_law_X5_isSame_s5 (goodIn_app ggL_law_X5_isSame_s6 ggL_law_X5_isSame_s7)))))))) ggL_law_X5_isSame_s8) ggL_law_X5_isSame_s9) ggL_law_X5_isSame_s10) ggL_law_X5_isSame_s11) ggL_law_X5_isSame_s12) (goodIn_sub (fun _ h => List.mem_append_right _ h) (by decide +kernel))
set_option maxRecDepth 20000 in
theorem gL_law_X5_isSame : GoodIn wsL_law (wsV RL 162 RX5 yX5_isSame wsX5_isSame) := goodIn_app (goodIn_of _ (by decide +kernel)) ggL_law_X5_isSame
