set_option maxRecDepth 20000 in
theorem ggL_law_L_act_c : GoodIn wsL_law [.code yL_act cL_act 14 (some .boolean)] := goodIn_r _ [85] (by decide +kernel) (by decide +kernel)
set_option maxRecDepth 20000 in
theorem ggL_law_L_act_s0 : GoodIn wsL_law wsL_act_r1 := goodIn_r _ [14, 4, 3, 10, 9, 11, 12, 13, 79, 80, 63, 81, 82, 86, 87, 67, 88, 89, 90, 91, 71, 92, 93, 94] (by decide +kernel) (by decide +kernel)
set_option maxRecDepth 20000 in
theorem ggL_law_L_act_s1 : GoodIn wsL_law wsL_act_r2 := goodIn_r _ [95, 96, 97, 2, 98, 99, 100, 101, 102, 24, 103, 104, 105, 106, 107, 108, 109, 110, 111, 23, 112, 113, 114, 115] (by decide +kernel) (by decide +kernel)
set_option maxRecDepth 20000 in
theorem ggL_law_L_act_s2 : GoodIn wsL_law wsL_act_r3 := goodIn_r _ [116, 117, 118, 119, 120, 121, 43, 122, 123, 124, 125, 126, 127, 128, 129, 44, 130, 131, 132, 133, 134, 32, 28, 135] (by decide +kernel) (by decide +kernel)
set_option maxRecDepth 20000 in
theorem ggL_law_L_act_s3 : GoodIn wsL_law wsL_act_r4 := goodIn_r _ [136, 137, 31, 138, 139, 140, 141, 142, 143, 144, 7, 145, 54, 146, 147, 148, 27, 149, 150, 151, 152, 153, 154, 55] (by decide +kernel) (by decide +kernel)
set_option maxRecDepth 20000 in
theorem ggL_law_L_act_s4 : GoodIn wsL_law wsL_act_r5 := goodIn_r _ [56, 155, 156, 157, 158, 159, 160, 161, 162, 163, 164, 165, 166, 167, 168, 169, 170, 171, 172, 173, 174, 49, 175, 176] (by decide +kernel) (by decide +kernel)
set_option maxRecDepth 20000 in
theorem ggL_law_L_act_s5 : GoodIn wsL_law wsL_act_r6 := goodIn_r _ [177, 178, 179, 180, 181, 182, 183, 184, 185, 186, 187, 188, 189, 57, 190, 191, 192, 193, 194, 195, 196, 197, 198, 199] (by decide +kernel) (by decide +kernel)
set_option maxRecDepth 20000 in
theorem ggL_law_L_act_s6 : GoodIn wsL_law wsL_act_r7 := goodIn_r _ [200, 201, 202, 203, 204, 205, 206, 207, 208, 209, 210, 211, 212, 213, 214, 215, 216, 217, 218, 219, 220, 6, 8, 221] (by decide +kernel) (by decide +kernel)
set_option maxRecDepth 20000 in
theorem ggL_law_L_act_s7 : GoodIn wsL_law wsL_act_r8 := goodIn_r _ [222, 223, 224, 225, 226, 227, 228, 229, 230, 231, 232, 38, 233, 234, 235, 236, 73, 237, 238, 239, 240, 241, 242, 243] (by decide +kernel) (by decide +kernel)
set_option maxRecDepth 20000 in
theorem ggL_law_L_act_s8 : GoodIn wsL_law wsL_act_r9 := goodIn_r _ [244, 245, 246, 247, 248, 72, 249, 250, 251, 252, 253, 254, 255, 256, 257, 258, 259, 260, 261, 37, 262, 263, 264, 265] (by decide +kernel) (by decide +kernel)
set_option maxRecDepth 20000 in
theorem ggL_law_L_act_s9 : GoodIn wsL_law wsL_act_r10 := goodIn_r _ [266, 267, 268, 269, 270, 271, 272, 273, 274, 275, 276, 277, 278, 279, 280, 281, 282, 283, 284, 285, 286, 287, 288, 289] (by decide +kernel) (by decide +kernel)
set_option maxRecDepth 20000 in
theorem ggL_law_L_act_s10 : GoodIn wsL_law wsL_act_r11 := goodIn_r _ [290, 291, 292, 293, 294, 295, 296, 297, 298, 299, 300, 301, 36, 302, 303, 304, 305, 306, 307, 308, 309, 310, 311, 312] (by decide +kernel) (by decide +kernel)
set_option maxRecDepth 20000 in
theorem ggL_law_L_act_s11 : GoodIn wsL_law wsL_act_r12 := goodIn_r _ [313, 314, 315, 316, 317, 318, 319, 320, 321, 322, 323, 324, 325, 326, 327, 328, 329, 330, 331, 332, 333, 334, 335, 336] (by decide +kernel) (by decide +kernel)
set_option maxRecDepth 20000 in
theorem ggL_law_L_act_s12 : GoodIn wsL_law wsL_act_r13 := goodIn_r _ [337, 338, 339, 340, 341, 342, 343, 344] (by decide +kernel) (by decide +kernel)
set_option maxRecDepth 20000 in
theorem ggL_law_L_act_s13 : GoodIn wsL_law wsX50 := goodIn_r _ [469, 470, 471, 472, 473, 474, 475] (by decide +kernel) (by decide +kernel)
set_option maxRecDepth 20000 in
theorem ggL_law_L_act_s14 : GoodIn wsL_law wsX40 := goodIn_r _ [459, 460, 461, 462, 463, 464, 465, 466, 467, 468] (by decide +kernel) (by decide +kernel)
set_option maxRecDepth 20000 in
theorem ggL_law_L_act_s15 : GoodIn wsL_law wsX00 := goodIn_r _ [476, 477, 478] (by decide +kernel) (by decide +kernel)
set_option maxRecDepth 20000 in
theorem ggL_law_L_act_s16 : GoodIn wsL_law wsX20 := goodIn_r _ [481, 482, 483, 484, 485] (by decide +kernel) (by decide +kernel)
set_option maxRecDepth 20000 in
theorem ggL_law_L_act_s17 : GoodIn wsL_law wsX10 := goodIn_r _ [479, 480] (by decide +kernel) (by decide +kernel)
set_option maxRecDepth 20000 in
theorem ggL_law_L_act_s18 : GoodIn wsL_law wsX30 := goodIn_r _ [486, 487, 488, 489] (by decide +kernel) (by decide +kernel)
set_option maxRecDepth 20000 in
theorem ggL_law_L_act : GoodIn wsL_law wsL_act := goodIn_ca (goodIn_ca (goodIn_ca (goodIn_ca (goodIn_ca (goodIn_ca (goodIn_ca (goodIn_ca (goodIn_ca (goodIn_c2 ggL_law_L_act_c (goodIn_app ggL_law_L_act_s0 (goodIn_app ggL_law_L_act_s1 (goodIn_app ggL_law_L_act_s2 (goodIn_app ggL_law_L_act_s3 (goodIn_app ggL_law_L_act_s4 (goodIn_app ggL_law_L_act_s5 (goodIn_app ggL_law_L_act_s6 (goodIn_app ggL_law_L_act_s7 (goodIn_app ggL_law_L_act_s8 (goodIn_app ggL_law_L_act_s9 (goodIn_app ggL_law_L_act_s10 (goodIn_app ggL_law_L_act_s11 ggL_law_L_act_s12))))))))))))) ggL_law_L_act_s13) ggL_law_L_act_s14) ggL_law_L_act_s15) ggL_law_L_act_s16) ggL_law_L_act_s17) ggL_law_L_act_s18) (goodIn_sub (fun _ h => List.mem_append_left _ (List.mem_append_left _ (List.mem_append_right _ h))) (by decide +kernel))) (goodIn_sub (fun _ h => List.mem_append_left _ (List.mem_append_right _ h)) (by decide +kernel))) (goodIn_sub (fun _ h => List.mem_append_right _ h) (by decide +kernel))
set_option maxRecDepth 20000 in
theorem gL_law_L_act : GoodIn wsL_law (va_wsS RL 101 yL_act wsL_act) := goodIn_app (goodIn_of _ (by decide +kernel)) ggL_law_L_act
