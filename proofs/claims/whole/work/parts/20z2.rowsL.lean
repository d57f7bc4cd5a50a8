set_option maxRecDepth 20000 in
theorem ggL_law_X4_init : GoodIn wsL_law wsX4_init := goodIn_r _ [9, 10, 11, 12, 13, 14, 15, 16, 17, 18, 19, 20, 21, 22, 23, 24, 25, 26, 27, 28, 29, 30, 31, 32, 33, 34, 35, 36, 37, 38, 39, 40, 41, 42, 43, 44, 45, 46, 47, 48, 49, 50, 51, 52, 53, 726, 727, 728, 699, 700, 701, 702, 703, 704, 705, 706, 707, 708, 729, 730, 731, 732, 733, 734, 735, 736, 737, 738, 739] (by decide +kernel) (by decide +kernel)
set_option maxRecDepth 20000 in
theorem gL_law_X4_init : GoodIn wsL_law (wsX4_init) := ggL_law_X4_init
set_option maxRecDepth 20000 in
theorem ggL_law_X5_init : GoodIn wsL_law wsX5_init := goodIn_r _ [56, 57, 11, 12, 35, 58, 59, 60, 61, 62, 63, 709, 710, 711, 712, 713, 714, 715, 716, 717, 718, 719, 720, 721, 722, 723, 724, 725] (by decide +kernel) (by decide +kernel)
set_option maxRecDepth 20000 in
theorem gL_law_X5_init : GoodIn wsL_law (wsX5_init) := ggL_law_X5_init
set_option maxRecDepth 20000 in
theorem ggL_law_L_addCode : GoodIn wsL_law wsL_addCode := goodIn_ca (goodIn_ca (goodIn_r _ [67, 68, 69, 70, 71, 72, 2, 73, 74, 75, 76, 77, 16, 78, 79, 80, 81, 82, 83, 84, 85, 86, 15, 87, 88, 89, 90, 91, 92, 93, 94, 95, 96, 36, 97, 98, 99, 100, 101, 102, 103, 104, 37, 105, 106, 107, 108, 109, 24, 20, 110, 111, 112, 23, 113, 114, 115, 116, 117, 118, 119, 120, 121, 47, 122, 123, 124, 19, 125, 126, 127, 128, 129, 130, 48, 49, 131, 132, 133, 134, 135, 136, 137, 138, 139, 140, 141, 142, 143, 144, 145, 146, 147, 148, 149, 150, 42, 151, 152, 153, 154, 155, 156, 157, 158, 159, 160, 161, 162, 163, 164, 165, 50, 166, 699, 700, 701, 702, 703, 704, 705, 706, 707, 708, 726, 727, 728, 731, 732, 733, 734, 735, 729, 730] (by decide +kernel) (by decide +kernel)) (goodIn_sub (fun _ h => List.mem_append_left _ (List.mem_append_left _ (List.mem_append_right _ h))) (by decide +kernel))) (goodIn_sub (fun _ h => List.mem_append_left _ (List.mem_append_right _ h)) (by decide +kernel))
set_option maxRecDepth 20000 in
theorem gL_law_L_addCode : GoodIn wsL_law (va_wsS RL 58 yL_addCode wsL_addCode) := goodIn_app (goodIn_of _ (by decide +kernel)) ggL_law_L_addCode
set_option maxRecDepth 20000 in
theorem ggL_law_X5_addCode : GoodIn wsL_law wsX5_addCode := goodIn_r _ [170, 171, 172, 58, 59, 173, 174, 5, 175, 176, 177, 178, 179, 180, 181, 182, 709, 710, 711, 712, 713, 714, 715, 716, 717, 718, 719, 720, 721, 722, 723, 724, 725] (by decide +kernel) (by decide +kernel)
set_option maxRecDepth 20000 in
theorem gL_law_X5_addCode : GoodIn wsL_law (wsV RL 63 RX5 yX5_addCode wsX5_addCode) := goodIn_app (goodIn_of _ (by decide +kernel)) ggL_law_X5_addCode
set_option maxRecDepth 20000 in
theorem ggL_law_X5_thrown : GoodIn wsL_law wsX5_thrown := goodIn_r _ [186, 171, 709, 710, 711, 712, 713, 714, 715, 716, 717, 718, 719, 720, 721, 722, 723, 724, 725] (by decide +kernel) (by decide +kernel)
set_option maxRecDepth 20000 in
theorem gL_law_X5_thrown : GoodIn wsL_law (wsV RL 64 RX5 yX5_thrown wsX5_thrown) := goodIn_app (goodIn_of _ (by decide +kernel)) ggL_law_X5_thrown
set_option maxRecDepth 20000 in
theorem ggL_law_L_dropCode : GoodIn wsL_law wsL_dropCode := goodIn_ca (goodIn_r _ [189, 190, 191, 192, 193, 2, 194, 195, 196, 16, 197, 98, 99, 15, 100, 88, 198, 140, 141, 142, 37, 97, 199, 200, 201, 202, 36, 203, 204, 205, 206, 106, 107, 108, 109, 24, 20, 110, 111, 112, 23, 113, 114, 115, 116, 117, 118, 119, 120, 121, 47, 122, 123, 124, 19, 125, 126, 127, 128, 129, 130, 48, 49, 131, 132, 133, 134, 135, 136, 137, 138, 139, 143, 144, 145, 146, 147, 148, 149, 150, 42, 151, 94, 95, 96, 152, 153, 154, 155, 156, 157, 158, 159, 160, 161, 162, 163, 164, 165, 50, 699, 700, 701, 702, 703, 704, 705, 706, 707, 708, 726, 727, 728, 731, 732, 733, 734, 735, 729, 730] (by decide +kernel) (by decide +kernel)) (goodIn_sub (fun _ h => List.mem_append_right _ h) (by decide +kernel))
set_option maxRecDepth 20000 in
theorem gL_law_L_dropCode : GoodIn wsL_law (va_wsS RL 67 yL_dropCode wsL_dropCode) := goodIn_app (goodIn_of _ (by decide +kernel)) ggL_law_L_dropCode
set_option maxRecDepth 20000 in
theorem ggL_law_X5_dropCode : GoodIn wsL_law wsX5_dropCode := goodIn_r _ [210, 171, 59, 172, 58, 211, 212, 213, 5, 214, 176, 177, 178, 179, 180, 181, 182, 709, 710, 711, 712, 713, 714, 715, 716, 717, 718, 719, 720, 721, 722, 723, 724, 725] (by decide +kernel) (by decide +kernel)
set_option maxRecDepth 20000 in
theorem gL_law_X5_dropCode : GoodIn wsL_law (wsV RL 70 RX5 yX5_dropCode wsX5_dropCode) := goodIn_app (goodIn_of _ (by decide +kernel)) ggL_law_X5_dropCode
set_option maxRecDepth 20000 in
theorem ggL_law_X4_codes : GoodIn wsL_law wsX4_codes := goodIn_r _ [218, 16, 166, 132, 133, 15, 134, 88, 699, 700, 701, 702, 703, 704, 705, 706, 707, 708, 726, 727, 728] (by decide +kernel) (by decide +kernel)
set_option maxRecDepth 20000 in
theorem gL_law_X4_codes : GoodIn wsL_law (wsV RL 71 RX4 yX4_codes wsX4_codes) := goodIn_app (goodIn_of _ (by decide +kernel)) ggL_law_X4_codes
set_option maxRecDepth 20000 in
theorem ggL_law_X5_codes : GoodIn wsL_law wsX5_codes := goodIn_r _ [222, 172, 223, 224, 225, 5, 226, 171, 709, 710, 711, 712, 713, 714, 715, 716, 717, 718, 719, 720, 721, 722, 723, 724, 725] (by decide +kernel) (by decide +kernel)
set_option maxRecDepth 20000 in
theorem gL_law_X5_codes : GoodIn wsL_law (wsV RL 74 RX5 yX5_codes wsX5_codes) := goodIn_app (goodIn_of _ (by decide +kernel)) ggL_law_X5_codes
set_option maxRecDepth 20000 in
theorem ggL_law_L_lengthOf : GoodIn wsL_law wsL_lengthOf := goodIn_ca (goodIn_r _ [229, 190, 230, 231, 232, 2, 233, 195, 196, 16, 197, 98, 99, 15, 100, 88, 198, 140, 141, 142, 37, 97, 699, 700, 701, 702, 703, 704, 705, 706, 707, 708, 726, 727, 728] (by decide +kernel) (by decide +kernel)) (goodIn_sub (fun _ h => List.mem_append_right _ h) (by decide +kernel))
set_option maxRecDepth 20000 in
theorem gL_law_L_lengthOf : GoodIn wsL_law (va_wsS RL 75 yL_lengthOf wsL_lengthOf) := goodIn_app (goodIn_of _ (by decide +kernel)) ggL_law_L_lengthOf
set_option maxRecDepth 20000 in
theorem ggL_law_X5_lengthOf : GoodIn wsL_law wsX5_lengthOf := goodIn_r _ [237, 171, 59, 211, 212, 213, 5, 214, 172, 176, 177, 178, 179, 180, 181, 182, 709, 710, 711, 712, 713, 714, 715, 716, 717, 718, 719, 720, 721, 722, 723, 724, 725] (by decide +kernel) (by decide +kernel)
set_option maxRecDepth 20000 in
theorem gL_law_X5_lengthOf : GoodIn wsL_law (wsV RL 77 RX5 yX5_lengthOf wsX5_lengthOf) := goodIn_app (goodIn_of _ (by decide +kernel)) ggL_law_X5_lengthOf
set_option maxRecDepth 20000 in
theorem ggL_law_L_write : GoodIn wsL_law wsL_write := goodIn_ca (goodIn_ca (goodIn_r _ [240, 68, 69, 241, 242, 243, 2, 244, 74, 75, 76, 77, 20, 78, 79, 80, 245, 246, 247, 19, 248, 126, 249, 250, 251, 252, 42, 253, 106, 107, 108, 109, 24, 16, 110, 111, 112, 23, 113, 114, 115, 116, 117, 118, 119, 120, 121, 47, 122, 123, 124, 125, 127, 128, 129, 130, 48, 49, 131, 132, 133, 15, 134, 88, 135, 136, 137, 138, 139, 140, 141, 142, 37, 97, 98, 99, 100, 143, 144, 145, 146, 147, 148, 149, 150, 151, 94, 95, 96, 36, 152, 153, 154, 155, 156, 157, 158, 159, 160, 161, 162, 163, 164, 165, 50, 254, 699, 700, 701, 702, 703, 704, 705, 706, 707, 708, 729, 730, 731, 732, 733, 734, 735, 726, 727, 728] (by decide +kernel) (by decide +kernel)) (goodIn_sub (fun _ h => List.mem_append_left _ (List.mem_append_left _ (List.mem_append_right _ h))) (by decide +kernel))) (goodIn_sub (fun _ h => List.mem_append_left _ (List.mem_append_right _ h)) (by decide +kernel))
set_option maxRecDepth 20000 in
theorem gL_law_L_write : GoodIn wsL_law (va_wsS RL 78 yL_write wsL_write) := goodIn_app (goodIn_of _ (by decide +kernel)) ggL_law_L_write
set_option maxRecDepth 20000 in
theorem ggL_law_X5_write : GoodIn wsL_law wsX5_write := goodIn_r _ [258, 171, 259, 60, 173, 174, 5, 175, 176, 177, 178, 179, 180, 181, 182, 709, 710, 711, 712, 713, 714, 715, 716, 717, 718, 719, 720, 721, 722, 723, 724, 725] (by decide +kernel) (by decide +kernel)
set_option maxRecDepth 20000 in
theorem gL_law_X5_write : GoodIn wsL_law (wsV RL 80 RX5 yX5_write wsX5_write) := goodIn_app (goodIn_of _ (by decide +kernel)) ggL_law_X5_write
set_option maxRecDepth 20000 in
theorem ggL_law_L_strike : GoodIn wsL_law wsL_strike := goodIn_ca (goodIn_r _ [262, 69, 263, 264, 265, 2, 266, 76, 77, 20, 254, 123, 124, 19, 125, 126, 267, 148, 149, 150, 42, 143, 144, 145, 146, 268, 269, 270, 271, 272, 273, 120, 274, 106, 107, 108, 109, 24, 16, 110, 111, 112, 23, 113, 114, 115, 116, 117, 118, 119, 121, 47, 122, 127, 128, 129, 130, 48, 49, 131, 132, 133, 15, 134, 88, 135, 136, 137, 138, 139, 140, 141, 142, 37, 97, 98, 99, 100, 147, 151, 94, 95, 96, 36, 152, 153, 154, 155, 156, 157, 158, 159, 160, 161, 162, 163, 164, 165, 50, 699, 700, 701, 702, 703, 704, 705, 706, 707, 708, 729, 730, 731, 732, 733, 734, 735, 726, 727, 728] (by decide +kernel) (by decide +kernel)) (goodIn_sub (fun _ h => List.mem_append_left _ (List.mem_append_right _ h)) (by decide +kernel))
set_option maxRecDepth 20000 in
theorem gL_law_L_strike : GoodIn wsL_law (va_wsS RL 81 yL_strike wsL_strike) := goodIn_app (goodIn_of _ (by decide +kernel)) ggL_law_L_strike
set_option maxRecDepth 20000 in
theorem ggL_law_X5_strike : GoodIn wsL_law wsX5_strike := goodIn_r _ [278, 171, 259, 60, 179, 180, 181, 5, 182, 709, 710, 711, 712, 713, 714, 715, 716, 717, 718, 719, 720, 721, 722, 723, 724, 725] (by decide +kernel) (by decide +kernel)
set_option maxRecDepth 20000 in
theorem gL_law_X5_strike : GoodIn wsL_law (wsV RL 84 RX5 yX5_strike wsX5_strike) := goodIn_app (goodIn_of _ (by decide +kernel)) ggL_law_X5_strike
set_option maxRecDepth 20000 in
theorem ggL_law_X4_clear : GoodIn wsL_law wsX4_clear := goodIn_r _ [282, 20, 254, 123, 124, 19, 125, 126, 283, 284, 285, 286, 106, 107, 108, 2, 109, 24, 16, 110, 111, 112, 23, 113, 114, 115, 116, 117, 118, 119, 120, 121, 47, 122, 127, 128, 129, 130, 48, 49, 131, 132, 133, 15, 134, 88, 135, 136, 137, 138, 139, 140, 141, 142, 37, 97, 98, 99, 100, 143, 144, 145, 146, 147, 148, 149, 150, 42, 151, 94, 95, 96, 36, 152, 153, 154, 155, 156, 157, 158, 159, 160, 161, 162, 163, 164, 165, 50, 699, 700, 701, 702, 703, 704, 705, 706, 707, 708, 729, 730, 731, 732, 733, 734, 735, 726, 727, 728] (by decide +kernel) (by decide +kernel)
set_option maxRecDepth 20000 in
theorem gL_law_X4_clear : GoodIn wsL_law (wsV RL 85 RX4 yX4_clear wsX4_clear) := goodIn_app (goodIn_of _ (by decide +kernel)) ggL_law_X4_clear
set_option maxRecDepth 20000 in
theorem ggL_law_X5_clear : GoodIn wsL_law wsX5_clear := goodIn_r _ [290, 259, 223, 224, 225, 5, 226, 171, 709, 710, 711, 712, 713, 714, 715, 716, 717, 718, 719, 720, 721, 722, 723, 724, 725] (by decide +kernel) (by decide +kernel)
set_option maxRecDepth 20000 in
theorem gL_law_X5_clear : GoodIn wsL_law (wsV RL 88 RX5 yX5_clear wsX5_clear) := goodIn_app (goodIn_of _ (by decide +kernel)) ggL_law_X5_clear
set_option maxRecDepth 20000 in
theorem ggL_law_X4_words : GoodIn wsL_law wsX4_words := goodIn_r _ [294, 20, 254, 123, 124, 19, 125, 126, 699, 700, 701, 702, 703, 704, 705, 706, 707, 708, 729, 730] (by decide +kernel) (by decide +kernel)
set_option maxRecDepth 20000 in
theorem gL_law_X4_words : GoodIn wsL_law (wsV RL 89 RX4 yX4_words wsX4_words) := goodIn_app (goodIn_of _ (by decide +kernel)) ggL_law_X4_words
set_option maxRecDepth 20000 in
theorem ggL_law_X5_words : GoodIn wsL_law wsX5_words := goodIn_r _ [298, 259, 223, 224, 225, 5, 226, 171, 709, 710, 711, 712, 713, 714, 715, 716, 717, 718, 719, 720, 721, 722, 723, 724, 725] (by decide +kernel) (by decide +kernel)
set_option maxRecDepth 20000 in
theorem gL_law_X5_words : GoodIn wsL_law (wsV RL 92 RX5 yX5_words wsX5_words) := goodIn_app (goodIn_of _ (by decide +kernel)) ggL_law_X5_words
set_option maxRecDepth 20000 in
theorem ggL_law_L_typeOf : GoodIn wsL_law wsL_typeOf := goodIn_ca (goodIn_r _ [301, 190, 302, 303, 304, 2, 305, 195, 196, 20, 306, 144, 145, 19, 146, 126, 267, 148, 149, 150, 42, 143, 699, 700, 701, 702, 703, 704, 705, 706, 707, 708, 729, 730] (by decide +kernel) (by decide +kernel)) (goodIn_sub (fun _ h => List.mem_append_right _ h) (by decide +kernel))
set_option maxRecDepth 20000 in
theorem gL_law_L_typeOf : GoodIn wsL_law (va_wsS RL 93 yL_typeOf wsL_typeOf) := goodIn_app (goodIn_of _ (by decide +kernel)) ggL_law_L_typeOf
set_option maxRecDepth 20000 in
theorem ggL_law_X5_typeOf : GoodIn wsL_law wsX5_typeOf := goodIn_r _ [310, 171, 259, 60, 176, 177, 5, 178, 179, 180, 181, 182, 709, 710, 711, 712, 713, 714, 715, 716, 717, 718, 719, 720, 721, 722, 723, 724, 725] (by decide +kernel) (by decide +kernel)
set_option maxRecDepth 20000 in
theorem gL_law_X5_typeOf : GoodIn wsL_law (wsV RL 95 RX5 yX5_typeOf wsX5_typeOf) := goodIn_app (goodIn_of _ (by decide +kernel)) ggL_law_X5_typeOf
set_option maxRecDepth 20000 in
theorem ggL_law_X4_groups : GoodIn wsL_law wsX4_groups := goodIn_r _ [314, 24, 315, 316, 317, 23, 318, 165, 699, 700, 701, 702, 703, 704, 705, 706, 707, 708, 731, 732, 733, 734, 735] (by decide +kernel) (by decide +kernel)
set_option maxRecDepth 20000 in
theorem gL_law_X4_groups : GoodIn wsL_law (wsV RL 96 RX4 yX4_groups wsX4_groups) := goodIn_app (goodIn_of _ (by decide +kernel)) ggL_law_X4_groups
set_option maxRecDepth 20000 in
theorem ggL_law_X5_groups : GoodIn wsL_law wsX5_groups := goodIn_r _ [322, 323, 324, 325, 5, 326, 172, 62, 327, 328, 329, 330, 259, 63, 59, 58, 331, 332, 333, 334, 60, 223, 224, 225, 226, 171, 709, 710, 711, 712, 713, 714, 715, 716, 717, 718, 719, 720, 721, 722, 723, 724, 725] (by decide +kernel) (by decide +kernel)
set_option maxRecDepth 20000 in
theorem gL_law_X5_groups : GoodIn wsL_law (wsV RL 99 RX5 yX5_groups wsX5_groups) := goodIn_app (goodIn_of _ (by decide +kernel)) ggL_law_X5_groups
set_option maxRecDepth 20000 in
theorem ggL_law_L_codeOf : GoodIn wsL_law wsL_codeOf := goodIn_ca (goodIn_r _ [337, 190, 338, 339, 340, 2, 341, 195, 196, 24, 342, 343, 344, 23, 345, 165, 346, 347, 348, 349, 49, 350, 351, 352, 353, 50, 354, 699, 700, 701, 702, 703, 704, 705, 706, 707, 708, 731, 732, 733, 734, 735] (by decide +kernel) (by decide +kernel)) (goodIn_sub (fun _ h => List.mem_append_right _ h) (by decide +kernel))
set_option maxRecDepth 20000 in
theorem gL_law_L_codeOf : GoodIn wsL_law (va_wsS RL 100 yL_codeOf wsL_codeOf) := goodIn_app (goodIn_of _ (by decide +kernel)) ggL_law_L_codeOf
set_option maxRecDepth 20000 in
theorem ggL_law_X5_codeOf : GoodIn wsL_law wsX5_codeOf := goodIn_r _ [358, 171, 63, 323, 324, 325, 5, 326, 172, 62, 327, 328, 329, 330, 259, 59, 58, 331, 332, 333, 334, 60, 176, 177, 178, 359, 360, 361, 362, 363, 364, 365, 366, 179, 180, 181, 182, 709, 710, 711, 712, 713, 714, 715, 716, 717, 718, 719, 720, 721, 722, 723, 724, 725] (by decide +kernel) (by decide +kernel)
set_option maxRecDepth 20000 in
theorem gL_law_X5_codeOf : GoodIn wsL_law (wsV RL 102 RX5 yX5_codeOf wsX5_codeOf) := goodIn_app (goodIn_of _ (by decide +kernel)) ggL_law_X5_codeOf
set_option maxRecDepth 20000 in
theorem ggL_law_L_startOf : GoodIn wsL_law wsL_startOf := goodIn_ca (goodIn_r _ [369, 190, 370, 371, 372, 2, 373, 195, 196, 24, 342, 343, 344, 23, 345, 165, 374, 351, 352, 353, 50, 354, 699, 700, 701, 702, 703, 704, 705, 706, 707, 708, 731, 732, 733, 734, 735] (by decide +kernel) (by decide +kernel)) (goodIn_sub (fun _ h => List.mem_append_right _ h) (by decide +kernel))
set_option maxRecDepth 20000 in
theorem gL_law_L_startOf : GoodIn wsL_law (va_wsS RL 103 yL_startOf wsL_startOf) := goodIn_app (goodIn_of _ (by decide +kernel)) ggL_law_L_startOf
set_option maxRecDepth 20000 in
theorem ggL_law_X5_startOf : GoodIn wsL_law wsX5_startOf := goodIn_r _ [378, 171, 323, 324, 325, 5, 326, 172, 62, 327, 328, 329, 330, 259, 63, 59, 58, 331, 332, 333, 334, 60, 176, 177, 178, 359, 360, 361, 362, 363, 364, 365, 366, 179, 180, 181, 182, 709, 710, 711, 712, 713, 714, 715, 716, 717, 718, 719, 720, 721, 722, 723, 724, 725] (by decide +kernel) (by decide +kernel)
set_option maxRecDepth 20000 in
theorem gL_law_X5_startOf : GoodIn wsL_law (wsV RL 105 RX5 yX5_startOf wsX5_startOf) := goodIn_app (goodIn_of _ (by decide +kernel)) ggL_law_X5_startOf
set_option maxRecDepth 20000 in
theorem ggL_law_L_usesOf : GoodIn wsL_law wsL_usesOf := goodIn_ca (goodIn_r _ [381, 190, 382, 383, 384, 2, 385, 195, 196, 16, 24, 197, 98, 99, 15, 100, 88, 386, 387, 388, 23, 389, 165, 390, 347, 348, 349, 49, 350, 351, 352, 353, 50, 354, 343, 344, 345, 699, 700, 701, 702, 703, 704, 705, 706, 707, 708, 726, 727, 728, 731, 732, 733, 734, 735] (by decide +kernel) (by decide +kernel)) (goodIn_sub (fun _ h => List.mem_append_right _ h) (by decide +kernel))
set_option maxRecDepth 20000 in
theorem gL_law_L_usesOf : GoodIn wsL_law (va_wsS RL 106 yL_usesOf wsL_usesOf) := goodIn_app (goodIn_of _ (by decide +kernel)) ggL_law_L_usesOf
set_option maxRecDepth 20000 in
theorem ggL_law_X5_usesOf : GoodIn wsL_law wsX5_usesOf := goodIn_r _ [394, 171, 211, 212, 213, 5, 214, 172, 176, 177, 178, 395, 396, 397, 398, 259, 63, 327, 328, 329, 330, 62, 59, 58, 331, 332, 333, 334, 60, 363, 364, 365, 366, 179, 180, 181, 182, 709, 710, 711, 712, 713, 714, 715, 716, 717, 718, 719, 720, 721, 722, 723, 724, 725] (by decide +kernel) (by decide +kernel)
set_option maxRecDepth 20000 in
theorem gL_law_X5_usesOf : GoodIn wsL_law (wsV RL 108 RX5 yX5_usesOf wsX5_usesOf) := goodIn_app (goodIn_of _ (by decide +kernel)) ggL_law_X5_usesOf
set_option maxRecDepth 20000 in
theorem ggL_law_X4_counted : GoodIn wsL_law wsX4_counted := goodIn_r _ [402, 24, 20, 315, 316, 317, 23, 318, 165, 346, 347, 348, 349, 49, 350, 351, 352, 353, 50, 354, 343, 344, 345, 374, 403, 404, 405, 19, 406, 147, 148, 149, 150, 42, 143, 144, 145, 146, 126, 699, 700, 701, 702, 703, 704, 705, 706, 707, 708, 731, 732, 733, 734, 735, 729, 730] (by decide +kernel) (by decide +kernel)
set_option maxRecDepth 20000 in
theorem gL_law_X4_counted : GoodIn wsL_law (wsV RL 109 RX4 yX4_counted wsX4_counted) := goodIn_app (goodIn_of _ (by decide +kernel)) ggL_law_X4_counted
set_option maxRecDepth 20000 in
theorem ggL_law_X5_counted : GoodIn wsL_law wsX5_counted := goodIn_r _ [410, 411, 412, 413, 5, 414, 172, 259, 63, 60, 327, 328, 329, 330, 62, 59, 58, 331, 332, 333, 334, 363, 364, 365, 366, 223, 224, 225, 226, 171, 709, 710, 711, 712, 713, 714, 715, 716, 717, 718, 719, 720, 721, 722, 723, 724, 725] (by decide +kernel) (by decide +kernel)
set_option maxRecDepth 20000 in
theorem gL_law_X5_counted : GoodIn wsL_law (wsV RL 112 RX5 yX5_counted wsX5_counted) := goodIn_app (goodIn_of _ (by decide +kernel)) ggL_law_X5_counted
set_option maxRecDepth 20000 in
theorem ggL_law_X4_cost : GoodIn wsL_law wsX4_cost := goodIn_r _ [418, 419, 400, 401, 2, 402, 24, 20, 315, 316, 317, 23, 318, 165, 346, 347, 348, 349, 49, 350, 351, 352, 353, 50, 354, 343, 344, 345, 374, 403, 404, 405, 19, 406, 147, 148, 149, 150, 42, 143, 144, 145, 146, 126, 420, 421, 422, 423, 424, 273, 120, 274, 254, 123, 124, 125, 699, 700, 701, 702, 703, 704, 705, 706, 707, 708, 731, 732, 733, 734, 735, 729, 730] (by decide +kernel) (by decide +kernel)
set_option maxRecDepth 20000 in
theorem gL_law_X4_cost : GoodIn wsL_law (wsV RL 113 RX4 yX4_cost wsX4_cost) := goodIn_app (goodIn_of _ (by decide +kernel)) ggL_law_X4_cost
