set_option maxRecDepth 20000 in
theorem ggL_law_X5_cost : GoodIn wsL_law wsX5_cost := goodIn_r _ [428, 429, 430, 431, 5, 432, 411, 412, 413, 414, 172, 259, 63, 60, 327, 328, 329, 330, 62, 59, 58, 331, 332, 333, 334, 363, 364, 365, 366, 433, 434, 435, 436, 437, 273, 120, 274, 223, 224, 225, 226, 171, 709, 710, 711, 712, 713, 714, 715, 716, 717, 718, 719, 720, 721, 722, 723, 724, 725] (by decide +kernel) (by decide +kernel)
set_option maxRecDepth 20000 in
theorem gL_law_X5_cost : GoodIn wsL_law (wsV RL 116 RX5 yX5_cost wsX5_cost) := goodIn_app (goodIn_of _ (by decide +kernel)) ggL_law_X5_cost
set_option maxRecDepth 20000 in
theorem ggL_law_X4_saved : GoodIn wsL_law wsX4_saved := goodIn_r _ [441, 20, 442, 443, 444, 19, 445, 126, 446, 404, 405, 406, 147, 148, 149, 150, 42, 143, 144, 145, 146, 420, 421, 422, 2, 423, 424, 273, 120, 274, 254, 123, 124, 125, 447, 416, 417, 418, 419, 400, 401, 402, 24, 315, 316, 317, 23, 318, 165, 346, 347, 348, 349, 49, 350, 351, 352, 353, 50, 354, 343, 344, 345, 374, 403, 699, 700, 701, 702, 703, 704, 705, 706, 707, 708, 729, 730, 731, 732, 733, 734, 735] (by decide +kernel) (by decide +kernel)
set_option maxRecDepth 20000 in
theorem gL_law_X4_saved : GoodIn wsL_law (wsV RL 117 RX4 yX4_saved wsX4_saved) := goodIn_app (goodIn_of _ (by decide +kernel)) ggL_law_X4_saved
set_option maxRecDepth 20000 in
theorem ggL_law_X5_saved : GoodIn wsL_law wsX5_saved := goodIn_r _ [451, 452, 453, 454, 5, 455, 259, 60, 433, 434, 435, 436, 437, 273, 120, 274, 429, 430, 431, 432, 411, 412, 413, 414, 172, 63, 327, 328, 329, 330, 62, 59, 58, 331, 332, 333, 334, 363, 364, 365, 366, 223, 224, 225, 226, 171, 709, 710, 711, 712, 713, 714, 715, 716, 717, 718, 719, 720, 721, 722, 723, 724, 725] (by decide +kernel) (by decide +kernel)
set_option maxRecDepth 20000 in
theorem gL_law_X5_saved : GoodIn wsL_law (wsV RL 120 RX5 yX5_saved wsX5_saved) := goodIn_app (goodIn_of _ (by decide +kernel)) ggL_law_X5_saved
set_option maxRecDepth 20000 in
theorem ggL_law_L_setQuality : GoodIn wsL_law wsL_setQuality := goodIn_ca (goodIn_r _ [458, 68, 459, 460, 461, 2, 462, 74, 75, 30, 699, 700, 701, 702, 703, 704, 705, 706, 707, 708] (by decide +kernel) (by decide +kernel)) (goodIn_sub (fun _ h => List.mem_append_left _ (List.mem_append_left _ (List.mem_append_right _ h))) (by decide +kernel))
set_option maxRecDepth 20000 in
theorem gL_law_L_setQuality : GoodIn wsL_law (va_wsS RL 121 yL_setQuality wsL_setQuality) := goodIn_app (goodIn_of _ (by decide +kernel)) ggL_law_L_setQuality
set_option maxRecDepth 20000 in
theorem ggL_law_X5_setQuality : GoodIn wsL_law wsX5_setQuality := goodIn_r _ [466, 171, 61, 176, 177, 5, 178, 179, 180, 181, 182, 709, 710, 711, 712, 713, 714, 715, 716, 717, 718, 719, 720, 721, 722, 723, 724, 725] (by decide +kernel) (by decide +kernel)
set_option maxRecDepth 20000 in
theorem gL_law_X5_setQuality : GoodIn wsL_law (wsV RL 123 RX5 yX5_setQuality wsX5_setQuality) := goodIn_app (goodIn_of _ (by decide +kernel)) ggL_law_X5_setQuality
set_option maxRecDepth 20000 in
theorem ggL_law_L_send : GoodIn wsL_law wsL_send := goodIn_ca (goodIn_r _ [469, 69, 470, 471, 472, 2, 473, 76, 77, 20, 474, 29, 24, 475, 30, 476, 477, 254, 123, 124, 19, 125, 126, 447, 416, 417, 418, 419, 400, 401, 402, 315, 316, 317, 23, 318, 165, 346, 347, 348, 349, 49, 350, 351, 352, 353, 50, 354, 343, 344, 345, 374, 403, 404, 405, 406, 147, 148, 149, 150, 42, 143, 144, 145, 146, 420, 421, 422, 423, 424, 273, 120, 274, 478, 479, 480, 28, 481, 482, 483, 484, 485, 486, 487, 488, 489, 490, 491, 492, 493, 494, 495, 496, 497, 498, 499, 500, 501, 502, 503, 504, 505, 506, 507, 283, 284, 285, 286, 106, 107, 108, 109, 16, 110, 111, 112, 113, 114, 115, 116, 117, 118, 119, 121, 47, 122, 127, 128, 129, 130, 48, 131, 132, 133, 15, 134, 88, 135, 136, 137, 138, 139, 140, 141, 142, 37, 97, 98, 99, 100, 151, 94, 95, 96, 36, 152, 153, 154, 155, 156, 157, 158, 159, 160, 161, 162, 163, 164, 699, 700, 701, 702, 703, 704, 705, 706, 707, 708, 729, 730, 731, 732, 733, 734, 735, 736, 737, 738, 739, 726, 727, 728] (by decide +kernel) (by decide +kernel)) (goodIn_sub (fun _ h => List.mem_append_left _ (List.mem_append_right _ h)) (by decide +kernel))
set_option maxRecDepth 20000 in
theorem gL_law_L_send : GoodIn wsL_law (va_wsS RL 124 yL_send wsL_send) := goodIn_app (goodIn_of _ (by decide +kernel)) ggL_law_L_send
set_option maxRecDepth 20000 in
theorem ggL_law_X5_send : GoodIn wsL_law wsX5_send := goodIn_r _ [511, 171, 259, 512, 61, 513, 514, 515, 516, 517, 518, 179, 180, 181, 5, 182, 429, 430, 431, 432, 411, 412, 413, 414, 172, 63, 60, 327, 328, 329, 330, 62, 59, 58, 331, 332, 333, 334, 363, 364, 365, 366, 433, 434, 435, 436, 437, 273, 120, 274, 323, 324, 325, 326, 519, 520, 521, 522, 523, 524, 525, 526, 709, 710, 711, 712, 713, 714, 715, 716, 717, 718, 719, 720, 721, 722, 723, 724, 725] (by decide +kernel) (by decide +kernel)
set_option maxRecDepth 20000 in
theorem gL_law_X5_send : GoodIn wsL_law (wsV RL 126 RX5 yX5_send wsX5_send) := goodIn_app (goodIn_of _ (by decide +kernel)) ggL_law_X5_send
set_option maxRecDepth 20000 in
theorem ggL_law_X4_sentGroups : GoodIn wsL_law wsX4_sentGroups := goodIn_r _ [530, 475, 699, 700, 701, 702, 703, 704, 705, 706, 707, 708] (by decide +kernel) (by decide +kernel)
set_option maxRecDepth 20000 in
theorem gL_law_X4_sentGroups : GoodIn wsL_law (wsV RL 127 RX4 yX4_sentGroups wsX4_sentGroups) := goodIn_app (goodIn_of _ (by decide +kernel)) ggL_law_X4_sentGroups
set_option maxRecDepth 20000 in
theorem ggL_law_X5_sentGroups : GoodIn wsL_law wsX5_sentGroups := goodIn_r _ [534, 513, 223, 224, 225, 5, 226, 171, 709, 710, 711, 712, 713, 714, 715, 716, 717, 718, 719, 720, 721, 722, 723, 724, 725] (by decide +kernel) (by decide +kernel)
set_option maxRecDepth 20000 in
theorem gL_law_X5_sentGroups : GoodIn wsL_law (wsV RL 130 RX5 yX5_sentGroups wsX5_sentGroups) := goodIn_app (goodIn_of _ (by decide +kernel)) ggL_law_X5_sentGroups
set_option maxRecDepth 20000 in
theorem ggL_law_X4_repeats : GoodIn wsL_law wsX4_repeats := goodIn_r _ [538, 476, 699, 700, 701, 702, 703, 704, 705, 706, 707, 708] (by decide +kernel) (by decide +kernel)
set_option maxRecDepth 20000 in
theorem gL_law_X4_repeats : GoodIn wsL_law (wsV RL 131 RX4 yX4_repeats wsX4_repeats) := goodIn_app (goodIn_of _ (by decide +kernel)) ggL_law_X4_repeats
set_option maxRecDepth 20000 in
theorem ggL_law_X5_repeats : GoodIn wsL_law wsX5_repeats := goodIn_r _ [542, 515, 223, 224, 225, 5, 226, 171, 709, 710, 711, 712, 713, 714, 715, 716, 717, 718, 719, 720, 721, 722, 723, 724, 725] (by decide +kernel) (by decide +kernel)
set_option maxRecDepth 20000 in
theorem gL_law_X5_repeats : GoodIn wsL_law (wsV RL 134 RX5 yX5_repeats wsX5_repeats) := goodIn_app (goodIn_of _ (by decide +kernel)) ggL_law_X5_repeats
set_option maxRecDepth 20000 in
theorem ggL_law_X4_lost : GoodIn wsL_law wsX4_lost := goodIn_r _ [546, 477, 699, 700, 701, 702, 703, 704, 705, 706, 707, 708] (by decide +kernel) (by decide +kernel)
set_option maxRecDepth 20000 in
theorem gL_law_X4_lost : GoodIn wsL_law (wsV RL 135 RX4 yX4_lost wsX4_lost) := goodIn_app (goodIn_of _ (by decide +kernel)) ggL_law_X4_lost
set_option maxRecDepth 20000 in
theorem ggL_law_X5_lost : GoodIn wsL_law wsX5_lost := goodIn_r _ [550, 517, 223, 224, 225, 5, 226, 171, 709, 710, 711, 712, 713, 714, 715, 716, 717, 718, 719, 720, 721, 722, 723, 724, 725] (by decide +kernel) (by decide +kernel)
set_option maxRecDepth 20000 in
theorem gL_law_X5_lost : GoodIn wsL_law (wsV RL 138 RX5 yX5_lost wsX5_lost) := goodIn_app (goodIn_of _ (by decide +kernel)) ggL_law_X5_lost
set_option maxRecDepth 20000 in
theorem ggL_law_X4_earned : GoodIn wsL_law wsX4_earned := goodIn_r _ [554, 474, 699, 700, 701, 702, 703, 704, 705, 706, 707, 708] (by decide +kernel) (by decide +kernel)
set_option maxRecDepth 20000 in
theorem gL_law_X4_earned : GoodIn wsL_law (wsV RL 139 RX4 yX4_earned wsX4_earned) := goodIn_app (goodIn_of _ (by decide +kernel)) ggL_law_X4_earned
set_option maxRecDepth 20000 in
theorem ggL_law_X5_earned : GoodIn wsL_law wsX5_earned := goodIn_r _ [558, 512, 223, 224, 225, 5, 226, 171, 709, 710, 711, 712, 713, 714, 715, 716, 717, 718, 719, 720, 721, 722, 723, 724, 725] (by decide +kernel) (by decide +kernel)
set_option maxRecDepth 20000 in
theorem gL_law_X5_earned : GoodIn wsL_law (wsV RL 142 RX5 yX5_earned wsX5_earned) := goodIn_app (goodIn_of _ (by decide +kernel)) ggL_law_X5_earned
set_option maxRecDepth 20000 in
theorem ggL_law_X4_untilGarbled : GoodIn wsL_law wsX4_untilGarbled := goodIn_r _ [562, 475, 30, 563, 494, 2, 495, 699, 700, 701, 702, 703, 704, 705, 706, 707, 708] (by decide +kernel) (by decide +kernel)
set_option maxRecDepth 20000 in
theorem gL_law_X4_untilGarbled : GoodIn wsL_law (wsV RL 143 RX4 yX4_untilGarbled wsX4_untilGarbled) := goodIn_app (goodIn_of _ (by decide +kernel)) ggL_law_X4_untilGarbled
set_option maxRecDepth 20000 in
theorem ggL_law_X5_untilGarbled : GoodIn wsL_law wsX5_untilGarbled := goodIn_r _ [567, 568, 569, 570, 5, 571, 513, 61, 524, 525, 526, 223, 224, 225, 226, 171, 709, 710, 711, 712, 713, 714, 715, 716, 717, 718, 719, 720, 721, 722, 723, 724, 725] (by decide +kernel) (by decide +kernel)
set_option maxRecDepth 20000 in
theorem gL_law_X5_untilGarbled : GoodIn wsL_law (wsV RL 146 RX5 yX5_untilGarbled wsX5_untilGarbled) := goodIn_app (goodIn_of _ (by decide +kernel)) ggL_law_X5_untilGarbled
set_option maxRecDepth 20000 in
theorem ggL_law_X4_wouldBeGarbled : GoodIn wsL_law wsX4_wouldBeGarbled := goodIn_r _ [575, 29, 24, 475, 30, 315, 316, 317, 23, 318, 165, 478, 479, 480, 28, 481, 482, 483, 484, 485, 486, 487, 488, 489, 490, 491, 492, 493, 494, 2, 495, 576, 577, 578, 579, 699, 700, 701, 702, 703, 704, 705, 706, 707, 708, 731, 732, 733, 734, 735, 736, 737, 738, 739] (by decide +kernel) (by decide +kernel)
set_option maxRecDepth 20000 in
theorem gL_law_X4_wouldBeGarbled : GoodIn wsL_law (wsV RL 147 RX4 yX4_wouldBeGarbled wsX4_wouldBeGarbled) := goodIn_app (goodIn_of _ (by decide +kernel)) ggL_law_X4_wouldBeGarbled
set_option maxRecDepth 20000 in
theorem ggL_law_X5_wouldBeGarbled : GoodIn wsL_law wsX5_wouldBeGarbled := goodIn_r _ [583, 584, 585, 586, 5, 587, 61, 523, 323, 324, 325, 326, 172, 62, 327, 328, 329, 330, 259, 63, 59, 58, 331, 332, 333, 334, 60, 519, 520, 521, 522, 514, 516, 518, 513, 524, 525, 526, 223, 224, 225, 226, 171, 709, 710, 711, 712, 713, 714, 715, 716, 717, 718, 719, 720, 721, 722, 723, 724, 725] (by decide +kernel) (by decide +kernel)
set_option maxRecDepth 20000 in
theorem gL_law_X5_wouldBeGarbled : GoodIn wsL_law (wsV RL 150 RX5 yX5_wouldBeGarbled wsX5_wouldBeGarbled) := goodIn_app (goodIn_of _ (by decide +kernel)) ggL_law_X5_wouldBeGarbled
set_option maxRecDepth 20000 in
theorem ggL_law_X4_repeatsIfSent : GoodIn wsL_law wsX4_repeatsIfSent := goodIn_r _ [591, 29, 24, 475, 30, 315, 316, 317, 23, 318, 165, 478, 479, 480, 28, 481, 482, 483, 484, 485, 486, 487, 488, 489, 490, 491, 492, 493, 494, 2, 495, 500, 501, 502, 503, 699, 700, 701, 702, 703, 704, 705, 706, 707, 708, 731, 732, 733, 734, 735, 736, 737, 738, 739] (by decide +kernel) (by decide +kernel)
set_option maxRecDepth 20000 in
theorem gL_law_X4_repeatsIfSent : GoodIn wsL_law (wsV RL 151 RX4 yX4_repeatsIfSent wsX4_repeatsIfSent) := goodIn_app (goodIn_of _ (by decide +kernel)) ggL_law_X4_repeatsIfSent
set_option maxRecDepth 20000 in
theorem ggL_law_X5_repeatsIfSent : GoodIn wsL_law wsX5_repeatsIfSent := goodIn_r _ [595, 596, 597, 598, 5, 599, 61, 516, 323, 324, 325, 326, 172, 62, 327, 328, 329, 330, 259, 63, 59, 58, 331, 332, 333, 334, 60, 519, 520, 521, 522, 514, 518, 523, 513, 524, 525, 526, 223, 224, 225, 226, 171, 709, 710, 711, 712, 713, 714, 715, 716, 717, 718, 719, 720, 721, 722, 723, 724, 725] (by decide +kernel) (by decide +kernel)
set_option maxRecDepth 20000 in
theorem gL_law_X5_repeatsIfSent : GoodIn wsL_law (wsV RL 154 RX5 yX5_repeatsIfSent wsX5_repeatsIfSent) := goodIn_app (goodIn_of _ (by decide +kernel)) ggL_law_X5_repeatsIfSent
set_option maxRecDepth 20000 in
theorem ggL_law_X4_qualityWanted : GoodIn wsL_law wsX4_qualityWanted := goodIn_r _ [603, 29, 24, 475, 315, 316, 317, 23, 318, 165, 478, 479, 480, 28, 481, 482, 483, 484, 485, 486, 487, 488, 489, 490, 491, 492, 493, 494, 2, 495, 504, 505, 506, 507, 699, 700, 701, 702, 703, 704, 705, 706, 707, 708, 731, 732, 733, 734, 735, 736, 737, 738, 739] (by decide +kernel) (by decide +kernel)
set_option maxRecDepth 20000 in
theorem gL_law_X4_qualityWanted : GoodIn wsL_law (wsV RL 155 RX4 yX4_qualityWanted wsX4_qualityWanted) := goodIn_app (goodIn_of _ (by decide +kernel)) ggL_law_X4_qualityWanted
set_option maxRecDepth 20000 in
theorem ggL_law_X5_qualityWanted : GoodIn wsL_law wsX5_qualityWanted := goodIn_r _ [607, 608, 609, 610, 5, 611, 518, 323, 324, 325, 326, 172, 62, 327, 328, 329, 330, 259, 63, 59, 58, 331, 332, 333, 334, 60, 519, 520, 521, 522, 514, 516, 523, 513, 524, 525, 526, 223, 224, 225, 226, 171, 709, 710, 711, 712, 713, 714, 715, 716, 717, 718, 719, 720, 721, 722, 723, 724, 725] (by decide +kernel) (by decide +kernel)
set_option maxRecDepth 20000 in
theorem gL_law_X5_qualityWanted : GoodIn wsL_law (wsV RL 158 RX5 yX5_qualityWanted wsX5_qualityWanted) := goodIn_app (goodIn_of _ (by decide +kernel)) ggL_law_X5_qualityWanted
set_option maxRecDepth 20000 in
theorem ggL_law_X4_uselessCode : GoodIn wsL_law wsX4_uselessCode := goodIn_r _ [615, 16, 25, 20, 24, 166, 132, 133, 15, 134, 88, 616, 617, 618, 23, 619, 114, 115, 116, 117, 118, 119, 120, 121, 47, 122, 123, 124, 19, 125, 126, 127, 128, 129, 130, 48, 49, 131, 135, 136, 137, 138, 139, 140, 141, 142, 37, 97, 98, 99, 100, 143, 144, 145, 146, 147, 148, 149, 150, 42, 151, 94, 95, 96, 36, 152, 153, 154, 155, 156, 157, 158, 159, 160, 161, 162, 163, 164, 165, 50, 315, 316, 317, 318, 699, 700, 701, 702, 703, 704, 705, 706, 707, 708, 726, 727, 728, 731, 732, 733, 734, 735, 729, 730] (by decide +kernel) (by decide +kernel)
set_option maxRecDepth 20000 in
theorem gL_law_X4_uselessCode : GoodIn wsL_law (wsV RL 159 RX4 yX4_uselessCode wsX4_uselessCode) := goodIn_app (goodIn_of _ (by decide +kernel)) ggL_law_X4_uselessCode
set_option maxRecDepth 20000 in
theorem ggL_law_X5_uselessCode : GoodIn wsL_law wsX5_uselessCode := goodIn_r _ [623, 624, 625, 626, 5, 627, 172, 62, 323, 324, 325, 326, 327, 328, 329, 330, 259, 63, 59, 58, 331, 332, 333, 334, 60, 223, 224, 225, 226, 171, 709, 710, 711, 712, 713, 714, 715, 716, 717, 718, 719, 720, 721, 722, 723, 724, 725] (by decide +kernel) (by decide +kernel)
set_option maxRecDepth 20000 in
theorem gL_law_X5_uselessCode : GoodIn wsL_law (wsV RL 162 RX5 yX5_uselessCode wsX5_uselessCode) := goodIn_app (goodIn_of _ (by decide +kernel)) ggL_law_X5_uselessCode
set_option maxRecDepth 20000 in
theorem ggL_law_L_bestNewCode : GoodIn wsL_law wsL_bestNewCode := goodIn_ca (goodIn_r _ [630, 68, 631, 632, 633, 2, 634, 74, 75, 635, 636, 637, 638, 20, 25, 16, 254, 123, 124, 19, 125, 126, 639, 640, 641, 23, 642, 114, 115, 116, 117, 118, 119, 120, 121, 47, 122, 127, 128, 129, 130, 48, 49, 131, 132, 133, 15, 134, 88, 135, 136, 137, 138, 139, 140, 141, 142, 37, 97, 98, 99, 100, 143, 144, 145, 146, 147, 148, 149, 150, 42, 151, 94, 95, 96, 36, 152, 153, 154, 155, 156, 157, 158, 159, 160, 161, 162, 163, 164, 165, 50, 315, 316, 317, 318, 699, 700, 701, 702, 703, 704, 705, 706, 707, 708, 729, 730, 731, 732, 733, 734, 735, 726, 727, 728] (by decide +kernel) (by decide +kernel)) (goodIn_sub (fun _ h => List.mem_append_left _ (List.mem_append_left _ (List.mem_append_right _ h))) (by decide +kernel))
set_option maxRecDepth 20000 in
theorem gL_law_L_bestNewCode : GoodIn wsL_law (va_wsS RL 163 yL_bestNewCode wsL_bestNewCode) := goodIn_app (goodIn_of _ (by decide +kernel)) ggL_law_L_bestNewCode
set_option maxRecDepth 20000 in
theorem ggL_law_X5_bestNewCode : GoodIn wsL_law wsX5_bestNewCode := goodIn_r _ [646, 171, 176, 177, 5, 178, 647, 648, 649, 650, 259, 58, 172, 59, 62, 331, 332, 333, 334, 60, 327, 328, 329, 330, 63, 179, 180, 181, 182, 709, 710, 711, 712, 713, 714, 715, 716, 717, 718, 719, 720, 721, 722, 723, 724, 725] (by decide +kernel) (by decide +kernel)
set_option maxRecDepth 20000 in
theorem gL_law_X5_bestNewCode : GoodIn wsL_law (wsV RL 165 RX5 yX5_bestNewCode wsX5_bestNewCode) := goodIn_app (goodIn_of _ (by decide +kernel)) ggL_law_X5_bestNewCode
set_option maxRecDepth 20000 in
theorem ggL_law_X4_meanLength : GoodIn wsL_law wsX4_meanLength := goodIn_r _ [654, 16, 166, 132, 133, 15, 134, 88, 198, 140, 141, 142, 37, 97, 98, 99, 100, 699, 700, 701, 702, 703, 704, 705, 706, 707, 708, 726, 727, 728] (by decide +kernel) (by decide +kernel)
set_option maxRecDepth 20000 in
theorem gL_law_X4_meanLength : GoodIn wsL_law (wsV RL 166 RX4 yX4_meanLength wsX4_meanLength) := goodIn_app (goodIn_of _ (by decide +kernel)) ggL_law_X4_meanLength
set_option maxRecDepth 20000 in
theorem ggL_law_X5_meanLength : GoodIn wsL_law wsX5_meanLength := goodIn_r _ [658, 171, 172, 59, 709, 710, 711, 712, 713, 714, 715, 716, 717, 718, 719, 720, 721, 722, 723, 724, 725] (by decide +kernel) (by decide +kernel)
set_option maxRecDepth 20000 in
theorem gL_law_X5_meanLength : GoodIn wsL_law (wsV RL 170 RX5 yX5_meanLength wsX5_meanLength) := goodIn_app (goodIn_of _ (by decide +kernel)) ggL_law_X5_meanLength
set_option maxRecDepth 20000 in
theorem ggL_law_X4_digest : GoodIn wsL_law wsX4_digest := goodIn_r _ [662, 663, 664, 216, 217, 2, 218, 16, 166, 132, 133, 15, 134, 88, 665, 666, 667, 668, 669, 292, 293, 294, 20, 254, 123, 124, 19, 125, 126, 670, 312, 313, 314, 24, 315, 316, 317, 23, 318, 165, 419, 400, 401, 402, 346, 347, 348, 349, 49, 350, 351, 352, 353, 50, 354, 343, 344, 345, 374, 403, 404, 405, 406, 147, 148, 149, 150, 42, 143, 144, 145, 146, 447, 416, 417, 418, 420, 421, 422, 423, 424, 273, 120, 274, 671, 439, 440, 441, 442, 443, 444, 445, 446, 672, 528, 529, 530, 475, 673, 536, 537, 538, 476, 674, 544, 545, 546, 477, 675, 552, 553, 554, 474, 676, 560, 561, 562, 30, 563, 494, 495, 677, 573, 574, 575, 29, 478, 479, 480, 28, 481, 482, 483, 484, 485, 486, 487, 488, 489, 490, 491, 492, 493, 576, 577, 578, 579, 678, 589, 590, 591, 500, 501, 502, 503, 679, 601, 602, 603, 504, 505, 506, 507, 680, 613, 614, 615, 25, 616, 617, 618, 619, 114, 115, 116, 117, 118, 119, 121, 47, 122, 127, 128, 129, 130, 48, 131, 135, 136, 137, 138, 139, 140, 141, 142, 37, 97, 98, 99, 100, 151, 94, 95, 96, 36, 152, 153, 154, 155, 156, 157, 158, 159, 160, 161, 162, 163, 164, 635, 636, 637, 638, 639, 640, 641, 642, 681, 682, 683, 684, 198, 386, 387, 388, 389, 390, 685, 686, 687, 688, 267, 689, 690, 691, 692, 699, 700, 701, 702, 703, 704, 705, 706, 707, 708, 726, 727, 728, 729, 730, 731, 732, 733, 734, 735, 736, 737, 738, 739] (by decide +kernel) (by decide +kernel)
set_option maxRecDepth 20000 in
theorem gL_law_X4_digest : GoodIn wsL_law (wsV RL 171 RX4 yX4_digest wsX4_digest) := goodIn_app (goodIn_of _ (by decide +kernel)) ggL_law_X4_digest
set_option maxRecDepth 20000 in
theorem ggL_law_X5_digest : GoodIn wsL_law wsX5_digest := goodIn_r _ [696, 171, 35, 172, 259, 513, 515, 517, 512, 697, 698, 59, 60, 63, 323, 324, 325, 5, 326, 62, 327, 328, 329, 330, 58, 331, 332, 333, 334, 411, 412, 413, 414, 363, 364, 365, 366, 429, 430, 431, 432, 433, 434, 435, 436, 437, 273, 120, 274, 452, 453, 454, 455, 568, 569, 570, 571, 61, 524, 525, 526, 584, 585, 586, 587, 523, 519, 520, 521, 522, 514, 516, 518, 596, 597, 598, 599, 608, 609, 610, 611, 624, 625, 626, 627, 647, 648, 649, 650, 395, 396, 397, 398, 709, 710, 711, 712, 713, 714, 715, 716, 717, 718, 719, 720, 721, 722, 723, 724, 725] (by decide +kernel) (by decide +kernel)
set_option maxRecDepth 20000 in
theorem gL_law_X5_digest : GoodIn wsL_law (wsV RL 175 RX5 yX5_digest wsX5_digest) := goodIn_app (goodIn_of _ (by decide +kernel)) ggL_law_X5_digest
