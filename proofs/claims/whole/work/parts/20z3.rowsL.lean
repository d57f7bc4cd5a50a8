set_option maxRecDepth 20000 in
theorem ggL_law_X5_cost : GoodIn wsL_law wsX5_cost := goodIn_r _ [427, 428, 429, 430, 5, 431, 410, 411, 412, 413, 172, 259, 63, 60, 327, 328, 329, 330, 62, 59, 58, 331, 332, 333, 334, 359, 360, 361, 362, 432, 433, 434, 435, 436, 273, 120, 274, 223, 224, 225, 226, 171, 708, 709, 710, 711, 712, 713, 714, 715, 716, 717, 718, 719, 720, 721, 722, 723, 724] (by decide +kernel) (by decide +kernel)
set_option maxRecDepth 20000 in
theorem gL_law_X5_cost : GoodIn wsL_law (wsV RL 116 RX5 yX5_cost wsX5_cost) := goodIn_app (goodIn_of _ (by decide +kernel)) ggL_law_X5_cost
set_option maxRecDepth 20000 in
theorem ggL_law_X4_saved : GoodIn wsL_law wsX4_saved := goodIn_r _ [440, 20, 441, 442, 443, 19, 444, 126, 445, 403, 404, 405, 147, 148, 149, 150, 42, 143, 144, 145, 146, 419, 420, 421, 2, 422, 423, 273, 120, 274, 254, 123, 124, 125, 446, 415, 416, 417, 418, 399, 400, 401, 24, 315, 316, 317, 23, 318, 165, 346, 347, 348, 349, 49, 50, 350, 343, 344, 345, 370, 371, 372, 373, 402, 698, 699, 700, 701, 702, 703, 704, 705, 706, 707, 728, 729, 730, 731, 732, 733, 734] (by decide +kernel) (by decide +kernel)
set_option maxRecDepth 20000 in
theorem gL_law_X4_saved : GoodIn wsL_law (wsV RL 117 RX4 yX4_saved wsX4_saved) := goodIn_app (goodIn_of _ (by decide +kernel)) ggL_law_X4_saved
set_option maxRecDepth 20000 in
theorem ggL_law_X5_saved : GoodIn wsL_law wsX5_saved := goodIn_r _ [450, 451, 452, 453, 5, 454, 259, 60, 432, 433, 434, 435, 436, 273, 120, 274, 428, 429, 430, 431, 410, 411, 412, 413, 172, 63, 327, 328, 329, 330, 62, 59, 58, 331, 332, 333, 334, 359, 360, 361, 362, 223, 224, 225, 226, 171, 708, 709, 710, 711, 712, 713, 714, 715, 716, 717, 718, 719, 720, 721, 722, 723, 724] (by decide +kernel) (by decide +kernel)
set_option maxRecDepth 20000 in
theorem gL_law_X5_saved : GoodIn wsL_law (wsV RL 120 RX5 yX5_saved wsX5_saved) := goodIn_app (goodIn_of _ (by decide +kernel)) ggL_law_X5_saved
set_option maxRecDepth 20000 in
theorem ggL_law_L_setQuality : GoodIn wsL_law wsL_setQuality := goodIn_ca (goodIn_r _ [457, 68, 458, 459, 460, 2, 461, 74, 75, 30, 698, 699, 700, 701, 702, 703, 704, 705, 706, 707] (by decide +kernel) (by decide +kernel)) (goodIn_sub (fun _ h => List.mem_append_left _ (List.mem_append_left _ (List.mem_append_right _ h))) (by decide +kernel))
set_option maxRecDepth 20000 in
theorem gL_law_L_setQuality : GoodIn wsL_law (va_wsS RL 121 yL_setQuality wsL_setQuality) := goodIn_app (goodIn_of _ (by decide +kernel)) ggL_law_L_setQuality
set_option maxRecDepth 20000 in
theorem ggL_law_X5_setQuality : GoodIn wsL_law wsX5_setQuality := goodIn_r _ [465, 171, 61, 176, 177, 5, 178, 179, 180, 181, 182, 708, 709, 710, 711, 712, 713, 714, 715, 716, 717, 718, 719, 720, 721, 722, 723, 724] (by decide +kernel) (by decide +kernel)
set_option maxRecDepth 20000 in
theorem gL_law_X5_setQuality : GoodIn wsL_law (wsV RL 123 RX5 yX5_setQuality wsX5_setQuality) := goodIn_app (goodIn_of _ (by decide +kernel)) ggL_law_X5_setQuality
set_option maxRecDepth 20000 in
theorem ggL_law_L_send : GoodIn wsL_law wsL_send := goodIn_ca (goodIn_r _ [468, 69, 469, 470, 471, 2, 472, 76, 77, 20, 473, 29, 24, 474, 30, 475, 476, 254, 123, 124, 19, 125, 126, 446, 415, 416, 417, 418, 399, 400, 401, 315, 316, 317, 23, 318, 165, 346, 347, 348, 349, 49, 50, 350, 343, 344, 345, 370, 371, 372, 373, 402, 403, 404, 405, 147, 148, 149, 150, 42, 143, 144, 145, 146, 419, 420, 421, 422, 423, 273, 120, 274, 477, 478, 479, 28, 480, 481, 482, 483, 484, 485, 486, 487, 488, 489, 490, 491, 492, 493, 494, 495, 496, 497, 498, 499, 500, 501, 502, 503, 504, 505, 506, 283, 284, 285, 286, 106, 107, 108, 109, 16, 110, 111, 112, 113, 114, 115, 116, 117, 118, 119, 121, 47, 122, 127, 128, 129, 130, 48, 131, 132, 133, 15, 134, 88, 135, 136, 137, 138, 139, 140, 141, 142, 37, 97, 98, 99, 100, 151, 94, 95, 96, 36, 152, 153, 154, 155, 156, 157, 158, 159, 160, 161, 162, 163, 164, 698, 699, 700, 701, 702, 703, 704, 705, 706, 707, 728, 729, 730, 731, 732, 733, 734, 735, 736, 737, 738, 725, 726, 727] (by decide +kernel) (by decide +kernel)) (goodIn_sub (fun _ h => List.mem_append_left _ (List.mem_append_right _ h)) (by decide +kernel))
set_option maxRecDepth 20000 in
theorem gL_law_L_send : GoodIn wsL_law (va_wsS RL 124 yL_send wsL_send) := goodIn_app (goodIn_of _ (by decide +kernel)) ggL_law_L_send
set_option maxRecDepth 20000 in
theorem ggL_law_X5_send : GoodIn wsL_law wsX5_send := goodIn_r _ [510, 171, 259, 511, 61, 512, 513, 514, 515, 516, 517, 179, 180, 181, 5, 182, 428, 429, 430, 431, 410, 411, 412, 413, 172, 63, 60, 327, 328, 329, 330, 62, 59, 58, 331, 332, 333, 334, 359, 360, 361, 362, 432, 433, 434, 435, 436, 273, 120, 274, 323, 324, 325, 326, 518, 519, 520, 521, 522, 523, 524, 525, 708, 709, 710, 711, 712, 713, 714, 715, 716, 717, 718, 719, 720, 721, 722, 723, 724] (by decide +kernel) (by decide +kernel)
set_option maxRecDepth 20000 in
theorem gL_law_X5_send : GoodIn wsL_law (wsV RL 126 RX5 yX5_send wsX5_send) := goodIn_app (goodIn_of _ (by decide +kernel)) ggL_law_X5_send
set_option maxRecDepth 20000 in
theorem ggL_law_X4_sentGroups : GoodIn wsL_law wsX4_sentGroups := goodIn_r _ [529, 474, 698, 699, 700, 701, 702, 703, 704, 705, 706, 707] (by decide +kernel) (by decide +kernel)
set_option maxRecDepth 20000 in
theorem gL_law_X4_sentGroups : GoodIn wsL_law (wsV RL 127 RX4 yX4_sentGroups wsX4_sentGroups) := goodIn_app (goodIn_of _ (by decide +kernel)) ggL_law_X4_sentGroups
set_option maxRecDepth 20000 in
theorem ggL_law_X5_sentGroups : GoodIn wsL_law wsX5_sentGroups := goodIn_r _ [533, 512, 223, 224, 225, 5, 226, 171, 708, 709, 710, 711, 712, 713, 714, 715, 716, 717, 718, 719, 720, 721, 722, 723, 724] (by decide +kernel) (by decide +kernel)
set_option maxRecDepth 20000 in
theorem gL_law_X5_sentGroups : GoodIn wsL_law (wsV RL 130 RX5 yX5_sentGroups wsX5_sentGroups) := goodIn_app (goodIn_of _ (by decide +kernel)) ggL_law_X5_sentGroups
set_option maxRecDepth 20000 in
theorem ggL_law_X4_repeats : GoodIn wsL_law wsX4_repeats := goodIn_r _ [537, 475, 698, 699, 700, 701, 702, 703, 704, 705, 706, 707] (by decide +kernel) (by decide +kernel)
set_option maxRecDepth 20000 in
theorem gL_law_X4_repeats : GoodIn wsL_law (wsV RL 131 RX4 yX4_repeats wsX4_repeats) := goodIn_app (goodIn_of _ (by decide +kernel)) ggL_law_X4_repeats
set_option maxRecDepth 20000 in
theorem ggL_law_X5_repeats : GoodIn wsL_law wsX5_repeats := goodIn_r _ [541, 514, 223, 224, 225, 5, 226, 171, 708, 709, 710, 711, 712, 713, 714, 715, 716, 717, 718, 719, 720, 721, 722, 723, 724] (by decide +kernel) (by decide +kernel)
set_option maxRecDepth 20000 in
theorem gL_law_X5_repeats : GoodIn wsL_law (wsV RL 134 RX5 yX5_repeats wsX5_repeats) := goodIn_app (goodIn_of _ (by decide +kernel)) ggL_law_X5_repeats
set_option maxRecDepth 20000 in
theorem ggL_law_X4_lost : GoodIn wsL_law wsX4_lost := goodIn_r _ [545, 476, 698, 699, 700, 701, 702, 703, 704, 705, 706, 707] (by decide +kernel) (by decide +kernel)
set_option maxRecDepth 20000 in
theorem gL_law_X4_lost : GoodIn wsL_law (wsV RL 135 RX4 yX4_lost wsX4_lost) := goodIn_app (goodIn_of _ (by decide +kernel)) ggL_law_X4_lost
set_option maxRecDepth 20000 in
theorem ggL_law_X5_lost : GoodIn wsL_law wsX5_lost := goodIn_r _ [549, 516, 223, 224, 225, 5, 226, 171, 708, 709, 710, 711, 712, 713, 714, 715, 716, 717, 718, 719, 720, 721, 722, 723, 724] (by decide +kernel) (by decide +kernel)
set_option maxRecDepth 20000 in
theorem gL_law_X5_lost : GoodIn wsL_law (wsV RL 138 RX5 yX5_lost wsX5_lost) := goodIn_app (goodIn_of _ (by decide +kernel)) ggL_law_X5_lost
set_option maxRecDepth 20000 in
theorem ggL_law_X4_earned : GoodIn wsL_law wsX4_earned := goodIn_r _ [553, 473, 698, 699, 700, 701, 702, 703, 704, 705, 706, 707] (by decide +kernel) (by decide +kernel)
set_option maxRecDepth 20000 in
theorem gL_law_X4_earned : GoodIn wsL_law (wsV RL 139 RX4 yX4_earned wsX4_earned) := goodIn_app (goodIn_of _ (by decide +kernel)) ggL_law_X4_earned
set_option maxRecDepth 20000 in
theorem ggL_law_X5_earned : GoodIn wsL_law wsX5_earned := goodIn_r _ [557, 511, 223, 224, 225, 5, 226, 171, 708, 709, 710, 711, 712, 713, 714, 715, 716, 717, 718, 719, 720, 721, 722, 723, 724] (by decide +kernel) (by decide +kernel)
set_option maxRecDepth 20000 in
theorem gL_law_X5_earned : GoodIn wsL_law (wsV RL 142 RX5 yX5_earned wsX5_earned) := goodIn_app (goodIn_of _ (by decide +kernel)) ggL_law_X5_earned
set_option maxRecDepth 20000 in
theorem ggL_law_X4_untilGarbled : GoodIn wsL_law wsX4_untilGarbled := goodIn_r _ [561, 474, 30, 562, 493, 2, 494, 698, 699, 700, 701, 702, 703, 704, 705, 706, 707] (by decide +kernel) (by decide +kernel)
set_option maxRecDepth 20000 in
theorem gL_law_X4_untilGarbled : GoodIn wsL_law (wsV RL 143 RX4 yX4_untilGarbled wsX4_untilGarbled) := goodIn_app (goodIn_of _ (by decide +kernel)) ggL_law_X4_untilGarbled
set_option maxRecDepth 20000 in
theorem ggL_law_X5_untilGarbled : GoodIn wsL_law wsX5_untilGarbled := goodIn_r _ [566, 567, 568, 569, 5, 570, 512, 61, 523, 524, 525, 223, 224, 225, 226, 171, 708, 709, 710, 711, 712, 713, 714, 715, 716, 717, 718, 719, 720, 721, 722, 723, 724] (by decide +kernel) (by decide +kernel)
set_option maxRecDepth 20000 in
theorem gL_law_X5_untilGarbled : GoodIn wsL_law (wsV RL 146 RX5 yX5_untilGarbled wsX5_untilGarbled) := goodIn_app (goodIn_of _ (by decide +kernel)) ggL_law_X5_untilGarbled
set_option maxRecDepth 20000 in
theorem ggL_law_X4_wouldBeGarbled : GoodIn wsL_law wsX4_wouldBeGarbled := goodIn_r _ [574, 29, 24, 474, 30, 315, 316, 317, 23, 318, 165, 477, 478, 479, 28, 480, 481, 482, 483, 484, 485, 486, 487, 488, 489, 490, 491, 492, 493, 2, 494, 575, 576, 577, 578, 698, 699, 700, 701, 702, 703, 704, 705, 706, 707, 730, 731, 732, 733, 734, 735, 736, 737, 738] (by decide +kernel) (by decide +kernel)
set_option maxRecDepth 20000 in
theorem gL_law_X4_wouldBeGarbled : GoodIn wsL_law (wsV RL 147 RX4 yX4_wouldBeGarbled wsX4_wouldBeGarbled) := goodIn_app (goodIn_of _ (by decide +kernel)) ggL_law_X4_wouldBeGarbled
set_option maxRecDepth 20000 in
theorem ggL_law_X5_wouldBeGarbled : GoodIn wsL_law wsX5_wouldBeGarbled := goodIn_r _ [582, 583, 584, 585, 5, 586, 61, 522, 323, 324, 325, 326, 172, 62, 327, 328, 329, 330, 259, 63, 59, 58, 331, 332, 333, 334, 60, 518, 519, 520, 521, 513, 515, 517, 512, 523, 524, 525, 223, 224, 225, 226, 171, 708, 709, 710, 711, 712, 713, 714, 715, 716, 717, 718, 719, 720, 721, 722, 723, 724] (by decide +kernel) (by decide +kernel)
set_option maxRecDepth 20000 in
theorem gL_law_X5_wouldBeGarbled : GoodIn wsL_law (wsV RL 150 RX5 yX5_wouldBeGarbled wsX5_wouldBeGarbled) := goodIn_app (goodIn_of _ (by decide +kernel)) ggL_law_X5_wouldBeGarbled
set_option maxRecDepth 20000 in
theorem ggL_law_X4_repeatsIfSent : GoodIn wsL_law wsX4_repeatsIfSent := goodIn_r _ [590, 29, 24, 474, 30, 315, 316, 317, 23, 318, 165, 477, 478, 479, 28, 480, 481, 482, 483, 484, 485, 486, 487, 488, 489, 490, 491, 492, 493, 2, 494, 499, 500, 501, 502, 698, 699, 700, 701, 702, 703, 704, 705, 706, 707, 730, 731, 732, 733, 734, 735, 736, 737, 738] (by decide +kernel) (by decide +kernel)
set_option maxRecDepth 20000 in
theorem gL_law_X4_repeatsIfSent : GoodIn wsL_law (wsV RL 151 RX4 yX4_repeatsIfSent wsX4_repeatsIfSent) := goodIn_app (goodIn_of _ (by decide +kernel)) ggL_law_X4_repeatsIfSent
set_option maxRecDepth 20000 in
theorem ggL_law_X5_repeatsIfSent : GoodIn wsL_law wsX5_repeatsIfSent := goodIn_r _ [594, 595, 596, 597, 5, 598, 61, 515, 323, 324, 325, 326, 172, 62, 327, 328, 329, 330, 259, 63, 59, 58, 331, 332, 333, 334, 60, 518, 519, 520, 521, 513, 517, 522, 512, 523, 524, 525, 223, 224, 225, 226, 171, 708, 709, 710, 711, 712, 713, 714, 715, 716, 717, 718, 719, 720, 721, 722, 723, 724] (by decide +kernel) (by decide +kernel)
set_option maxRecDepth 20000 in
theorem gL_law_X5_repeatsIfSent : GoodIn wsL_law (wsV RL 154 RX5 yX5_repeatsIfSent wsX5_repeatsIfSent) := goodIn_app (goodIn_of _ (by decide +kernel)) ggL_law_X5_repeatsIfSent
set_option maxRecDepth 20000 in
theorem ggL_law_X4_qualityWanted : GoodIn wsL_law wsX4_qualityWanted := goodIn_r _ [602, 29, 24, 474, 315, 316, 317, 23, 318, 165, 477, 478, 479, 28, 480, 481, 482, 483, 484, 485, 486, 487, 488, 489, 490, 491, 492, 493, 2, 494, 503, 504, 505, 506, 698, 699, 700, 701, 702, 703, 704, 705, 706, 707, 730, 731, 732, 733, 734, 735, 736, 737, 738] (by decide +kernel) (by decide +kernel)
set_option maxRecDepth 20000 in
theorem gL_law_X4_qualityWanted : GoodIn wsL_law (wsV RL 155 RX4 yX4_qualityWanted wsX4_qualityWanted) := goodIn_app (goodIn_of _ (by decide +kernel)) ggL_law_X4_qualityWanted
set_option maxRecDepth 20000 in
theorem ggL_law_X5_qualityWanted : GoodIn wsL_law wsX5_qualityWanted := goodIn_r _ [606, 607, 608, 609, 5, 610, 517, 323, 324, 325, 326, 172, 62, 327, 328, 329, 330, 259, 63, 59, 58, 331, 332, 333, 334, 60, 518, 519, 520, 521, 513, 515, 522, 512, 523, 524, 525, 223, 224, 225, 226, 171, 708, 709, 710, 711, 712, 713, 714, 715, 716, 717, 718, 719, 720, 721, 722, 723, 724] (by decide +kernel) (by decide +kernel)
set_option maxRecDepth 20000 in
theorem gL_law_X5_qualityWanted : GoodIn wsL_law (wsV RL 158 RX5 yX5_qualityWanted wsX5_qualityWanted) := goodIn_app (goodIn_of _ (by decide +kernel)) ggL_law_X5_qualityWanted
set_option maxRecDepth 20000 in
theorem ggL_law_X4_uselessCode : GoodIn wsL_law wsX4_uselessCode := goodIn_r _ [614, 16, 25, 20, 24, 166, 132, 133, 15, 134, 88, 615, 616, 617, 23, 618, 114, 115, 116, 117, 118, 119, 120, 121, 47, 122, 123, 124, 19, 125, 126, 127, 128, 129, 130, 48, 49, 131, 135, 136, 137, 138, 139, 140, 141, 142, 37, 97, 98, 99, 100, 143, 144, 145, 146, 147, 148, 149, 150, 42, 151, 94, 95, 96, 36, 152, 153, 154, 155, 156, 157, 158, 159, 160, 161, 162, 163, 164, 165, 50, 315, 316, 317, 318, 698, 699, 700, 701, 702, 703, 704, 705, 706, 707, 725, 726, 727, 730, 731, 732, 733, 734, 728, 729] (by decide +kernel) (by decide +kernel)
set_option maxRecDepth 20000 in
theorem gL_law_X4_uselessCode : GoodIn wsL_law (wsV RL 159 RX4 yX4_uselessCode wsX4_uselessCode) := goodIn_app (goodIn_of _ (by decide +kernel)) ggL_law_X4_uselessCode
set_option maxRecDepth 20000 in
theorem ggL_law_X5_uselessCode : GoodIn wsL_law wsX5_uselessCode := goodIn_r _ [622, 623, 624, 625, 5, 626, 172, 62, 323, 324, 325, 326, 327, 328, 329, 330, 259, 63, 59, 58, 331, 332, 333, 334, 60, 223, 224, 225, 226, 171, 708, 709, 710, 711, 712, 713, 714, 715, 716, 717, 718, 719, 720, 721, 722, 723, 724] (by decide +kernel) (by decide +kernel)
set_option maxRecDepth 20000 in
theorem gL_law_X5_uselessCode : GoodIn wsL_law (wsV RL 162 RX5 yX5_uselessCode wsX5_uselessCode) := goodIn_app (goodIn_of _ (by decide +kernel)) ggL_law_X5_uselessCode
set_option maxRecDepth 20000 in
theorem ggL_law_L_bestNewCode : GoodIn wsL_law wsL_bestNewCode := goodIn_ca (goodIn_r _ [629, 68, 630, 631, 632, 2, 633, 74, 75, 634, 635, 636, 637, 20, 25, 16, 254, 123, 124, 19, 125, 126, 638, 639, 640, 23, 641, 114, 115, 116, 117, 118, 119, 120, 121, 47, 122, 127, 128, 129, 130, 48, 49, 131, 132, 133, 15, 134, 88, 135, 136, 137, 138, 139, 140, 141, 142, 37, 97, 98, 99, 100, 143, 144, 145, 146, 147, 148, 149, 150, 42, 151, 94, 95, 96, 36, 152, 153, 154, 155, 156, 157, 158, 159, 160, 161, 162, 163, 164, 165, 50, 315, 316, 317, 318, 698, 699, 700, 701, 702, 703, 704, 705, 706, 707, 728, 729, 730, 731, 732, 733, 734, 725, 726, 727] (by decide +kernel) (by decide +kernel)) (goodIn_sub (fun _ h => List.mem_append_left _ (List.mem_append_left _ (List.mem_append_right _ h))) (by decide +kernel))
set_option maxRecDepth 20000 in
theorem gL_law_L_bestNewCode : GoodIn wsL_law (va_wsS RL 163 yL_bestNewCode wsL_bestNewCode) := goodIn_app (goodIn_of _ (by decide +kernel)) ggL_law_L_bestNewCode
set_option maxRecDepth 20000 in
theorem ggL_law_X5_bestNewCode : GoodIn wsL_law wsX5_bestNewCode := goodIn_r _ [645, 171, 176, 177, 5, 178, 646, 647, 648, 649, 259, 58, 172, 59, 62, 331, 332, 333, 334, 60, 327, 328, 329, 330, 63, 179, 180, 181, 182, 708, 709, 710, 711, 712, 713, 714, 715, 716, 717, 718, 719, 720, 721, 722, 723, 724] (by decide +kernel) (by decide +kernel)
set_option maxRecDepth 20000 in
theorem gL_law_X5_bestNewCode : GoodIn wsL_law (wsV RL 165 RX5 yX5_bestNewCode wsX5_bestNewCode) := goodIn_app (goodIn_of _ (by decide +kernel)) ggL_law_X5_bestNewCode
set_option maxRecDepth 20000 in
theorem ggL_law_X4_meanLength : GoodIn wsL_law wsX4_meanLength := goodIn_r _ [653, 16, 166, 132, 133, 15, 134, 88, 198, 140, 141, 142, 37, 97, 98, 99, 100, 698, 699, 700, 701, 702, 703, 704, 705, 706, 707, 725, 726, 727] (by decide +kernel) (by decide +kernel)
set_option maxRecDepth 20000 in
theorem gL_law_X4_meanLength : GoodIn wsL_law (wsV RL 166 RX4 yX4_meanLength wsX4_meanLength) := goodIn_app (goodIn_of _ (by decide +kernel)) ggL_law_X4_meanLength
set_option maxRecDepth 20000 in
theorem ggL_law_X5_meanLength : GoodIn wsL_law wsX5_meanLength := goodIn_r _ [657, 171, 172, 59, 708, 709, 710, 711, 712, 713, 714, 715, 716, 717, 718, 719, 720, 721, 722, 723, 724] (by decide +kernel) (by decide +kernel)
set_option maxRecDepth 20000 in
theorem gL_law_X5_meanLength : GoodIn wsL_law (wsV RL 170 RX5 yX5_meanLength wsX5_meanLength) := goodIn_app (goodIn_of _ (by decide +kernel)) ggL_law_X5_meanLength
set_option maxRecDepth 20000 in
theorem ggL_law_X4_digest : GoodIn wsL_law wsX4_digest := goodIn_r _ [661, 662, 663, 216, 217, 2, 218, 16, 166, 132, 133, 15, 134, 88, 664, 665, 666, 667, 668, 292, 293, 294, 20, 254, 123, 124, 19, 125, 126, 669, 312, 313, 314, 24, 315, 316, 317, 23, 318, 165, 418, 399, 400, 401, 346, 347, 348, 349, 49, 50, 350, 343, 344, 345, 370, 371, 372, 373, 402, 403, 404, 405, 147, 148, 149, 150, 42, 143, 144, 145, 146, 446, 415, 416, 417, 419, 420, 421, 422, 423, 273, 120, 274, 670, 438, 439, 440, 441, 442, 443, 444, 445, 671, 527, 528, 529, 474, 672, 535, 536, 537, 475, 673, 543, 544, 545, 476, 674, 551, 552, 553, 473, 675, 559, 560, 561, 30, 562, 493, 494, 676, 572, 573, 574, 29, 477, 478, 479, 28, 480, 481, 482, 483, 484, 485, 486, 487, 488, 489, 490, 491, 492, 575, 576, 577, 578, 677, 588, 589, 590, 499, 500, 501, 502, 678, 600, 601, 602, 503, 504, 505, 506, 679, 612, 613, 614, 25, 615, 616, 617, 618, 114, 115, 116, 117, 118, 119, 121, 47, 122, 127, 128, 129, 130, 48, 131, 135, 136, 137, 138, 139, 140, 141, 142, 37, 97, 98, 99, 100, 151, 94, 95, 96, 36, 152, 153, 154, 155, 156, 157, 158, 159, 160, 161, 162, 163, 164, 634, 635, 636, 637, 638, 639, 640, 641, 680, 681, 682, 683, 198, 385, 386, 387, 388, 389, 684, 685, 686, 687, 267, 688, 689, 690, 691, 698, 699, 700, 701, 702, 703, 704, 705, 706, 707, 725, 726, 727, 728, 729, 730, 731, 732, 733, 734, 735, 736, 737, 738] (by decide +kernel) (by decide +kernel)
set_option maxRecDepth 20000 in
theorem gL_law_X4_digest : GoodIn wsL_law (wsV RL 171 RX4 yX4_digest wsX4_digest) := goodIn_app (goodIn_of _ (by decide +kernel)) ggL_law_X4_digest
set_option maxRecDepth 20000 in
theorem ggL_law_X5_digest : GoodIn wsL_law wsX5_digest := goodIn_r _ [695, 171, 35, 172, 259, 512, 514, 516, 511, 696, 697, 59, 60, 63, 323, 324, 325, 5, 326, 62, 327, 328, 329, 330, 58, 331, 332, 333, 334, 410, 411, 412, 413, 359, 360, 361, 362, 428, 429, 430, 431, 432, 433, 434, 435, 436, 273, 120, 274, 451, 452, 453, 454, 567, 568, 569, 570, 61, 523, 524, 525, 583, 584, 585, 586, 522, 518, 519, 520, 521, 513, 515, 517, 595, 596, 597, 598, 607, 608, 609, 610, 623, 624, 625, 626, 646, 647, 648, 649, 394, 395, 396, 397, 708, 709, 710, 711, 712, 713, 714, 715, 716, 717, 718, 719, 720, 721, 722, 723, 724] (by decide +kernel) (by decide +kernel)
set_option maxRecDepth 20000 in
theorem gL_law_X5_digest : GoodIn wsL_law (wsV RL 175 RX5 yX5_digest wsX5_digest) := goodIn_app (goodIn_of _ (by decide +kernel)) ggL_law_X5_digest
