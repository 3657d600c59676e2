set_option maxRecDepth 20000 in
theorem ggL_law_X7_last : GoodIn wsL_law wsX7_last := goodIn_r _ [543, 19, 24, 315, 248, 249, 250, 18, 251, 154, 252, 253, 254, 23, 255, 195, 544, 545, 546, 2, 547, 41, 530, 510, 511, 512, 40, 513, 514, 515, 516, 321, 322, 323, 54, 517, 430, 431, 432, 52, 784, 785, 786, 787, 788, 789, 790, 791, 792, 793, 824, 825, 826, 827, 828, 829, 830, 831, 832, 833, 834, 819, 820, 821, 822, 823, 844, 845] (by decide +kernel) (by decide +kernel)
set_option maxRecDepth 20000 in
theorem gL_law_X7_last : GoodIn wsL_law (wsV RL 73 RX7 yX7_last wsX7_last) := goodIn_app (goodIn_of _ (by decide +kernel)) ggL_law_X7_last
set_option maxRecDepth 20000 in
theorem ggL_law_X8_last : GoodIn wsL_law wsX8_last := goodIn_r _ [551, 93, 535, 276, 277, 278, 5, 279, 92, 123, 124, 125, 395, 396, 397, 398, 536, 537, 538, 539, 332, 333, 334, 335, 336, 337, 338, 339, 450, 451, 452, 453, 794, 795, 796, 797, 798, 799, 800, 801, 802, 803, 804, 805, 806, 807, 808, 809, 810, 811] (by decide +kernel) (by decide +kernel)
set_option maxRecDepth 20000 in
theorem gL_law_X8_last : GoodIn wsL_law (wsV RL 76 RX8 yX8_last wsX8_last) := goodIn_app (goodIn_of _ (by decide +kernel)) ggL_law_X8_last
set_option maxRecDepth 20000 in
theorem ggL_law_X7_bindsNobody : GoodIn wsL_law wsX7_bindsNobody := goodIn_r _ [555, 19, 24, 315, 248, 249, 250, 18, 251, 154, 320, 321, 322, 323, 54, 784, 785, 786, 787, 788, 789, 790, 791, 792, 793, 824, 825, 826, 827, 828, 829, 830, 831, 832, 833, 834, 819, 820, 821, 822, 823] (by decide +kernel) (by decide +kernel)
set_option maxRecDepth 20000 in
theorem gL_law_X7_bindsNobody : GoodIn wsL_law (wsV RL 77 RX7 yX7_bindsNobody wsX7_bindsNobody) := goodIn_app (goodIn_of _ (by decide +kernel)) ggL_law_X7_bindsNobody
set_option maxRecDepth 20000 in
theorem ggL_law_X8_bindsNobody : GoodIn wsL_law wsX8_bindsNobody := goodIn_r _ [559, 93, 276, 277, 278, 5, 279, 92, 123, 124, 125, 332, 333, 334, 335, 336, 337, 338, 339, 794, 795, 796, 797, 798, 799, 800, 801, 802, 803, 804, 805, 806, 807, 808, 809, 810, 811] (by decide +kernel) (by decide +kernel)
set_option maxRecDepth 20000 in
theorem gL_law_X8_bindsNobody : GoodIn wsL_law (wsV RL 80 RX8 yX8_bindsNobody wsX8_bindsNobody) := goodIn_app (goodIn_of _ (by decide +kernel)) ggL_law_X8_bindsNobody
set_option maxRecDepth 20000 in
theorem ggL_law_X7_keeps : GoodIn wsL_law wsX7_keeps := goodIn_r _ [563, 19, 24, 564, 248, 249, 250, 18, 251, 154, 565, 261, 262, 23, 263, 194, 62, 566, 265, 266, 267, 268, 269, 270, 567, 568, 569, 570, 192, 61, 571, 572, 573, 574, 63, 784, 785, 786, 787, 788, 789, 790, 791, 792, 793, 819, 820, 821, 822, 823, 824, 825, 826, 827, 828, 829, 830, 831, 832, 833, 834] (by decide +kernel) (by decide +kernel)
set_option maxRecDepth 20000 in
theorem gL_law_X7_keeps : GoodIn wsL_law (wsV RL 81 RX7 yX7_keeps wsX7_keeps) := goodIn_app (goodIn_of _ (by decide +kernel)) ggL_law_X7_keeps
set_option maxRecDepth 20000 in
theorem ggL_law_X8_keeps : GoodIn wsL_law wsX8_keeps := goodIn_r _ [578, 93, 276, 277, 278, 5, 279, 92, 123, 124, 125, 284, 285, 286, 287, 579, 580, 581, 582, 583, 584, 585, 794, 795, 796, 797, 798, 799, 800, 801, 802, 803, 804, 805, 806, 807, 808, 809, 810, 811] (by decide +kernel) (by decide +kernel)
set_option maxRecDepth 20000 in
theorem gL_law_X8_keeps : GoodIn wsL_law (wsV RL 84 RX8 yX8_keeps wsX8_keeps) := goodIn_app (goodIn_of _ (by decide +kernel)) ggL_law_X8_keeps
set_option maxRecDepth 20000 in
theorem ggL_law_X7_lateFirst : GoodIn wsL_law wsX7_lateFirst := goodIn_r _ [589, 25, 24, 19, 564, 295, 486, 370, 371, 23, 372, 192, 193, 194, 195, 58, 373, 374, 375, 376, 59, 60, 61, 62, 63, 64, 419, 420, 421, 422, 423, 424, 425, 426, 427, 428, 429, 430, 431, 18, 432, 52, 381, 382, 383, 384, 385, 386, 387, 388, 389, 390, 321, 322, 323, 154, 54, 433, 434, 435, 436, 590, 591, 592, 593, 784, 785, 786, 787, 788, 789, 790, 791, 792, 793, 819, 820, 821, 822, 823, 824, 825, 826, 827, 828, 829, 830, 831, 832, 833, 834] (by decide +kernel) (by decide +kernel)
set_option maxRecDepth 20000 in
theorem gL_law_X7_lateFirst : GoodIn wsL_law (wsV RL 85 RX7 yX7_lateFirst wsX7_lateFirst) := goodIn_app (goodIn_of _ (by decide +kernel)) ggL_law_X7_lateFirst
set_option maxRecDepth 20000 in
theorem ggL_law_X8_lateFirst : GoodIn wsL_law wsX8_lateFirst := goodIn_r _ [597, 445, 123, 124, 5, 125, 493, 494, 495, 496, 95, 93, 441, 442, 443, 444, 92, 446, 447, 448, 449, 284, 285, 286, 287, 450, 451, 452, 453, 403, 404, 405, 406, 407, 408, 409, 410, 332, 333, 334, 335, 336, 337, 338, 339, 411, 412, 413, 414, 497, 498, 499, 500, 794, 795, 796, 797, 798, 799, 800, 801, 802, 803, 804, 805, 806, 807, 808, 809, 810, 811] (by decide +kernel) (by decide +kernel)
set_option maxRecDepth 20000 in
theorem gL_law_X8_lateFirst : GoodIn wsL_law (wsV RL 88 RX8 yX8_lateFirst wsX8_lateFirst) := goodIn_app (goodIn_of _ (by decide +kernel)) ggL_law_X8_lateFirst
set_option maxRecDepth 20000 in
theorem ggL_law_X7_peace : GoodIn wsL_law wsX7_peace := goodIn_r _ [601, 24, 19, 315, 298, 299, 300, 23, 301, 194, 602, 603, 604, 18, 605, 154, 566, 265, 266, 267, 268, 269, 270, 606, 607, 608, 2, 609, 25, 610, 486, 370, 371, 372, 192, 193, 195, 58, 373, 374, 375, 376, 59, 60, 61, 62, 63, 64, 458, 459, 460, 461, 260, 261, 262, 263, 385, 386, 387, 388, 389, 390, 321, 322, 323, 54, 264, 505, 506, 507, 508, 41, 292, 293, 509, 295, 510, 511, 512, 40, 513, 514, 515, 516, 517, 430, 431, 432, 52, 419, 420, 421, 422, 423, 424, 425, 426, 427, 428, 429, 381, 382, 383, 384, 433, 434, 435, 436, 784, 785, 786, 787, 788, 789, 790, 791, 792, 793, 824, 825, 826, 827, 828, 829, 830, 831, 832, 833, 834, 819, 820, 821, 822, 823, 844, 845] (by decide +kernel) (by decide +kernel)
set_option maxRecDepth 20000 in
theorem gL_law_X7_peace : GoodIn wsL_law (wsV RL 89 RX7 yX7_peace wsX7_peace) := goodIn_app (goodIn_of _ (by decide +kernel)) ggL_law_X7_peace
set_option maxRecDepth 20000 in
theorem ggL_law_X8_peace : GoodIn wsL_law wsX8_peace := goodIn_r _ [614, 92, 95, 307, 308, 309, 5, 310, 93, 123, 124, 125, 493, 494, 495, 496, 579, 580, 581, 466, 467, 468, 469, 284, 285, 286, 287, 407, 408, 409, 410, 332, 333, 334, 335, 336, 337, 338, 339, 411, 412, 413, 414, 522, 523, 524, 525, 441, 442, 443, 444, 445, 446, 447, 448, 449, 450, 451, 452, 453, 403, 404, 405, 406, 497, 498, 499, 500, 794, 795, 796, 797, 798, 799, 800, 801, 802, 803, 804, 805, 806, 807, 808, 809, 810, 811] (by decide +kernel) (by decide +kernel)
set_option maxRecDepth 20000 in
theorem gL_law_X8_peace : GoodIn wsL_law (wsV RL 92 RX8 yX8_peace wsX8_peace) := goodIn_app (goodIn_of _ (by decide +kernel)) ggL_law_X8_peace
set_option maxRecDepth 20000 in
theorem ggL_law_X7_found : GoodIn wsL_law wsX7_found := goodIn_r _ [618, 19, 37, 316, 317, 318, 2, 319, 248, 249, 250, 18, 251, 154, 619, 620, 621, 36, 622, 210, 80, 81, 82, 784, 785, 786, 787, 788, 789, 790, 791, 792, 793, 819, 820, 821, 822, 823, 840, 841, 842, 843] (by decide +kernel) (by decide +kernel)
set_option maxRecDepth 20000 in
theorem gL_law_X7_found : GoodIn wsL_law (wsV RL 93 RX7 yX7_found wsX7_found) := goodIn_app (goodIn_of _ (by decide +kernel)) ggL_law_X7_found
set_option maxRecDepth 20000 in
theorem ggL_law_X8_found : GoodIn wsL_law wsX8_found := goodIn_r _ [626, 106, 96, 276, 277, 278, 5, 279, 92, 123, 124, 125, 328, 329, 330, 331, 794, 795, 796, 797, 798, 799, 800, 801, 802, 803, 804, 805, 806, 807, 808, 809, 810, 811] (by decide +kernel) (by decide +kernel)
set_option maxRecDepth 20000 in
theorem gL_law_X8_found : GoodIn wsL_law (wsV RL 96 RX8 yX8_found wsX8_found) := goodIn_app (goodIn_of _ (by decide +kernel)) ggL_law_X8_found
set_option maxRecDepth 20000 in
theorem ggL_law_X7_forget : GoodIn wsL_law wsX7_forget := goodIn_r _ [630, 37, 206, 207, 208, 36, 209, 210, 784, 785, 786, 787, 788, 789, 790, 791, 792, 793, 840, 841, 842, 843] (by decide +kernel) (by decide +kernel)
set_option maxRecDepth 20000 in
theorem gL_law_X7_forget : GoodIn wsL_law (wsV RL 97 RX7 yX7_forget wsX7_forget) := goodIn_app (goodIn_of _ (by decide +kernel)) ggL_law_X7_forget
set_option maxRecDepth 20000 in
theorem ggL_law_X8_forget : GoodIn wsL_law wsX8_forget := goodIn_r _ [634, 106, 794, 795, 796, 797, 798, 799, 800, 801, 802, 803, 804, 805, 806, 807, 808, 809, 810, 811] (by decide +kernel) (by decide +kernel)
set_option maxRecDepth 20000 in
theorem gL_law_X8_forget : GoodIn wsL_law (wsV RL 100 RX8 yX8_forget wsX8_forget) := goodIn_app (goodIn_of _ (by decide +kernel)) ggL_law_X8_forget
set_option maxRecDepth 20000 in
theorem ggL_law_X7_mayBe : GoodIn wsL_law wsX7_mayBe := goodIn_r _ [638, 19, 247, 37, 316, 317, 318, 2, 319, 248, 249, 250, 18, 251, 154, 639, 640, 641, 36, 642, 210, 80, 81, 82, 643, 321, 322, 323, 54, 784, 785, 786, 787, 788, 789, 790, 791, 792, 793, 819, 820, 821, 822, 823, 840, 841, 842, 843] (by decide +kernel) (by decide +kernel)
set_option maxRecDepth 20000 in
theorem gL_law_X7_mayBe : GoodIn wsL_law (wsV RL 101 RX7 yX7_mayBe wsX7_mayBe) := goodIn_app (goodIn_of _ (by decide +kernel)) ggL_law_X7_mayBe
set_option maxRecDepth 20000 in
theorem ggL_law_X8_mayBe : GoodIn wsL_law wsX8_mayBe := goodIn_r _ [647, 92, 106, 96, 276, 277, 278, 5, 279, 123, 124, 125, 328, 329, 330, 331, 332, 333, 334, 335, 336, 337, 338, 339, 794, 795, 796, 797, 798, 799, 800, 801, 802, 803, 804, 805, 806, 807, 808, 809, 810, 811] (by decide +kernel) (by decide +kernel)
set_option maxRecDepth 20000 in
theorem gL_law_X8_mayBe : GoodIn wsL_law (wsV RL 104 RX8 yX8_mayBe wsX8_mayBe) := goodIn_app (goodIn_of _ (by decide +kernel)) ggL_law_X8_mayBe
set_option maxRecDepth 20000 in
theorem ggL_law_X7_odds : GoodIn wsL_law wsX7_odds := goodIn_r _ [651, 24, 19, 315, 316, 317, 318, 2, 319, 248, 249, 250, 18, 251, 154, 252, 253, 254, 23, 255, 195, 602, 603, 604, 605, 566, 265, 266, 267, 268, 269, 270, 544, 545, 546, 547, 41, 530, 510, 511, 512, 40, 513, 514, 515, 516, 321, 322, 323, 54, 517, 430, 431, 432, 52, 652, 653, 654, 655, 656, 657, 784, 785, 786, 787, 788, 789, 790, 791, 792, 793, 824, 825, 826, 827, 828, 829, 830, 831, 832, 833, 834, 819, 820, 821, 822, 823, 844, 845] (by decide +kernel) (by decide +kernel)
set_option maxRecDepth 20000 in
theorem gL_law_X7_odds : GoodIn wsL_law (wsV RL 105 RX7 yX7_odds wsX7_odds) := goodIn_app (goodIn_of _ (by decide +kernel)) ggL_law_X7_odds
set_option maxRecDepth 20000 in
theorem ggL_law_X8_odds : GoodIn wsL_law wsX8_odds := goodIn_r _ [661, 662, 92, 93, 535, 276, 277, 278, 5, 279, 123, 124, 125, 328, 329, 330, 331, 395, 396, 397, 398, 536, 537, 538, 539, 332, 333, 334, 335, 336, 337, 338, 339, 450, 451, 452, 453, 794, 795, 796, 797, 798, 799, 800, 801, 802, 803, 804, 805, 806, 807, 808, 809, 810, 811] (by decide +kernel) (by decide +kernel)
set_option maxRecDepth 20000 in
theorem gL_law_X8_odds : GoodIn wsL_law (wsV RL 109 RX8 yX8_odds wsX8_odds) := goodIn_app (goodIn_of _ (by decide +kernel)) ggL_law_X8_odds
set_option maxRecDepth 20000 in
theorem ggL_law_X7_most : GoodIn wsL_law wsX7_most := goodIn_r _ [666, 19, 610, 24, 667, 668, 669, 23, 670, 194, 62, 59, 784, 785, 786, 787, 788, 789, 790, 791, 792, 793, 819, 820, 821, 822, 823, 824, 825, 826, 827, 828, 829, 830, 831, 832, 833, 834] (by decide +kernel) (by decide +kernel)
set_option maxRecDepth 20000 in
theorem gL_law_X7_most : GoodIn wsL_law (wsV RL 110 RX7 yX7_most wsX7_most) := goodIn_app (goodIn_of _ (by decide +kernel)) ggL_law_X7_most
set_option maxRecDepth 20000 in
theorem ggL_law_X8_most : GoodIn wsL_law wsX8_most := goodIn_r _ [674, 92, 675, 676, 677, 5, 678, 93, 284, 285, 286, 287, 794, 795, 796, 797, 798, 799, 800, 801, 802, 803, 804, 805, 806, 807, 808, 809, 810, 811] (by decide +kernel) (by decide +kernel)
set_option maxRecDepth 20000 in
theorem gL_law_X8_most : GoodIn wsL_law (wsV RL 113 RX8 yX8_most wsX8_most) := goodIn_app (goodIn_of _ (by decide +kernel)) ggL_law_X8_most
set_option maxRecDepth 20000 in
theorem ggL_law_X7_titles : GoodIn wsL_law wsX7_titles := goodIn_r _ [682, 19, 247, 248, 249, 250, 18, 251, 154, 784, 785, 786, 787, 788, 789, 790, 791, 792, 793, 819, 820, 821, 822, 823] (by decide +kernel) (by decide +kernel)
set_option maxRecDepth 20000 in
theorem gL_law_X7_titles : GoodIn wsL_law (wsV RL 114 RX7 yX7_titles wsX7_titles) := goodIn_app (goodIn_of _ (by decide +kernel)) ggL_law_X7_titles
set_option maxRecDepth 20000 in
theorem ggL_law_X8_titles : GoodIn wsL_law wsX8_titles := goodIn_r _ [686, 276, 277, 278, 5, 279, 92, 123, 124, 125, 336, 337, 338, 339, 794, 795, 796, 797, 798, 799, 800, 801, 802, 803, 804, 805, 806, 807, 808, 809, 810, 811] (by decide +kernel) (by decide +kernel)
set_option maxRecDepth 20000 in
theorem gL_law_X8_titles : GoodIn wsL_law (wsV RL 117 RX8 yX8_titles wsX8_titles) := goodIn_app (goodIn_of _ (by decide +kernel)) ggL_law_X8_titles
set_option maxRecDepth 20000 in
theorem ggL_law_X7_rate : GoodIn wsL_law wsX7_rate := goodIn_r _ [690, 19, 691, 248, 249, 250, 18, 251, 154, 692, 693, 694, 2, 695, 696, 244, 697, 698, 699, 700, 701, 24, 256, 257, 258, 23, 259, 260, 261, 262, 263, 194, 62, 264, 265, 266, 267, 268, 269, 270, 702, 703, 704, 705, 706, 246, 707, 708, 709, 710, 711, 712, 713, 714, 715, 716, 717, 718, 719, 720, 721, 667, 668, 669, 670, 59, 784, 785, 786, 787, 788, 789, 790, 791, 792, 793, 819, 820, 821, 822, 823, 824, 825, 826, 827, 828, 829, 830, 831, 832, 833, 834] (by decide +kernel) (by decide +kernel)
set_option maxRecDepth 20000 in
theorem gL_law_X7_rate : GoodIn wsL_law (wsV RL 118 RX7 yX7_rate wsX7_rate) := goodIn_app (goodIn_of _ (by decide +kernel)) ggL_law_X7_rate
set_option maxRecDepth 20000 in
theorem ggL_law_X8_rate : GoodIn wsL_law wsX8_rate := goodIn_r _ [725, 306, 726, 727, 728, 729, 730, 731, 732, 93, 123, 124, 5, 125, 276, 277, 278, 279, 92, 411, 412, 413, 414, 280, 281, 282, 283, 284, 285, 286, 287, 675, 676, 677, 678, 794, 795, 796, 797, 798, 799, 800, 801, 802, 803, 804, 805, 806, 807, 808, 809, 810, 811] (by decide +kernel) (by decide +kernel)
set_option maxRecDepth 20000 in
theorem gL_law_X8_rate : GoodIn wsL_law (wsV RL 121 RX8 yX8_rate wsX8_rate) := goodIn_app (goodIn_of _ (by decide +kernel)) ggL_law_X8_rate
set_option maxRecDepth 20000 in
theorem ggL_law_X7_keep : GoodIn wsL_law wsX7_keep := goodIn_r _ [736, 33, 24, 344, 737, 738, 739, 32, 740, 741, 742, 743, 744, 76, 205, 745, 370, 371, 23, 372, 192, 193, 194, 195, 58, 373, 374, 375, 376, 59, 60, 61, 62, 63, 64, 784, 785, 786, 787, 788, 789, 790, 791, 792, 793, 824, 825, 826, 827, 828, 829, 830, 831, 832, 833, 834, 838, 839] (by decide +kernel) (by decide +kernel)
set_option maxRecDepth 20000 in
theorem gL_law_X7_keep : GoodIn wsL_law (wsV RL 122 RX7 yX7_keep wsX7_keep) := goodIn_app (goodIn_of _ (by decide +kernel)) ggL_law_X7_keep
set_option maxRecDepth 20000 in
theorem ggL_law_X8_keep : GoodIn wsL_law wsX8_keep := goodIn_r _ [749, 97, 93, 123, 124, 5, 125, 794, 795, 796, 797, 798, 799, 800, 801, 802, 803, 804, 805, 806, 807, 808, 809, 810, 811] (by decide +kernel) (by decide +kernel)
set_option maxRecDepth 20000 in
theorem gL_law_X8_keep : GoodIn wsL_law (wsV RL 125 RX8 yX8_keep wsX8_keep) := goodIn_app (goodIn_of _ (by decide +kernel)) ggL_law_X8_keep
set_option maxRecDepth 20000 in
theorem ggL_law_X7_back : GoodIn wsL_law wsX7_back := goodIn_r _ [753, 33, 24, 29, 344, 737, 738, 739, 32, 740, 754, 755, 756, 757, 205, 758, 759, 760, 761, 76, 745, 370, 371, 23, 372, 192, 193, 194, 195, 58, 373, 374, 375, 376, 59, 60, 61, 62, 63, 64, 196, 197, 198, 28, 199, 200, 784, 785, 786, 787, 788, 789, 790, 791, 792, 793, 824, 825, 826, 827, 828, 829, 830, 831, 832, 833, 834, 838, 839, 835, 836, 837] (by decide +kernel) (by decide +kernel)
set_option maxRecDepth 20000 in
theorem gL_law_X7_back : GoodIn wsL_law (wsV RL 126 RX7 yX7_back wsX7_back) := goodIn_app (goodIn_of _ (by decide +kernel)) ggL_law_X7_back
set_option maxRecDepth 20000 in
theorem ggL_law_X8_back : GoodIn wsL_law wsX8_back := goodIn_r _ [765, 97, 93, 107, 123, 124, 5, 125, 794, 795, 796, 797, 798, 799, 800, 801, 802, 803, 804, 805, 806, 807, 808, 809, 810, 811] (by decide +kernel) (by decide +kernel)
set_option maxRecDepth 20000 in
theorem gL_law_X8_back : GoodIn wsL_law (wsV RL 129 RX8 yX8_back wsX8_back) := goodIn_app (goodIn_of _ (by decide +kernel)) ggL_law_X8_back
set_option maxRecDepth 20000 in
theorem ggL_law_X7_count : GoodIn wsL_law wsX7_count := goodIn_r _ [769, 19, 610, 564, 37, 770, 15, 771, 784, 785, 786, 787, 788, 789, 790, 791, 792, 793, 819, 820, 821, 822, 823, 840, 841, 842, 843, 812, 813, 814, 815, 816, 817, 818] (by decide +kernel) (by decide +kernel)
set_option maxRecDepth 20000 in
theorem gL_law_X7_count : GoodIn wsL_law (wsV RL 130 RX7 yX7_count wsX7_count) := goodIn_app (goodIn_of _ (by decide +kernel)) ggL_law_X7_count
set_option maxRecDepth 20000 in
theorem ggL_law_X8_count : GoodIn wsL_law wsX8_count := goodIn_r _ [775, 92, 106, 122, 794, 795, 796, 797, 798, 799, 800, 801, 802, 803, 804, 805, 806, 807, 808, 809, 810, 811] (by decide +kernel) (by decide +kernel)
set_option maxRecDepth 20000 in
theorem gL_law_X8_count : GoodIn wsL_law (wsV RL 133 RX8 yX8_count wsX8_count) := goodIn_app (goodIn_of _ (by decide +kernel)) ggL_law_X8_count
