set_option maxRecDepth 20000 in
theorem ggL_law_X7_init : GoodIn wsL_law wsX7_init := goodIn_r _ [8, 9, 10, 11, 12, 13, 14, 15, 16, 17, 18, 19, 20, 21, 22, 23, 24, 25, 26, 27, 28, 29, 30, 31, 32, 33, 34, 35, 36, 37, 38, 39, 40, 41, 42, 43, 44, 45, 46, 47, 48, 49, 50, 51, 52, 53, 54, 55, 56, 57, 58, 59, 60, 61, 62, 63, 64, 65, 66, 67, 68, 69, 70, 71, 72, 73, 74, 75, 76, 77, 78, 79, 80, 81, 82, 83, 84, 85, 812, 813, 814, 815, 816, 817, 818, 784, 785, 786, 787, 788, 789, 790, 791, 792, 793, 819, 820, 821, 822, 823, 824, 825, 826, 827, 828, 829, 830, 831, 832, 833, 834, 835, 836, 837, 838, 839, 840, 841, 842, 843, 844, 845] (by decide +kernel) (by decide +kernel)
set_option maxRecDepth 20000 in
theorem gL_law_X7_init : GoodIn wsL_law (wsX7_init) := ggL_law_X7_init
set_option maxRecDepth 20000 in
theorem ggL_law_X8_init : GoodIn wsL_law wsX8_init := goodIn_r _ [88, 89, 10, 11, 45, 90, 91, 92, 93, 94, 95, 96, 97, 98, 99, 100, 5, 101, 102, 103, 104, 105, 106, 107, 794, 795, 796, 797, 798, 799, 800, 801, 802, 803, 804, 805, 806, 807, 808, 809, 810, 811] (by decide +kernel) (by decide +kernel)
set_option maxRecDepth 20000 in
theorem gL_law_X8_init : GoodIn wsL_law (wsX8_init) := ggL_law_X8_init
set_option maxRecDepth 20000 in
theorem ggL_law_X7_type : GoodIn wsL_law wsX7_type := goodIn_r _ [111, 15, 112, 113, 114, 14, 115, 116, 46, 784, 785, 786, 787, 788, 789, 790, 791, 792, 793, 812, 813, 814, 815, 816, 817, 818] (by decide +kernel) (by decide +kernel)
set_option maxRecDepth 20000 in
theorem gL_law_X7_type : GoodIn wsL_law (wsV RL 13 RX7 yX7_type wsX7_type) := goodIn_app (goodIn_of _ (by decide +kernel)) ggL_law_X7_type
set_option maxRecDepth 20000 in
theorem ggL_law_X8_type : GoodIn wsL_law wsX8_type := goodIn_r _ [120, 121, 122, 90, 123, 124, 5, 125, 794, 795, 796, 797, 798, 799, 800, 801, 802, 803, 804, 805, 806, 807, 808, 809, 810, 811] (by decide +kernel) (by decide +kernel)
set_option maxRecDepth 20000 in
theorem gL_law_X8_type : GoodIn wsL_law (wsV RL 17 RX8 yX8_type wsX8_type) := goodIn_app (goodIn_of _ (by decide +kernel)) ggL_law_X8_type
set_option maxRecDepth 20000 in
theorem ggL_law_X7_clear : GoodIn wsL_law wsX7_clear := goodIn_r _ [129, 15, 130, 131, 132, 14, 133, 116, 784, 785, 786, 787, 788, 789, 790, 791, 792, 793, 812, 813, 814, 815, 816, 817, 818] (by decide +kernel) (by decide +kernel)
set_option maxRecDepth 20000 in
theorem gL_law_X7_clear : GoodIn wsL_law (wsV RL 18 RX7 yX7_clear wsX7_clear) := goodIn_app (goodIn_of _ (by decide +kernel)) ggL_law_X7_clear
set_option maxRecDepth 20000 in
theorem ggL_law_X8_clear : GoodIn wsL_law wsX8_clear := goodIn_r _ [137, 122, 794, 795, 796, 797, 798, 799, 800, 801, 802, 803, 804, 805, 806, 807, 808, 809, 810, 811] (by decide +kernel) (by decide +kernel)
set_option maxRecDepth 20000 in
theorem gL_law_X8_clear : GoodIn wsL_law (wsV RL 22 RX8 yX8_clear wsX8_clear) := goodIn_app (goodIn_of _ (by decide +kernel)) ggL_law_X8_clear
set_option maxRecDepth 20000 in
theorem ggL_law_X7_paper : GoodIn wsL_law wsX7_paper := goodIn_r _ [141, 15, 20, 19, 24, 29, 33, 37, 142, 143, 144, 14, 145, 146, 147, 148, 149, 150, 151, 152, 18, 153, 154, 50, 155, 156, 157, 158, 116, 46, 159, 160, 161, 162, 163, 164, 165, 166, 167, 168, 169, 170, 171, 172, 173, 174, 175, 176, 177, 178, 179, 180, 181, 182, 183, 184, 185, 186, 187, 130, 131, 132, 133, 188, 189, 190, 23, 191, 192, 193, 194, 195, 58, 196, 197, 198, 28, 199, 200, 201, 202, 203, 32, 204, 205, 206, 207, 208, 36, 209, 210, 784, 785, 786, 787, 788, 789, 790, 791, 792, 793, 812, 813, 814, 815, 816, 817, 818, 819, 820, 821, 822, 823, 824, 825, 826, 827, 828, 829, 830, 831, 832, 833, 834, 835, 836, 837, 838, 839, 840, 841, 842, 843] (by decide +kernel) (by decide +kernel)
set_option maxRecDepth 20000 in
theorem gL_law_X7_paper : GoodIn wsL_law (wsV RL 23 RX7 yX7_paper wsX7_paper) := goodIn_app (goodIn_of _ (by decide +kernel)) ggL_law_X7_paper
set_option maxRecDepth 20000 in
theorem ggL_law_X8_paper : GoodIn wsL_law wsX8_paper := goodIn_r _ [214, 215, 216, 217, 122, 98, 99, 100, 5, 101, 91, 218, 219, 220, 221, 90, 222, 223, 224, 225, 226, 227, 123, 124, 125, 228, 229, 230, 231, 232, 233, 234, 235, 236, 237, 238, 239, 102, 103, 104, 105, 92, 93, 106, 107, 97, 794, 795, 796, 797, 798, 799, 800, 801, 802, 803, 804, 805, 806, 807, 808, 809, 810, 811] (by decide +kernel) (by decide +kernel)
set_option maxRecDepth 20000 in
theorem gL_law_X8_paper : GoodIn wsL_law (wsV RL 26 RX8 yX8_paper wsX8_paper) := goodIn_app (goodIn_of _ (by decide +kernel)) ggL_law_X8_paper
set_option maxRecDepth 20000 in
theorem ggL_law_X7_writer : GoodIn wsL_law wsX7_writer := goodIn_r _ [243, 19, 244, 245, 24, 246, 247, 248, 249, 250, 18, 251, 154, 252, 253, 254, 23, 255, 195, 256, 257, 258, 259, 260, 261, 262, 263, 194, 62, 264, 265, 266, 267, 268, 269, 270, 784, 785, 786, 787, 788, 789, 790, 791, 792, 793, 819, 820, 821, 822, 823, 824, 825, 826, 827, 828, 829, 830, 831, 832, 833, 834] (by decide +kernel) (by decide +kernel)
set_option maxRecDepth 20000 in
theorem gL_law_X7_writer : GoodIn wsL_law (wsV RL 27 RX7 yX7_writer wsX7_writer) := goodIn_app (goodIn_of _ (by decide +kernel)) ggL_law_X7_writer
set_option maxRecDepth 20000 in
theorem ggL_law_X8_writer : GoodIn wsL_law wsX8_writer := goodIn_r _ [274, 275, 92, 93, 276, 277, 278, 5, 279, 123, 124, 125, 280, 281, 282, 283, 284, 285, 286, 287, 794, 795, 796, 797, 798, 799, 800, 801, 802, 803, 804, 805, 806, 807, 808, 809, 810, 811] (by decide +kernel) (by decide +kernel)
set_option maxRecDepth 20000 in
theorem gL_law_X8_writer : GoodIn wsL_law (wsV RL 31 RX8 yX8_writer wsX8_writer) := goodIn_app (goodIn_of _ (by decide +kernel)) ggL_law_X8_writer
set_option maxRecDepth 20000 in
theorem ggL_law_X7_quarrel : GoodIn wsL_law wsX7_quarrel := goodIn_r _ [291, 24, 292, 293, 294, 295, 296, 297, 298, 299, 300, 23, 301, 194, 784, 785, 786, 787, 788, 789, 790, 791, 792, 793, 824, 825, 826, 827, 828, 829, 830, 831, 832, 833, 834] (by decide +kernel) (by decide +kernel)
set_option maxRecDepth 20000 in
theorem gL_law_X7_quarrel : GoodIn wsL_law (wsV RL 32 RX7 yX7_quarrel wsX7_quarrel) := goodIn_app (goodIn_of _ (by decide +kernel)) ggL_law_X7_quarrel
set_option maxRecDepth 20000 in
theorem ggL_law_X8_quarrel : GoodIn wsL_law wsX8_quarrel := goodIn_r _ [305, 306, 307, 308, 309, 5, 310, 93, 123, 124, 125, 284, 285, 286, 287, 794, 795, 796, 797, 798, 799, 800, 801, 802, 803, 804, 805, 806, 807, 808, 809, 810, 811] (by decide +kernel) (by decide +kernel)
set_option maxRecDepth 20000 in
theorem gL_law_X8_quarrel : GoodIn wsL_law (wsV RL 35 RX8 yX8_quarrel wsX8_quarrel) := goodIn_app (goodIn_of _ (by decide +kernel)) ggL_law_X8_quarrel
set_option maxRecDepth 20000 in
theorem ggL_law_X7_meant : GoodIn wsL_law wsX7_meant := goodIn_r _ [314, 19, 24, 315, 316, 317, 318, 2, 319, 248, 249, 250, 18, 251, 154, 320, 321, 322, 323, 54, 784, 785, 786, 787, 788, 789, 790, 791, 792, 793, 824, 825, 826, 827, 828, 829, 830, 831, 832, 833, 834, 819, 820, 821, 822, 823] (by decide +kernel) (by decide +kernel)
set_option maxRecDepth 20000 in
theorem gL_law_X7_meant : GoodIn wsL_law (wsV RL 36 RX7 yX7_meant wsX7_meant) := goodIn_app (goodIn_of _ (by decide +kernel)) ggL_law_X7_meant
set_option maxRecDepth 20000 in
theorem ggL_law_X8_meant : GoodIn wsL_law wsX8_meant := goodIn_r _ [327, 93, 276, 277, 278, 5, 279, 92, 123, 124, 125, 328, 329, 330, 331, 332, 333, 334, 335, 336, 337, 338, 339, 794, 795, 796, 797, 798, 799, 800, 801, 802, 803, 804, 805, 806, 807, 808, 809, 810, 811] (by decide +kernel) (by decide +kernel)
set_option maxRecDepth 20000 in
theorem gL_law_X8_meant : GoodIn wsL_law (wsV RL 39 RX8 yX8_meant wsX8_meant) := goodIn_app (goodIn_of _ (by decide +kernel)) ggL_law_X8_meant
set_option maxRecDepth 20000 in
theorem ggL_law_X7_now : GoodIn wsL_law wsX7_now := goodIn_r _ [343, 24, 344, 345, 346, 29, 347, 348, 349, 350, 23, 351, 260, 261, 262, 263, 194, 62, 784, 785, 786, 787, 788, 789, 790, 791, 792, 793, 824, 825, 826, 827, 828, 829, 830, 831, 832, 833, 834, 835, 836, 837] (by decide +kernel) (by decide +kernel)
set_option maxRecDepth 20000 in
theorem gL_law_X7_now : GoodIn wsL_law (wsV RL 40 RX7 yX7_now wsX7_now) := goodIn_app (goodIn_of _ (by decide +kernel)) ggL_law_X7_now
set_option maxRecDepth 20000 in
theorem ggL_law_X8_now : GoodIn wsL_law wsX8_now := goodIn_r _ [355, 93, 107, 284, 285, 286, 5, 287, 794, 795, 796, 797, 798, 799, 800, 801, 802, 803, 804, 805, 806, 807, 808, 809, 810, 811] (by decide +kernel) (by decide +kernel)
set_option maxRecDepth 20000 in
theorem gL_law_X8_now : GoodIn wsL_law (wsV RL 43 RX8 yX8_now wsX8_now) := goodIn_app (goodIn_of _ (by decide +kernel)) ggL_law_X8_now
set_option maxRecDepth 20000 in
theorem ggL_law_X7_writes : GoodIn wsL_law wsX7_writes := goodIn_r _ [359, 24, 345, 29, 19, 316, 317, 318, 2, 319, 248, 249, 250, 18, 251, 154, 252, 253, 254, 23, 255, 195, 360, 361, 362, 28, 363, 70, 364, 200, 365, 366, 367, 368, 369, 370, 371, 372, 192, 193, 194, 58, 373, 374, 375, 376, 59, 60, 61, 62, 63, 64, 377, 378, 379, 380, 381, 382, 383, 384, 385, 386, 387, 388, 389, 390, 321, 322, 323, 54, 784, 785, 786, 787, 788, 789, 790, 791, 792, 793, 824, 825, 826, 827, 828, 829, 830, 831, 832, 833, 834, 819, 820, 821, 822, 823, 835, 836, 837] (by decide +kernel) (by decide +kernel)
set_option maxRecDepth 20000 in
theorem gL_law_X7_writes : GoodIn wsL_law (wsV RL 44 RX7 yX7_writes wsX7_writes) := goodIn_app (goodIn_of _ (by decide +kernel)) ggL_law_X7_writes
set_option maxRecDepth 20000 in
theorem ggL_law_X8_writes : GoodIn wsL_law wsX8_writes := goodIn_r _ [394, 93, 276, 277, 278, 5, 279, 92, 123, 124, 125, 328, 329, 330, 331, 395, 396, 397, 398, 399, 400, 401, 402, 107, 94, 403, 404, 405, 406, 407, 408, 409, 410, 332, 333, 334, 335, 336, 337, 338, 339, 411, 412, 413, 414, 794, 795, 796, 797, 798, 799, 800, 801, 802, 803, 804, 805, 806, 807, 808, 809, 810, 811] (by decide +kernel) (by decide +kernel)
set_option maxRecDepth 20000 in
theorem gL_law_X8_writes : GoodIn wsL_law (wsV RL 47 RX8 yX8_writes wsX8_writes) := goodIn_app (goodIn_of _ (by decide +kernel)) ggL_law_X8_writes
set_option maxRecDepth 20000 in
theorem ggL_law_X7_day : GoodIn wsL_law wsX7_day := goodIn_r _ [418, 24, 344, 29, 19, 360, 361, 362, 28, 363, 70, 364, 200, 365, 366, 367, 368, 369, 370, 371, 23, 372, 192, 193, 194, 195, 58, 373, 374, 375, 376, 59, 60, 61, 62, 63, 64, 419, 420, 421, 422, 423, 424, 425, 426, 427, 428, 429, 430, 431, 18, 432, 52, 381, 382, 383, 384, 385, 386, 387, 388, 389, 390, 321, 322, 323, 154, 54, 433, 434, 435, 436, 784, 785, 786, 787, 788, 789, 790, 791, 792, 793, 824, 825, 826, 827, 828, 829, 830, 831, 832, 833, 834, 835, 836, 837, 819, 820, 821, 822, 823] (by decide +kernel) (by decide +kernel)
set_option maxRecDepth 20000 in
theorem gL_law_X7_day : GoodIn wsL_law (wsV RL 48 RX7 yX7_day wsX7_day) := goodIn_app (goodIn_of _ (by decide +kernel)) ggL_law_X7_day
set_option maxRecDepth 20000 in
theorem ggL_law_X8_day : GoodIn wsL_law wsX8_day := goodIn_r _ [440, 93, 399, 400, 401, 5, 402, 107, 94, 441, 442, 443, 444, 92, 445, 446, 447, 448, 449, 284, 285, 286, 287, 450, 451, 452, 453, 403, 404, 405, 406, 407, 408, 409, 410, 332, 333, 334, 335, 336, 337, 338, 339, 411, 412, 413, 414, 794, 795, 796, 797, 798, 799, 800, 801, 802, 803, 804, 805, 806, 807, 808, 809, 810, 811] (by decide +kernel) (by decide +kernel)
set_option maxRecDepth 20000 in
theorem gL_law_X8_day : GoodIn wsL_law (wsV RL 51 RX8 yX8_day wsX8_day) := goodIn_app (goodIn_of _ (by decide +kernel)) ggL_law_X8_day
set_option maxRecDepth 20000 in
theorem ggL_law_X7_lays : GoodIn wsL_law wsX7_lays := goodIn_r _ [457, 19, 24, 29, 248, 249, 250, 18, 251, 154, 252, 253, 254, 23, 255, 195, 360, 361, 362, 28, 363, 70, 364, 200, 365, 366, 367, 368, 369, 370, 371, 372, 192, 193, 194, 58, 373, 374, 375, 376, 59, 60, 61, 62, 63, 64, 458, 459, 460, 461, 260, 261, 262, 263, 385, 386, 387, 388, 389, 390, 321, 322, 323, 54, 264, 265, 266, 267, 268, 269, 270, 784, 785, 786, 787, 788, 789, 790, 791, 792, 793, 819, 820, 821, 822, 823, 824, 825, 826, 827, 828, 829, 830, 831, 832, 833, 834, 835, 836, 837] (by decide +kernel) (by decide +kernel)
set_option maxRecDepth 20000 in
theorem gL_law_X7_lays : GoodIn wsL_law (wsV RL 52 RX7 yX7_lays wsX7_lays) := goodIn_app (goodIn_of _ (by decide +kernel)) ggL_law_X7_lays
set_option maxRecDepth 20000 in
theorem ggL_law_X8_lays : GoodIn wsL_law wsX8_lays := goodIn_r _ [465, 276, 277, 278, 5, 279, 92, 123, 124, 125, 395, 396, 397, 398, 93, 399, 400, 401, 402, 107, 94, 466, 467, 468, 469, 284, 285, 286, 287, 407, 408, 409, 410, 332, 333, 334, 335, 336, 337, 338, 339, 411, 412, 413, 414, 794, 795, 796, 797, 798, 799, 800, 801, 802, 803, 804, 805, 806, 807, 808, 809, 810, 811] (by decide +kernel) (by decide +kernel)
set_option maxRecDepth 20000 in
theorem gL_law_X8_lays : GoodIn wsL_law (wsV RL 55 RX8 yX8_lays wsX8_lays) := goodIn_app (goodIn_of _ (by decide +kernel)) ggL_law_X8_lays
set_option maxRecDepth 20000 in
theorem ggL_law_X7_undo : GoodIn wsL_law wsX7_undo := goodIn_r _ [473, 29, 347, 24, 474, 475, 476, 28, 477, 364, 200, 70, 369, 370, 371, 23, 372, 192, 193, 194, 195, 58, 373, 374, 375, 376, 59, 60, 61, 62, 63, 64, 784, 785, 786, 787, 788, 789, 790, 791, 792, 793, 835, 836, 837, 824, 825, 826, 827, 828, 829, 830, 831, 832, 833, 834] (by decide +kernel) (by decide +kernel)
set_option maxRecDepth 20000 in
theorem gL_law_X7_undo : GoodIn wsL_law (wsV RL 56 RX7 yX7_undo wsX7_undo) := goodIn_app (goodIn_of _ (by decide +kernel)) ggL_law_X7_undo
set_option maxRecDepth 20000 in
theorem ggL_law_X8_undo : GoodIn wsL_law wsX8_undo := goodIn_r _ [481, 107, 93, 94, 794, 795, 796, 797, 798, 799, 800, 801, 802, 803, 804, 805, 806, 807, 808, 809, 810, 811] (by decide +kernel) (by decide +kernel)
set_option maxRecDepth 20000 in
theorem gL_law_X8_undo : GoodIn wsL_law (wsV RL 59 RX8 yX8_undo wsX8_undo) := goodIn_app (goodIn_of _ (by decide +kernel)) ggL_law_X8_undo
set_option maxRecDepth 20000 in
theorem ggL_law_X7_inDays : GoodIn wsL_law wsX7_inDays := goodIn_r _ [485, 24, 25, 19, 292, 293, 295, 298, 299, 300, 23, 301, 194, 486, 370, 371, 372, 192, 193, 195, 58, 373, 374, 375, 376, 59, 60, 61, 62, 63, 64, 419, 420, 421, 422, 423, 424, 425, 426, 427, 428, 429, 430, 431, 18, 432, 52, 381, 382, 383, 384, 385, 386, 387, 388, 389, 390, 321, 322, 323, 154, 54, 433, 434, 435, 436, 784, 785, 786, 787, 788, 789, 790, 791, 792, 793, 824, 825, 826, 827, 828, 829, 830, 831, 832, 833, 834, 819, 820, 821, 822, 823] (by decide +kernel) (by decide +kernel)
set_option maxRecDepth 20000 in
theorem gL_law_X7_inDays : GoodIn wsL_law (wsV RL 60 RX7 yX7_inDays wsX7_inDays) := goodIn_app (goodIn_of _ (by decide +kernel)) ggL_law_X7_inDays
set_option maxRecDepth 20000 in
theorem ggL_law_X8_inDays : GoodIn wsL_law wsX8_inDays := goodIn_r _ [490, 491, 492, 307, 308, 309, 5, 310, 93, 123, 124, 125, 493, 494, 495, 496, 95, 441, 442, 443, 444, 92, 445, 446, 447, 448, 449, 284, 285, 286, 287, 450, 451, 452, 453, 403, 404, 405, 406, 407, 408, 409, 410, 332, 333, 334, 335, 336, 337, 338, 339, 411, 412, 413, 414, 497, 498, 499, 500, 794, 795, 796, 797, 798, 799, 800, 801, 802, 803, 804, 805, 806, 807, 808, 809, 810, 811] (by decide +kernel) (by decide +kernel)
set_option maxRecDepth 20000 in
theorem gL_law_X8_inDays : GoodIn wsL_law (wsV RL 64 RX8 yX8_inDays wsX8_inDays) := goodIn_app (goodIn_of _ (by decide +kernel)) ggL_law_X8_inDays
set_option maxRecDepth 20000 in
theorem ggL_law_X7_ends : GoodIn wsL_law wsX7_ends := goodIn_r _ [504, 24, 25, 298, 299, 300, 23, 301, 194, 486, 370, 371, 372, 192, 193, 195, 58, 373, 374, 375, 376, 59, 60, 61, 62, 63, 64, 505, 506, 507, 2, 508, 41, 19, 292, 293, 315, 509, 295, 510, 511, 512, 40, 513, 514, 515, 516, 321, 322, 18, 323, 154, 54, 517, 430, 431, 432, 52, 419, 420, 421, 422, 423, 424, 425, 426, 427, 428, 429, 381, 382, 383, 384, 385, 386, 387, 388, 389, 390, 433, 434, 435, 436, 784, 785, 786, 787, 788, 789, 790, 791, 792, 793, 824, 825, 826, 827, 828, 829, 830, 831, 832, 833, 834, 844, 845, 819, 820, 821, 822, 823] (by decide +kernel) (by decide +kernel)
set_option maxRecDepth 20000 in
theorem gL_law_X7_ends : GoodIn wsL_law (wsV RL 65 RX7 yX7_ends wsX7_ends) := goodIn_app (goodIn_of _ (by decide +kernel)) ggL_law_X7_ends
set_option maxRecDepth 20000 in
theorem ggL_law_X8_ends : GoodIn wsL_law wsX8_ends := goodIn_r _ [521, 307, 308, 309, 5, 310, 93, 123, 124, 125, 493, 494, 495, 496, 95, 522, 523, 524, 525, 284, 285, 286, 287, 441, 442, 443, 444, 92, 445, 446, 447, 448, 449, 450, 451, 452, 453, 403, 404, 405, 406, 407, 408, 409, 410, 332, 333, 334, 335, 336, 337, 338, 339, 411, 412, 413, 414, 497, 498, 499, 500, 794, 795, 796, 797, 798, 799, 800, 801, 802, 803, 804, 805, 806, 807, 808, 809, 810, 811] (by decide +kernel) (by decide +kernel)
set_option maxRecDepth 20000 in
theorem gL_law_X8_ends : GoodIn wsL_law (wsV RL 68 RX8 yX8_ends wsX8_ends) := goodIn_app (goodIn_of _ (by decide +kernel)) ggL_law_X8_ends
set_option maxRecDepth 20000 in
theorem ggL_law_X7_round : GoodIn wsL_law wsX7_round := goodIn_r _ [529, 24, 41, 19, 315, 509, 530, 316, 317, 318, 2, 319, 248, 249, 250, 18, 251, 154, 252, 253, 254, 23, 255, 195, 510, 511, 512, 40, 513, 514, 515, 516, 321, 322, 323, 54, 517, 430, 431, 432, 52, 784, 785, 786, 787, 788, 789, 790, 791, 792, 793, 824, 825, 826, 827, 828, 829, 830, 831, 832, 833, 834, 844, 845, 819, 820, 821, 822, 823] (by decide +kernel) (by decide +kernel)
set_option maxRecDepth 20000 in
theorem gL_law_X7_round : GoodIn wsL_law (wsV RL 69 RX7 yX7_round wsX7_round) := goodIn_app (goodIn_of _ (by decide +kernel)) ggL_law_X7_round
set_option maxRecDepth 20000 in
theorem ggL_law_X8_round : GoodIn wsL_law wsX8_round := goodIn_r _ [534, 93, 535, 276, 277, 278, 5, 279, 92, 123, 124, 125, 328, 329, 330, 331, 395, 396, 397, 398, 536, 537, 538, 539, 332, 333, 334, 335, 336, 337, 338, 339, 450, 451, 452, 453, 794, 795, 796, 797, 798, 799, 800, 801, 802, 803, 804, 805, 806, 807, 808, 809, 810, 811] (by decide +kernel) (by decide +kernel)
set_option maxRecDepth 20000 in
theorem gL_law_X8_round : GoodIn wsL_law (wsV RL 72 RX8 yX8_round wsX8_round) := goodIn_app (goodIn_of _ (by decide +kernel)) ggL_law_X8_round
