/-! the law's calls: their words -/
set_option maxRecDepth 20000 in
theorem ggL_law_X9_init : GoodIn wsL_law wsX9_init := goodIn_r _ [9, 10, 11, 12, 13, 14, 15, 16, 17, 18, 19, 20, 21, 22, 23, 24, 25, 26, 27, 28, 29, 30, 31, 32, 33, 34, 35, 36, 37, 38, 39, 40, 41, 42, 43, 44, 45, 46, 47, 48, 49, 50, 51, 52, 53, 54, 55, 56, 57, 58, 59, 60, 61, 62, 63, 64, 65, 66, 67, 68, 69, 70, 71, 72, 73, 74, 75, 76, 77, 78, 79, 80, 81, 82, 83, 84, 85, 86, 87, 88, 89, 90, 91, 92, 93, 94, 95, 96, 97, 98, 99, 100, 101, 102, 103, 786, 787, 788, 789, 790, 791, 767, 768, 769, 770, 771, 772, 773, 792, 793, 794, 795, 796, 797, 798, 799, 800, 801, 802, 803, 804, 805, 806, 807, 808, 809, 810, 811, 812, 813, 814, 815, 816, 817, 818, 819, 820, 821, 822, 823, 824, 825] (by decide +kernel) (by decide +kernel)
set_option maxRecDepth 20000 in
theorem gL_law_X9_init : GoodIn wsL_law (wsX9_init) := ggL_law_X9_init
set_option maxRecDepth 20000 in
theorem ggL_law_X10_init : GoodIn wsL_law wsX10_init := goodIn_r _ [106, 107, 11, 12, 58, 108, 109, 110, 111, 112, 113, 774, 775, 776, 777, 778, 779, 780, 781, 782, 783, 784, 785] (by decide +kernel) (by decide +kernel)
set_option maxRecDepth 20000 in
theorem gL_law_X10_init : GoodIn wsL_law (wsX10_init) := ggL_law_X10_init
set_option maxRecDepth 20000 in
theorem ggL_law_X9_singer : GoodIn wsL_law wsX9_singer := goodIn_r _ [117, 16, 118, 119, 20, 120, 121, 2, 122, 123, 124, 125, 126, 127, 128, 19, 129, 88, 130, 131, 132, 133, 134, 135, 136, 137, 138, 15, 139, 42, 46, 50, 54, 140, 141, 142, 143, 144, 41, 145, 146, 147, 148, 59, 60, 61, 62, 149, 150, 151, 152, 153, 154, 155, 156, 157, 158, 45, 159, 160, 66, 67, 68, 69, 161, 162, 163, 49, 164, 165, 73, 74, 75, 166, 167, 168, 53, 169, 170, 79, 80, 81, 82, 171, 172, 173, 174, 175, 176, 177, 178, 767, 768, 769, 770, 771, 772, 773, 786, 787, 788, 789, 790, 791, 805, 806, 807, 808, 809, 810, 811, 792, 793, 794, 812, 813, 814, 815, 816, 817, 818, 819, 820, 821, 822, 823, 824, 825] (by decide +kernel) (by decide +kernel)
set_option maxRecDepth 20000 in
theorem gL_law_X9_singer : GoodIn wsL_law (wsV RL 13 RX9 yX9_singer wsX9_singer) := goodIn_app (goodIn_of _ (by decide +kernel)) ggL_law_X9_singer
set_option maxRecDepth 20000 in
theorem ggL_law_X10_singer : GoodIn wsL_law wsX10_singer := goodIn_r _ [182, 108, 183, 184, 5, 185, 186, 187, 188, 189, 190, 110, 191, 192, 193, 194, 195, 196, 197, 774, 775, 776, 777, 778, 779, 780, 781, 782, 783, 784, 785] (by decide +kernel) (by decide +kernel)
set_option maxRecDepth 20000 in
theorem gL_law_X10_singer : GoodIn wsL_law (wsV RL 17 RX10 yX10_singer wsX10_singer) := goodIn_app (goodIn_of _ (by decide +kernel)) ggL_law_X10_singer
set_option maxRecDepth 20000 in
theorem ggL_law_X9_song : GoodIn wsL_law wsX9_song := goodIn_r _ [201, 16, 202, 203, 20, 120, 121, 2, 122, 123, 124, 125, 126, 127, 128, 19, 129, 88, 130, 131, 132, 133, 134, 135, 136, 137, 138, 15, 139, 42, 46, 50, 54, 140, 141, 142, 143, 144, 41, 145, 146, 147, 148, 59, 60, 61, 62, 149, 150, 151, 152, 153, 154, 155, 156, 157, 158, 45, 159, 160, 66, 67, 68, 69, 161, 162, 163, 49, 164, 165, 73, 74, 75, 166, 167, 168, 53, 169, 170, 79, 80, 81, 82, 204, 205, 206, 207, 767, 768, 769, 770, 771, 772, 773, 786, 787, 788, 789, 790, 791, 812, 813, 814, 815, 816, 792, 793, 794, 805, 806, 807, 808, 809, 810, 811, 817, 818, 819, 820, 821, 822, 823, 824, 825] (by decide +kernel) (by decide +kernel)
set_option maxRecDepth 20000 in
theorem gL_law_X9_song : GoodIn wsL_law (wsV RL 18 RX9 yX9_song wsX9_song) := goodIn_app (goodIn_of _ (by decide +kernel)) ggL_law_X9_song
set_option maxRecDepth 20000 in
theorem ggL_law_X10_song : GoodIn wsL_law wsX10_song := goodIn_r _ [211, 108, 183, 184, 5, 185, 186, 187, 188, 189, 190, 110, 191, 192, 193, 774, 775, 776, 777, 778, 779, 780, 781, 782, 783, 784, 785] (by decide +kernel) (by decide +kernel)
set_option maxRecDepth 20000 in
theorem gL_law_X10_song : GoodIn wsL_law (wsV RL 22 RX10 yX10_song wsX10_song) := goodIn_app (goodIn_of _ (by decide +kernel)) ggL_law_X10_song
set_option maxRecDepth 20000 in
theorem ggL_law_X9_leave : GoodIn wsL_law wsX9_leave := goodIn_r _ [215, 16, 118, 20, 216, 217, 218, 219, 41, 220, 146, 124, 2, 125, 221, 222, 223, 224, 147, 225, 226, 126, 127, 128, 19, 129, 88, 130, 131, 132, 133, 134, 135, 136, 137, 138, 15, 139, 42, 46, 50, 54, 140, 141, 142, 143, 144, 145, 148, 59, 60, 61, 62, 149, 150, 151, 152, 153, 154, 155, 156, 157, 158, 45, 159, 160, 66, 67, 68, 69, 161, 162, 163, 49, 164, 165, 73, 74, 75, 166, 167, 168, 53, 169, 170, 79, 80, 81, 82, 227, 176, 177, 178, 228, 229, 230, 231, 232, 233, 234, 767, 768, 769, 770, 771, 772, 773, 786, 787, 788, 789, 790, 791, 805, 806, 807, 808, 809, 810, 811, 792, 793, 794, 812, 813, 814, 815, 816, 817, 818, 819, 820, 821, 822, 823, 824, 825] (by decide +kernel) (by decide +kernel)
set_option maxRecDepth 20000 in
theorem gL_law_X9_leave : GoodIn wsL_law (wsV RL 23 RX9 yX9_leave wsX9_leave) := goodIn_app (goodIn_of _ (by decide +kernel)) ggL_law_X9_leave
set_option maxRecDepth 20000 in
theorem ggL_law_X10_leave : GoodIn wsL_law wsX10_leave := goodIn_r _ [238, 239, 240, 241, 5, 242, 108, 183, 184, 185, 243, 244, 245, 246, 186, 187, 188, 189, 190, 110, 191, 192, 193, 194, 195, 196, 197, 247, 248, 249, 250, 251, 252, 253, 774, 775, 776, 777, 778, 779, 780, 781, 782, 783, 784, 785] (by decide +kernel) (by decide +kernel)
set_option maxRecDepth 20000 in
theorem gL_law_X10_leave : GoodIn wsL_law (wsV RL 27 RX10 yX10_leave wsX10_leave) := goodIn_app (goodIn_of _ (by decide +kernel)) ggL_law_X10_leave
set_option maxRecDepth 20000 in
theorem ggL_law_X9_wish : GoodIn wsL_law wsX9_wish := goodIn_r _ [257, 16, 258, 259, 20, 260, 261, 262, 15, 263, 264, 265, 266, 267, 42, 46, 268, 218, 219, 41, 220, 146, 124, 2, 125, 269, 270, 271, 45, 272, 160, 273, 274, 275, 276, 277, 278, 279, 280, 134, 281, 282, 133, 135, 283, 284, 285, 286, 287, 288, 289, 290, 66, 67, 126, 127, 128, 19, 129, 88, 130, 131, 132, 136, 137, 138, 139, 50, 54, 140, 141, 142, 143, 144, 145, 147, 148, 59, 60, 61, 62, 149, 150, 151, 152, 153, 154, 155, 156, 157, 158, 159, 68, 69, 161, 162, 163, 49, 164, 165, 73, 74, 75, 166, 167, 168, 53, 169, 170, 79, 80, 81, 82, 291, 292, 293, 294, 767, 768, 769, 770, 771, 772, 773, 786, 787, 788, 789, 790, 791, 817, 818, 819, 820, 805, 806, 807, 808, 809, 810, 811, 812, 813, 814, 815, 816, 792, 793, 794, 821, 822, 823, 824, 825] (by decide +kernel) (by decide +kernel)
set_option maxRecDepth 20000 in
theorem gL_law_X9_wish : GoodIn wsL_law (wsV RL 28 RX9 yX9_wish wsX9_wish) := goodIn_app (goodIn_of _ (by decide +kernel)) ggL_law_X9_wish
set_option maxRecDepth 20000 in
theorem ggL_law_X10_wish : GoodIn wsL_law wsX10_wish := goodIn_r _ [298, 299, 300, 301, 5, 302, 108, 303, 304, 305, 306, 239, 240, 241, 242, 183, 184, 185, 307, 308, 309, 310, 311, 312, 313, 314, 315, 316, 317, 318, 319, 320, 321, 322, 243, 244, 245, 246, 186, 187, 188, 189, 190, 110, 191, 192, 193, 323, 324, 325, 326, 774, 775, 776, 777, 778, 779, 780, 781, 782, 783, 784, 785] (by decide +kernel) (by decide +kernel)
set_option maxRecDepth 20000 in
theorem gL_law_X10_wish : GoodIn wsL_law (wsV RL 31 RX10 yX10_wish wsX10_wish) := goodIn_app (goodIn_of _ (by decide +kernel)) ggL_law_X10_wish
set_option maxRecDepth 20000 in
theorem ggL_law_X9_takeBack : GoodIn wsL_law wsX9_takeBack := goodIn_r _ [330, 16, 258, 20, 259, 331, 332, 333, 49, 334, 165, 124, 2, 125, 126, 127, 128, 19, 129, 88, 130, 131, 132, 133, 134, 135, 136, 137, 138, 15, 139, 42, 46, 50, 54, 140, 141, 142, 143, 144, 41, 145, 146, 147, 148, 59, 60, 61, 62, 149, 150, 151, 152, 153, 154, 155, 156, 157, 158, 45, 159, 160, 66, 67, 68, 69, 161, 162, 163, 164, 73, 74, 75, 166, 167, 168, 53, 169, 170, 79, 80, 81, 82, 335, 336, 337, 338, 767, 768, 769, 770, 771, 772, 773, 786, 787, 788, 789, 790, 791, 817, 818, 819, 820, 792, 793, 794, 805, 806, 807, 808, 809, 810, 811, 812, 813, 814, 815, 816, 821, 822, 823, 824, 825] (by decide +kernel) (by decide +kernel)
set_option maxRecDepth 20000 in
theorem gL_law_X9_takeBack : GoodIn wsL_law (wsV RL 32 RX9 yX9_takeBack wsX9_takeBack) := goodIn_app (goodIn_of _ (by decide +kernel)) ggL_law_X9_takeBack
set_option maxRecDepth 20000 in
theorem ggL_law_X10_takeBack : GoodIn wsL_law wsX10_takeBack := goodIn_r _ [342, 108, 343, 344, 345, 5, 346, 183, 184, 185, 186, 187, 188, 189, 190, 110, 191, 192, 193, 347, 348, 349, 350, 774, 775, 776, 777, 778, 779, 780, 781, 782, 783, 784, 785] (by decide +kernel) (by decide +kernel)
set_option maxRecDepth 20000 in
theorem gL_law_X10_takeBack : GoodIn wsL_law (wsV RL 36 RX10 yX10_takeBack wsX10_takeBack) := goodIn_app (goodIn_of _ (by decide +kernel)) ggL_law_X10_takeBack
set_option maxRecDepth 20000 in
theorem ggL_law_X9_sing : GoodIn wsL_law wsX9_sing := goodIn_r _ [354, 20, 16, 123, 124, 2, 125, 126, 127, 128, 19, 129, 88, 130, 131, 132, 133, 134, 135, 136, 137, 138, 15, 139, 42, 46, 50, 54, 140, 141, 142, 143, 144, 41, 145, 146, 147, 148, 59, 60, 61, 62, 149, 150, 151, 152, 153, 154, 155, 156, 157, 158, 45, 159, 160, 66, 67, 68, 69, 161, 162, 163, 49, 164, 165, 73, 74, 75, 166, 167, 168, 53, 169, 170, 79, 80, 81, 82, 355, 356, 357, 358, 359, 360, 361, 362, 363, 364, 365, 366, 367, 368, 369, 370, 371, 372, 373, 374, 375, 376, 377, 378, 379, 380, 381, 382, 383, 384, 385, 225, 226, 386, 387, 388, 389, 390, 280, 281, 391, 392, 393, 394, 395, 396, 397, 398, 399, 400, 401, 402, 403, 404, 405, 406, 407, 408, 409, 410, 411, 412, 413, 414, 336, 337, 338, 767, 768, 769, 770, 771, 772, 773, 792, 793, 794, 786, 787, 788, 789, 790, 791, 805, 806, 807, 808, 809, 810, 811, 812, 813, 814, 815, 816, 817, 818, 819, 820, 821, 822, 823, 824, 825] (by decide +kernel) (by decide +kernel)
set_option maxRecDepth 20000 in
theorem gL_law_X9_sing : GoodIn wsL_law (wsV RL 37 RX9 yX9_sing wsX9_sing) := goodIn_app (goodIn_of _ (by decide +kernel)) ggL_law_X9_sing
set_option maxRecDepth 20000 in
theorem ggL_law_X10_sing : GoodIn wsL_law wsX10_sing := goodIn_r _ [418, 183, 184, 5, 185, 186, 187, 188, 189, 190, 110, 108, 191, 192, 193, 419, 420, 421, 422, 423, 424, 425, 426, 427, 428, 429, 430, 431, 432, 433, 434, 435, 436, 437, 438, 247, 248, 249, 250, 243, 244, 245, 246, 439, 440, 441, 442, 443, 444, 445, 446, 447, 448, 449, 450, 319, 320, 321, 322, 451, 452, 453, 454, 194, 195, 196, 197, 347, 348, 349, 350, 774, 775, 776, 777, 778, 779, 780, 781, 782, 783, 784, 785] (by decide +kernel) (by decide +kernel)
set_option maxRecDepth 20000 in
theorem gL_law_X10_sing : GoodIn wsL_law (wsV RL 40 RX10 yX10_sing wsX10_sing) := goodIn_app (goodIn_of _ (by decide +kernel)) ggL_law_X10_sing
set_option maxRecDepth 20000 in
theorem ggL_law_X9_read : GoodIn wsL_law wsX9_read := goodIn_r _ [458, 31, 27, 20, 16, 459, 258, 460, 461, 462, 463, 259, 464, 465, 466, 30, 467, 468, 469, 470, 471, 472, 473, 474, 97, 98, 99, 475, 476, 477, 478, 479, 480, 481, 482, 483, 124, 2, 125, 484, 485, 486, 487, 488, 489, 490, 491, 260, 261, 262, 15, 263, 264, 265, 266, 267, 42, 46, 268, 218, 219, 41, 220, 146, 269, 270, 271, 45, 272, 160, 273, 274, 275, 276, 277, 278, 279, 280, 134, 281, 282, 133, 135, 283, 284, 285, 286, 287, 288, 289, 290, 66, 67, 126, 127, 128, 19, 129, 88, 130, 131, 132, 136, 137, 138, 139, 50, 54, 140, 141, 142, 143, 144, 145, 147, 148, 59, 60, 61, 62, 149, 150, 151, 152, 153, 154, 155, 156, 157, 158, 159, 68, 69, 161, 162, 163, 49, 164, 165, 73, 74, 75, 166, 167, 168, 53, 169, 170, 79, 80, 81, 82, 291, 292, 293, 294, 767, 768, 769, 770, 771, 772, 773, 797, 798, 799, 800, 801, 786, 787, 788, 789, 790, 791, 795, 796, 817, 818, 819, 820, 805, 806, 807, 808, 809, 810, 811, 812, 813, 814, 815, 816, 792, 793, 794, 821, 822, 823, 824, 825] (by decide +kernel) (by decide +kernel)
set_option maxRecDepth 20000 in
theorem gL_law_X9_read : GoodIn wsL_law (wsV RL 41 RX9 yX9_read wsX9_read) := goodIn_app (goodIn_of _ (by decide +kernel)) ggL_law_X9_read
set_option maxRecDepth 20000 in
theorem ggL_law_X10_read : GoodIn wsL_law wsX10_read := goodIn_r _ [495, 108, 496, 497, 498, 499, 5, 500, 501, 502, 503, 504, 505, 506, 507, 508, 509, 510, 511, 512, 513, 514, 515, 516, 113, 183, 184, 185, 517, 518, 519, 520, 521, 522, 523, 524, 299, 300, 301, 302, 303, 304, 305, 306, 239, 240, 241, 242, 307, 308, 309, 310, 311, 312, 313, 314, 315, 316, 317, 318, 319, 320, 321, 322, 243, 244, 245, 246, 323, 324, 325, 326, 186, 187, 188, 189, 190, 110, 191, 192, 193, 774, 775, 776, 777, 778, 779, 780, 781, 782, 783, 784, 785] (by decide +kernel) (by decide +kernel)
set_option maxRecDepth 20000 in
theorem gL_law_X10_read : GoodIn wsL_law (wsV RL 45 RX10 yX10_read wsX10_read) := goodIn_app (goodIn_of _ (by decide +kernel)) ggL_law_X10_read
set_option maxRecDepth 20000 in
theorem ggL_law_X9_of : GoodIn wsL_law wsX9_of := goodIn_r _ [528, 16, 118, 529, 530, 531, 532, 258, 533, 217, 218, 219, 41, 220, 146, 124, 2, 125, 221, 222, 223, 224, 147, 225, 226, 534, 535, 536, 537, 538, 539, 540, 49, 541, 165, 370, 371, 372, 373, 73, 74, 767, 768, 769, 770, 771, 772, 773, 786, 787, 788, 789, 790, 791, 805, 806, 807, 808, 809, 810, 811, 817, 818, 819, 820] (by decide +kernel) (by decide +kernel)
set_option maxRecDepth 20000 in
theorem gL_law_X9_of : GoodIn wsL_law (wsV RL 46 RX9 yX9_of wsX9_of) := goodIn_app (goodIn_of _ (by decide +kernel)) ggL_law_X9_of
set_option maxRecDepth 20000 in
theorem ggL_law_X10_of : GoodIn wsL_law wsX10_of := goodIn_r _ [545, 108, 239, 240, 241, 5, 242, 183, 184, 185, 243, 244, 245, 246, 546, 547, 548, 549, 431, 432, 433, 434, 435, 436, 437, 438, 774, 775, 776, 777, 778, 779, 780, 781, 782, 783, 784, 785] (by decide +kernel) (by decide +kernel)
set_option maxRecDepth 20000 in
theorem gL_law_X10_of : GoodIn wsL_law (wsV RL 49 RX10 yX10_of wsX10_of) := goodIn_app (goodIn_of _ (by decide +kernel)) ggL_law_X10_of
set_option maxRecDepth 20000 in
theorem ggL_law_X9_inQueue : GoodIn wsL_law wsX9_inQueue := goodIn_r _ [553, 16, 258, 554, 555, 556, 118, 216, 532, 531, 331, 332, 333, 49, 334, 165, 124, 2, 125, 557, 274, 275, 15, 276, 42, 277, 278, 279, 280, 134, 281, 282, 133, 135, 46, 283, 284, 285, 45, 286, 287, 288, 289, 290, 66, 67, 558, 363, 364, 365, 366, 367, 368, 369, 370, 371, 372, 373, 73, 74, 537, 225, 226, 534, 535, 536, 559, 379, 380, 381, 560, 387, 388, 389, 390, 767, 768, 769, 770, 771, 772, 773, 786, 787, 788, 789, 790, 791, 817, 818, 819, 820, 805, 806, 807, 808, 809, 810, 811, 812, 813, 814, 815, 816] (by decide +kernel) (by decide +kernel)
set_option maxRecDepth 20000 in
theorem gL_law_X9_inQueue : GoodIn wsL_law (wsV RL 50 RX9 yX9_inQueue wsX9_inQueue) := goodIn_app (goodIn_of _ (by decide +kernel)) ggL_law_X9_inQueue
set_option maxRecDepth 20000 in
theorem ggL_law_X10_inQueue : GoodIn wsL_law wsX10_inQueue := goodIn_r _ [564, 343, 344, 345, 5, 346, 108, 183, 184, 185, 435, 436, 437, 438, 311, 312, 313, 314, 315, 316, 317, 318, 319, 320, 321, 322, 243, 244, 245, 246, 427, 428, 429, 430, 431, 432, 433, 434, 247, 248, 249, 250, 439, 440, 441, 442, 443, 444, 445, 446, 774, 775, 776, 777, 778, 779, 780, 781, 782, 783, 784, 785] (by decide +kernel) (by decide +kernel)
set_option maxRecDepth 20000 in
theorem gL_law_X10_inQueue : GoodIn wsL_law (wsV RL 53 RX10 yX10_inQueue wsX10_inQueue) := goodIn_app (goodIn_of _ (by decide +kernel)) ggL_law_X10_inQueue
set_option maxRecDepth 20000 in
theorem ggL_law_X9_key : GoodIn wsL_law wsX9_key := goodIn_r _ [568, 16, 569, 265, 266, 15, 267, 42, 46, 268, 218, 219, 41, 220, 146, 124, 2, 125, 269, 270, 271, 45, 272, 160, 557, 274, 275, 276, 277, 278, 279, 280, 134, 281, 282, 133, 135, 283, 284, 285, 286, 287, 288, 289, 290, 66, 67, 767, 768, 769, 770, 771, 772, 773, 786, 787, 788, 789, 790, 791, 805, 806, 807, 808, 809, 810, 811, 812, 813, 814, 815, 816] (by decide +kernel) (by decide +kernel)
set_option maxRecDepth 20000 in
theorem gL_law_X9_key : GoodIn wsL_law (wsV RL 54 RX9 yX9_key wsX9_key) := goodIn_app (goodIn_of _ (by decide +kernel)) ggL_law_X9_key
set_option maxRecDepth 20000 in
theorem ggL_law_X10_key : GoodIn wsL_law wsX10_key := goodIn_r _ [573, 303, 304, 305, 5, 306, 239, 240, 241, 242, 108, 183, 184, 185, 307, 308, 309, 310, 311, 312, 313, 314, 315, 316, 317, 318, 319, 320, 321, 322, 243, 244, 245, 246, 774, 775, 776, 777, 778, 779, 780, 781, 782, 783, 784, 785] (by decide +kernel) (by decide +kernel)
set_option maxRecDepth 20000 in
theorem gL_law_X10_key : GoodIn wsL_law (wsV RL 57 RX10 yX10_key wsX10_key) := goodIn_app (goodIn_of _ (by decide +kernel)) ggL_law_X10_key
set_option maxRecDepth 20000 in
theorem ggL_law_X9_ofSong : GoodIn wsL_law wsX9_ofSong := goodIn_r _ [577, 16, 202, 578, 579, 580, 581, 582, 270, 271, 45, 272, 160, 124, 2, 125, 583, 584, 585, 15, 586, 42, 587, 273, 274, 275, 276, 277, 278, 279, 280, 134, 281, 282, 133, 135, 46, 283, 284, 285, 286, 287, 288, 289, 290, 66, 67, 767, 768, 769, 770, 771, 772, 773, 786, 787, 788, 789, 790, 791, 812, 813, 814, 815, 816, 805, 806, 807, 808, 809, 810, 811] (by decide +kernel) (by decide +kernel)
set_option maxRecDepth 20000 in
theorem gL_law_X9_ofSong : GoodIn wsL_law (wsV RL 58 RX9 yX9_ofSong wsX9_ofSong) := goodIn_app (goodIn_of _ (by decide +kernel)) ggL_law_X9_ofSong
set_option maxRecDepth 20000 in
theorem ggL_law_X10_ofSong : GoodIn wsL_law wsX10_ofSong := goodIn_r _ [591, 307, 308, 309, 5, 310, 108, 183, 184, 185, 319, 320, 321, 322, 592, 593, 594, 595, 311, 312, 313, 314, 315, 316, 317, 318, 243, 244, 245, 246, 774, 775, 776, 777, 778, 779, 780, 781, 782, 783, 784, 785] (by decide +kernel) (by decide +kernel)
set_option maxRecDepth 20000 in
theorem gL_law_X10_ofSong : GoodIn wsL_law (wsV RL 61 RX10 yX10_ofSong wsX10_ofSong) := goodIn_app (goodIn_of _ (by decide +kernel)) ggL_law_X10_ofSong
set_option maxRecDepth 20000 in
theorem ggL_law_X9_past : GoodIn wsL_law wsX9_past := goodIn_r _ [599, 16, 600, 601, 602, 603, 604, 605, 123, 124, 2, 125, 767, 768, 769, 770, 771, 772, 773, 786, 787, 788, 789, 790, 791, 821, 822, 823, 824, 825] (by decide +kernel) (by decide +kernel)
set_option maxRecDepth 20000 in
theorem gL_law_X9_past : GoodIn wsL_law (wsV RL 62 RX9 yX9_past wsX9_past) := goodIn_app (goodIn_of _ (by decide +kernel)) ggL_law_X9_past
set_option maxRecDepth 20000 in
theorem ggL_law_X10_past : GoodIn wsL_law wsX10_past := goodIn_r _ [609, 108, 183, 184, 5, 185, 774, 775, 776, 777, 778, 779, 780, 781, 782, 783, 784, 785] (by decide +kernel) (by decide +kernel)
set_option maxRecDepth 20000 in
theorem gL_law_X10_past : GoodIn wsL_law (wsV RL 65 RX10 yX10_past wsX10_past) := goodIn_app (goodIn_of _ (by decide +kernel)) ggL_law_X10_past
set_option maxRecDepth 20000 in
theorem ggL_law_X9_count : GoodIn wsL_law wsX9_count := goodIn_r _ [613, 16, 118, 119, 216, 202, 203, 258, 259, 614, 615, 532, 27, 463, 20, 616, 558, 363, 364, 49, 365, 366, 367, 368, 369, 165, 370, 371, 372, 373, 73, 74, 228, 229, 230, 231, 232, 233, 234, 355, 356, 357, 15, 358, 50, 42, 359, 360, 361, 362, 374, 375, 376, 377, 378, 379, 380, 381, 382, 383, 384, 385, 225, 2, 226, 386, 387, 388, 389, 390, 280, 134, 281, 767, 768, 769, 770, 771, 772, 773, 786, 787, 788, 789, 790, 791, 805, 806, 807, 808, 809, 810, 811, 812, 813, 814, 815, 816, 817, 818, 819, 820, 795, 796, 792, 793, 794] (by decide +kernel) (by decide +kernel)
set_option maxRecDepth 20000 in
theorem gL_law_X9_count : GoodIn wsL_law (wsV RL 66 RX9 yX9_count wsX9_count) := goodIn_app (goodIn_of _ (by decide +kernel)) ggL_law_X9_count
set_option maxRecDepth 20000 in
theorem ggL_law_X10_count : GoodIn wsL_law wsX10_count := goodIn_r _ [620, 108, 496, 190, 247, 248, 249, 5, 250, 243, 244, 245, 246, 621, 622, 623, 624, 427, 428, 429, 430, 431, 432, 433, 434, 435, 436, 437, 438, 419, 420, 421, 422, 423, 424, 425, 426, 439, 440, 441, 442, 443, 444, 445, 446, 774, 775, 776, 777, 778, 779, 780, 781, 782, 783, 784, 785] (by decide +kernel) (by decide +kernel)
set_option maxRecDepth 20000 in
theorem gL_law_X10_count : GoodIn wsL_law (wsV RL 69 RX10 yX10_count wsX10_count) := goodIn_app (goodIn_of _ (by decide +kernel)) ggL_law_X10_count
set_option maxRecDepth 20000 in
theorem ggL_law_X9_turnOf : GoodIn wsL_law wsX9_turnOf := goodIn_r _ [628, 16, 258, 35, 629, 630, 331, 332, 333, 49, 334, 165, 124, 2, 125, 123, 631, 632, 633, 15, 634, 50, 42, 359, 362, 363, 364, 365, 366, 367, 368, 369, 370, 371, 372, 373, 73, 74, 225, 226, 635, 636, 637, 34, 638, 639, 640, 641, 103, 642, 643, 644, 645, 646, 149, 150, 151, 133, 134, 135, 152, 153, 154, 155, 647, 648, 375, 376, 377, 378, 379, 380, 381, 382, 383, 384, 385, 386, 387, 388, 389, 390, 280, 281, 649, 400, 401, 402, 46, 403, 395, 650, 651, 652, 653, 654, 767, 768, 769, 770, 771, 772, 773, 786, 787, 788, 789, 790, 791, 802, 803, 804, 817, 818, 819, 820, 805, 806, 807, 808, 809, 810, 811, 812, 813, 814, 815, 816] (by decide +kernel) (by decide +kernel)
set_option maxRecDepth 20000 in
theorem gL_law_X9_turnOf : GoodIn wsL_law (wsV RL 70 RX9 yX9_turnOf wsX9_turnOf) := goodIn_app (goodIn_of _ (by decide +kernel)) ggL_law_X9_turnOf
set_option maxRecDepth 20000 in
theorem ggL_law_X10_turnOf : GoodIn wsL_law wsX10_turnOf := goodIn_r _ [658, 108, 109, 343, 344, 345, 5, 346, 183, 184, 185, 427, 428, 429, 430, 431, 432, 433, 434, 435, 436, 437, 438, 247, 248, 249, 250, 243, 244, 245, 246, 191, 192, 193, 659, 660, 661, 662, 419, 420, 421, 422, 423, 424, 425, 426, 439, 440, 441, 442, 443, 444, 445, 446, 447, 448, 449, 450, 319, 320, 321, 322, 451, 452, 453, 454, 194, 195, 196, 197, 347, 348, 349, 350, 774, 775, 776, 777, 778, 779, 780, 781, 782, 783, 784, 785] (by decide +kernel) (by decide +kernel)
set_option maxRecDepth 20000 in
theorem gL_law_X10_turnOf : GoodIn wsL_law (wsV RL 73 RX10 yX10_turnOf wsX10_turnOf) := goodIn_app (goodIn_of _ (by decide +kernel)) ggL_law_X10_turnOf
set_option maxRecDepth 20000 in
theorem ggL_law_X9_endOfAll : GoodIn wsL_law wsX9_endOfAll := goodIn_r _ [666, 16, 258, 118, 216, 614, 259, 558, 363, 364, 49, 365, 366, 367, 368, 369, 165, 370, 371, 372, 373, 73, 74, 537, 225, 2, 226, 667, 400, 401, 15, 402, 46, 403, 50, 395, 767, 768, 769, 770, 771, 772, 773, 786, 787, 788, 789, 790, 791, 805, 806, 807, 808, 809, 810, 811, 817, 818, 819, 820, 812, 813, 814, 815, 816] (by decide +kernel) (by decide +kernel)
set_option maxRecDepth 20000 in
theorem gL_law_X9_endOfAll : GoodIn wsL_law (wsV RL 74 RX9 yX9_endOfAll wsX9_endOfAll) := goodIn_app (goodIn_of _ (by decide +kernel)) ggL_law_X9_endOfAll
set_option maxRecDepth 20000 in
theorem ggL_law_X10_endOfAll : GoodIn wsL_law wsX10_endOfAll := goodIn_r _ [671, 108, 427, 428, 429, 5, 430, 431, 432, 433, 434, 435, 436, 437, 438, 247, 248, 249, 250, 243, 244, 245, 246, 319, 320, 321, 322, 774, 775, 776, 777, 778, 779, 780, 781, 782, 783, 784, 785] (by decide +kernel) (by decide +kernel)
set_option maxRecDepth 20000 in
theorem gL_law_X10_endOfAll : GoodIn wsL_law (wsV RL 77 RX10 yX10_endOfAll wsX10_endOfAll) := goodIn_app (goodIn_of _ (by decide +kernel)) ggL_law_X10_endOfAll
set_option maxRecDepth 20000 in
theorem ggL_law_X9_ifLeft : GoodIn wsL_law wsX9_ifLeft := goodIn_r _ [675, 16, 118, 216, 258, 259, 217, 218, 219, 41, 220, 146, 124, 2, 125, 558, 363, 364, 49, 365, 366, 367, 368, 369, 165, 370, 371, 372, 373, 73, 74, 228, 229, 230, 231, 232, 233, 234, 767, 768, 769, 770, 771, 772, 773, 786, 787, 788, 789, 790, 791, 805, 806, 807, 808, 809, 810, 811, 817, 818, 819, 820] (by decide +kernel) (by decide +kernel)
set_option maxRecDepth 20000 in
theorem gL_law_X9_ifLeft : GoodIn wsL_law (wsV RL 78 RX9 yX9_ifLeft wsX9_ifLeft) := goodIn_app (goodIn_of _ (by decide +kernel)) ggL_law_X9_ifLeft
set_option maxRecDepth 20000 in
theorem ggL_law_X10_ifLeft : GoodIn wsL_law wsX10_ifLeft := goodIn_r _ [679, 108, 239, 240, 241, 5, 242, 183, 184, 185, 243, 244, 245, 246, 194, 195, 196, 197, 621, 622, 623, 624, 427, 428, 429, 430, 431, 432, 433, 434, 435, 436, 437, 438, 247, 248, 249, 250, 774, 775, 776, 777, 778, 779, 780, 781, 782, 783, 784, 785] (by decide +kernel) (by decide +kernel)
set_option maxRecDepth 20000 in
theorem gL_law_X10_ifLeft : GoodIn wsL_law (wsV RL 81 RX10 yX10_ifLeft wsX10_ifLeft) := goodIn_app (goodIn_of _ (by decide +kernel)) ggL_law_X10_ifLeft
set_option maxRecDepth 20000 in
theorem ggL_law_X9_heldUpBy : GoodIn wsL_law wsX9_heldUpBy := goodIn_r _ [683, 16, 258, 259, 331, 332, 333, 49, 334, 165, 124, 2, 125, 123, 631, 632, 633, 15, 634, 50, 42, 359, 362, 363, 364, 365, 366, 367, 368, 369, 370, 371, 372, 373, 73, 74, 225, 226, 684, 685, 686, 687, 35, 630, 635, 636, 637, 34, 638, 639, 640, 641, 103, 642, 643, 644, 645, 646, 149, 150, 151, 133, 134, 135, 152, 153, 154, 155, 647, 648, 375, 376, 377, 378, 379, 380, 381, 382, 383, 384, 385, 386, 387, 388, 389, 390, 280, 281, 649, 400, 401, 402, 46, 403, 395, 650, 651, 652, 653, 654, 767, 768, 769, 770, 771, 772, 773, 786, 787, 788, 789, 790, 791, 817, 818, 819, 820, 805, 806, 807, 808, 809, 810, 811, 802, 803, 804, 812, 813, 814, 815, 816] (by decide +kernel) (by decide +kernel)
set_option maxRecDepth 20000 in
theorem gL_law_X9_heldUpBy : GoodIn wsL_law (wsV RL 82 RX9 yX9_heldUpBy wsX9_heldUpBy) := goodIn_app (goodIn_of _ (by decide +kernel)) ggL_law_X9_heldUpBy
set_option maxRecDepth 20000 in
theorem ggL_law_X10_heldUpBy : GoodIn wsL_law wsX10_heldUpBy := goodIn_r _ [691, 108, 343, 344, 345, 5, 346, 183, 184, 185, 427, 428, 429, 430, 431, 432, 433, 434, 435, 436, 437, 438, 247, 248, 249, 250, 243, 244, 245, 246, 692, 693, 694, 695, 109, 191, 192, 193, 347, 348, 349, 350, 659, 660, 661, 662, 419, 420, 421, 422, 423, 424, 425, 426, 439, 440, 441, 442, 443, 444, 445, 446, 447, 448, 449, 450, 319, 320, 321, 322, 451, 452, 453, 454, 194, 195, 196, 197, 774, 775, 776, 777, 778, 779, 780, 781, 782, 783, 784, 785] (by decide +kernel) (by decide +kernel)
set_option maxRecDepth 20000 in
theorem gL_law_X10_heldUpBy : GoodIn wsL_law (wsV RL 85 RX10 yX10_heldUpBy wsX10_heldUpBy) := goodIn_app (goodIn_of _ (by decide +kernel)) ggL_law_X10_heldUpBy
set_option maxRecDepth 20000 in
theorem ggL_law_X9_together : GoodIn wsL_law wsX9_together := goodIn_r _ [699, 16, 118, 202, 203, 217, 218, 219, 41, 220, 146, 124, 2, 125, 557, 274, 275, 15, 276, 42, 277, 278, 279, 280, 134, 281, 282, 133, 135, 46, 283, 284, 285, 45, 286, 287, 288, 289, 290, 66, 67, 767, 768, 769, 770, 771, 772, 773, 786, 787, 788, 789, 790, 791, 812, 813, 814, 815, 816, 805, 806, 807, 808, 809, 810, 811] (by decide +kernel) (by decide +kernel)
set_option maxRecDepth 20000 in
theorem gL_law_X9_together : GoodIn wsL_law (wsV RL 86 RX9 yX9_together wsX9_together) := goodIn_app (goodIn_of _ (by decide +kernel)) ggL_law_X9_together
set_option maxRecDepth 20000 in
theorem ggL_law_X10_together : GoodIn wsL_law wsX10_together := goodIn_r _ [703, 108, 239, 240, 241, 5, 242, 183, 184, 185, 311, 312, 313, 314, 315, 316, 317, 318, 319, 320, 321, 322, 243, 244, 245, 246, 774, 775, 776, 777, 778, 779, 780, 781, 782, 783, 784, 785] (by decide +kernel) (by decide +kernel)
set_option maxRecDepth 20000 in
theorem gL_law_X10_together : GoodIn wsL_law (wsV RL 89 RX10 yX10_together wsX10_together) := goodIn_app (goodIn_of _ (by decide +kernel)) ggL_law_X10_together
set_option maxRecDepth 20000 in
theorem ggL_law_X9_put : GoodIn wsL_law wsX9_put := goodIn_r _ [707, 27, 463, 708, 709, 26, 710, 711, 124, 2, 125, 712, 713, 714, 715, 93, 716, 767, 768, 769, 770, 771, 772, 773, 795, 796] (by decide +kernel) (by decide +kernel)
set_option maxRecDepth 20000 in
theorem gL_law_X9_put : GoodIn wsL_law (wsV RL 92 RX9 yX9_put wsX9_put) := goodIn_app (goodIn_of _ (by decide +kernel)) ggL_law_X9_put
set_option maxRecDepth 20000 in
theorem ggL_law_X10_put : GoodIn wsL_law wsX10_put := goodIn_r _ [720, 721, 496, 113, 183, 184, 5, 185, 774, 775, 776, 777, 778, 779, 780, 781, 782, 783, 784, 785] (by decide +kernel) (by decide +kernel)
set_option maxRecDepth 20000 in
theorem gL_law_X10_put : GoodIn wsL_law (wsV RL 96 RX10 yX10_put wsX10_put) := goodIn_app (goodIn_of _ (by decide +kernel)) ggL_law_X10_put
set_option maxRecDepth 20000 in
theorem ggL_law_X9_wipe : GoodIn wsL_law wsX9_wipe := goodIn_r _ [725, 27, 463, 767, 768, 769, 770, 771, 772, 773, 795, 796] (by decide +kernel) (by decide +kernel)
set_option maxRecDepth 20000 in
theorem gL_law_X9_wipe : GoodIn wsL_law (wsV RL 97 RX9 yX9_wipe wsX9_wipe) := goodIn_app (goodIn_of _ (by decide +kernel)) ggL_law_X9_wipe
set_option maxRecDepth 20000 in
theorem ggL_law_X10_wipe : GoodIn wsL_law wsX10_wipe := goodIn_r _ [729, 496, 774, 775, 776, 777, 778, 779, 780, 781, 782, 783, 784, 785] (by decide +kernel) (by decide +kernel)
set_option maxRecDepth 20000 in
theorem gL_law_X10_wipe : GoodIn wsL_law (wsV RL 100 RX10 yX10_wipe wsX10_wipe) := goodIn_app (goodIn_of _ (by decide +kernel)) ggL_law_X10_wipe
set_option maxRecDepth 20000 in
theorem ggL_law_X9_fault : GoodIn wsL_law wsX9_fault := goodIn_r _ [733, 31, 27, 464, 465, 466, 30, 467, 468, 469, 470, 471, 472, 473, 474, 97, 98, 99, 475, 476, 477, 478, 479, 480, 481, 482, 483, 124, 2, 125, 484, 485, 486, 487, 767, 768, 769, 770, 771, 772, 773, 797, 798, 799, 800, 801, 795, 796] (by decide +kernel) (by decide +kernel)
set_option maxRecDepth 20000 in
theorem gL_law_X9_fault : GoodIn wsL_law (wsV RL 101 RX9 yX9_fault wsX9_fault) := goodIn_app (goodIn_of _ (by decide +kernel)) ggL_law_X9_fault
set_option maxRecDepth 20000 in
theorem ggL_law_X10_fault : GoodIn wsL_law wsX10_fault := goodIn_r _ [737, 497, 498, 499, 5, 500, 501, 496, 502, 503, 504, 505, 506, 507, 508, 509, 510, 511, 512, 513, 514, 515, 516, 113, 183, 184, 185, 517, 518, 519, 520, 774, 775, 776, 777, 778, 779, 780, 781, 782, 783, 784, 785] (by decide +kernel) (by decide +kernel)
set_option maxRecDepth 20000 in
theorem gL_law_X10_fault : GoodIn wsL_law (wsV RL 104 RX10 yX10_fault wsX10_fault) := goodIn_app (goodIn_of _ (by decide +kernel)) ggL_law_X10_fault
set_option maxRecDepth 20000 in
theorem ggL_law_X9_undo : GoodIn wsL_law wsX9_undo := goodIn_r _ [741, 20, 616, 16, 742, 743, 744, 19, 745, 130, 131, 88, 136, 137, 138, 15, 139, 42, 46, 50, 54, 140, 141, 142, 143, 144, 41, 145, 146, 147, 148, 59, 60, 61, 62, 149, 2, 150, 151, 133, 134, 135, 152, 153, 154, 155, 156, 157, 158, 45, 159, 160, 66, 67, 68, 69, 161, 162, 163, 49, 164, 165, 73, 74, 75, 166, 167, 168, 53, 169, 170, 79, 80, 81, 82, 767, 768, 769, 770, 771, 772, 773, 792, 793, 794, 786, 787, 788, 789, 790, 791, 805, 806, 807, 808, 809, 810, 811, 812, 813, 814, 815, 816, 817, 818, 819, 820, 821, 822, 823, 824, 825] (by decide +kernel) (by decide +kernel)
set_option maxRecDepth 20000 in
theorem gL_law_X9_undo : GoodIn wsL_law (wsV RL 105 RX9 yX9_undo wsX9_undo) := goodIn_app (goodIn_of _ (by decide +kernel)) ggL_law_X9_undo
set_option maxRecDepth 20000 in
theorem ggL_law_X10_undo : GoodIn wsL_law wsX10_undo := goodIn_r _ [749, 190, 110, 108, 191, 192, 5, 193, 774, 775, 776, 777, 778, 779, 780, 781, 782, 783, 784, 785] (by decide +kernel) (by decide +kernel)
set_option maxRecDepth 20000 in
theorem gL_law_X10_undo : GoodIn wsL_law (wsV RL 108 RX10 yX10_undo wsX10_undo) := goodIn_app (goodIn_of _ (by decide +kernel)) ggL_law_X10_undo
set_option maxRecDepth 20000 in
theorem ggL_law_X9_save : GoodIn wsL_law wsX9_save := goodIn_r _ [753, 21, 16, 23, 258, 259, 123, 124, 2, 125, 754, 137, 138, 15, 139, 42, 46, 50, 54, 140, 141, 142, 143, 144, 41, 145, 146, 147, 148, 59, 60, 61, 62, 149, 150, 151, 133, 134, 135, 152, 153, 154, 155, 156, 157, 158, 45, 159, 160, 66, 67, 68, 69, 161, 162, 163, 49, 164, 165, 73, 74, 75, 166, 167, 168, 53, 169, 170, 79, 80, 81, 82, 767, 768, 769, 770, 771, 772, 773, 786, 787, 788, 789, 790, 791, 817, 818, 819, 820, 805, 806, 807, 808, 809, 810, 811, 812, 813, 814, 815, 816, 821, 822, 823, 824, 825] (by decide +kernel) (by decide +kernel)
set_option maxRecDepth 20000 in
theorem gL_law_X9_save : GoodIn wsL_law (wsV RL 109 RX9 yX9_save wsX9_save) := goodIn_app (goodIn_of _ (by decide +kernel)) ggL_law_X9_save
set_option maxRecDepth 20000 in
theorem ggL_law_X10_save : GoodIn wsL_law wsX10_save := goodIn_r _ [758, 108, 111, 112, 183, 184, 5, 185, 191, 192, 193, 774, 775, 776, 777, 778, 779, 780, 781, 782, 783, 784, 785] (by decide +kernel) (by decide +kernel)
set_option maxRecDepth 20000 in
theorem gL_law_X10_save : GoodIn wsL_law (wsV RL 112 RX10 yX10_save wsX10_save) := goodIn_app (goodIn_of _ (by decide +kernel)) ggL_law_X10_save
set_option maxRecDepth 20000 in
theorem ggL_law_X9_restore : GoodIn wsL_law wsX9_restore := goodIn_r _ [762, 23, 20, 16, 21, 258, 259, 123, 124, 2, 125, 126, 127, 128, 19, 129, 88, 130, 131, 132, 133, 134, 135, 136, 137, 138, 15, 139, 42, 46, 50, 54, 140, 141, 142, 143, 144, 41, 145, 146, 147, 148, 59, 60, 61, 62, 149, 150, 151, 152, 153, 154, 155, 156, 157, 158, 45, 159, 160, 66, 67, 68, 69, 161, 162, 163, 49, 164, 165, 73, 74, 75, 166, 167, 168, 53, 169, 170, 79, 80, 81, 82, 754, 767, 768, 769, 770, 771, 772, 773, 786, 787, 788, 789, 790, 791, 817, 818, 819, 820, 792, 793, 794, 805, 806, 807, 808, 809, 810, 811, 812, 813, 814, 815, 816, 821, 822, 823, 824, 825] (by decide +kernel) (by decide +kernel)
set_option maxRecDepth 20000 in
theorem gL_law_X9_restore : GoodIn wsL_law (wsV RL 113 RX9 yX9_restore wsX9_restore) := goodIn_app (goodIn_of _ (by decide +kernel)) ggL_law_X9_restore
set_option maxRecDepth 20000 in
theorem ggL_law_X10_restore : GoodIn wsL_law wsX10_restore := goodIn_r _ [766, 112, 111, 108, 183, 184, 5, 185, 186, 187, 188, 189, 190, 110, 191, 192, 193, 774, 775, 776, 777, 778, 779, 780, 781, 782, 783, 784, 785] (by decide +kernel) (by decide +kernel)
set_option maxRecDepth 20000 in
theorem gL_law_X10_restore : GoodIn wsL_law (wsV RL 116 RX10 yX10_restore wsX10_restore) := goodIn_app (goodIn_of _ (by decide +kernel)) ggL_law_X10_restore
