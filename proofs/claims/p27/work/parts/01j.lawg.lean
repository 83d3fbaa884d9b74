/-! the law's calls: their words -/
set_option maxRecDepth 20000 in
theorem ggL_law_X9_init : GoodIn wsL_law wsX9_init := goodIn_r _ [6, 7, 8, 9, 10, 11, 12, 13, 14, 15, 16, 17, 18, 19, 20, 21, 22, 23, 24, 25, 26, 27, 28, 29, 30, 31, 32, 33, 34, 35, 36, 37, 38, 39, 40, 41, 42, 43, 44, 45, 46, 47, 48, 49, 50, 51, 52, 53, 54, 3, 55, 56, 57, 58, 59, 60, 61, 62, 63, 64, 65, 66, 67, 68, 69, 70, 71, 72, 73, 74, 75, 76, 77, 78, 79, 80, 81, 82, 83, 84, 85, 86, 87, 88, 89, 90, 91, 92, 93, 94, 95, 96, 97, 98, 99, 476, 477, 478, 479, 480, 481, 469, 470, 471, 472, 473, 474, 475, 482, 483, 484, 485, 486, 487, 488, 489, 490, 491, 492, 493, 494, 495, 496, 497, 498, 499, 500, 501, 502, 503, 504, 505, 506, 507, 508, 509, 510, 511, 512, 513, 514, 515] (by decide +kernel) (by decide +kernel)
set_option maxRecDepth 20000 in
theorem gL_law_X9_init : GoodIn wsL_law (wsX9_init) := ggL_law_X9_init
set_option maxRecDepth 20000 in
theorem ggL_law_L_cell : GoodIn wsL_law wsL_cell := goodIn_r _ [103, 104, 105] (by decide +kernel) (by decide +kernel)
set_option maxRecDepth 20000 in
theorem gL_law_L_cell : GoodIn wsL_law (va_wsS RL 79 yL_cell wsL_cell) := goodIn_app (goodIn_of _ (by decide +kernel)) ggL_law_L_cell
set_option maxRecDepth 20000 in
theorem ggL_law_L_low : GoodIn wsL_law wsL_low := goodIn_r _ [108, 109] (by decide +kernel) (by decide +kernel)
set_option maxRecDepth 20000 in
theorem gL_law_L_low : GoodIn wsL_law (va_wsS RL 53 yL_low wsL_low) := goodIn_app (goodIn_of _ (by decide +kernel)) ggL_law_L_low
set_option maxRecDepth 20000 in
theorem ggL_law_X9_singer : GoodIn wsL_law wsX9_singer := goodIn_r _ [113, 13, 114, 115, 17, 116, 117, 2, 118, 119, 120, 121, 122, 123, 124, 16, 125, 84, 126, 127, 128, 129, 130, 131, 132, 133, 134, 12, 135, 39, 43, 47, 51, 136, 137, 138, 139, 140, 38, 141, 142, 143, 144, 55, 56, 57, 58, 145, 146, 147, 148, 149, 150, 151, 152, 153, 154, 42, 155, 156, 62, 63, 64, 65, 157, 158, 159, 46, 160, 161, 69, 70, 71, 162, 163, 164, 50, 165, 166, 75, 76, 77, 78, 167, 168, 169, 170, 171, 172, 173, 174, 469, 470, 471, 472, 473, 474, 475, 476, 477, 478, 479, 480, 481, 495, 496, 497, 498, 499, 500, 501, 482, 483, 484, 502, 503, 504, 505, 506, 507, 508, 509, 510, 511, 512, 513, 514, 515] (by decide +kernel) (by decide +kernel)
set_option maxRecDepth 20000 in
theorem gL_law_X9_singer : GoodIn wsL_law (wsV RL 83 RX9 yX9_singer wsX9_singer) := goodIn_app (goodIn_of _ (by decide +kernel)) ggL_law_X9_singer
set_option maxRecDepth 20000 in
theorem ggL_law_X9_song : GoodIn wsL_law wsX9_song := goodIn_r _ [178, 13, 179, 180, 17, 116, 117, 2, 118, 119, 120, 121, 122, 123, 124, 16, 125, 84, 126, 127, 128, 129, 130, 131, 132, 133, 134, 12, 135, 39, 43, 47, 51, 136, 137, 138, 139, 140, 38, 141, 142, 143, 144, 55, 56, 57, 58, 145, 146, 147, 148, 149, 150, 151, 152, 153, 154, 42, 155, 156, 62, 63, 64, 65, 157, 158, 159, 46, 160, 161, 69, 70, 71, 162, 163, 164, 50, 165, 166, 75, 76, 77, 78, 181, 182, 183, 184, 469, 470, 471, 472, 473, 474, 475, 476, 477, 478, 479, 480, 481, 502, 503, 504, 505, 506, 482, 483, 484, 495, 496, 497, 498, 499, 500, 501, 507, 508, 509, 510, 511, 512, 513, 514, 515] (by decide +kernel) (by decide +kernel)
set_option maxRecDepth 20000 in
theorem gL_law_X9_song : GoodIn wsL_law (wsV RL 86 RX9 yX9_song wsX9_song) := goodIn_app (goodIn_of _ (by decide +kernel)) ggL_law_X9_song
set_option maxRecDepth 20000 in
theorem ggL_law_L_key : GoodIn wsL_law wsL_key := goodIn_r _ [187] (by decide +kernel) (by decide +kernel)
set_option maxRecDepth 20000 in
theorem gL_law_L_key : GoodIn wsL_law (va_wsS RL 39 yL_key wsL_key) := goodIn_app (goodIn_of _ (by decide +kernel)) ggL_law_L_key
set_option maxRecDepth 20000 in
theorem ggL_law_X9_key : GoodIn wsL_law wsX9_key := goodIn_r _ [191, 13, 192, 193, 194, 12, 195, 39, 43, 196, 197, 198, 38, 199, 142, 120, 2, 121, 200, 201, 202, 42, 203, 156, 204, 205, 206, 207, 208, 209, 210, 211, 130, 212, 213, 129, 131, 214, 215, 216, 217, 218, 219, 220, 221, 62, 63, 469, 470, 471, 472, 473, 474, 475, 476, 477, 478, 479, 480, 481, 495, 496, 497, 498, 499, 500, 501, 502, 503, 504, 505, 506] (by decide +kernel) (by decide +kernel)
set_option maxRecDepth 20000 in
theorem gL_law_X9_key : GoodIn wsL_law (wsV RL 90 RX9 yX9_key wsX9_key) := goodIn_app (goodIn_of _ (by decide +kernel)) ggL_law_X9_key
set_option maxRecDepth 20000 in
theorem ggL_law_X9_wish : GoodIn wsL_law wsX9_wish := goodIn_r _ [225, 13, 226, 227, 17, 228, 229, 230, 12, 231, 232, 193, 194, 195, 39, 43, 196, 197, 198, 38, 199, 142, 120, 2, 121, 200, 201, 202, 42, 203, 156, 233, 205, 206, 207, 208, 209, 210, 211, 130, 212, 213, 129, 131, 214, 215, 216, 217, 218, 219, 220, 221, 62, 63, 122, 123, 124, 16, 125, 84, 126, 127, 128, 132, 133, 134, 135, 47, 51, 136, 137, 138, 139, 140, 141, 143, 144, 55, 56, 57, 58, 145, 146, 147, 148, 149, 150, 151, 152, 153, 154, 155, 64, 65, 157, 158, 159, 46, 160, 161, 69, 70, 71, 162, 163, 164, 50, 165, 166, 75, 76, 77, 78, 234, 235, 236, 237, 469, 470, 471, 472, 473, 474, 475, 476, 477, 478, 479, 480, 481, 507, 508, 509, 510, 495, 496, 497, 498, 499, 500, 501, 502, 503, 504, 505, 506, 482, 483, 484, 511, 512, 513, 514, 515] (by decide +kernel) (by decide +kernel)
set_option maxRecDepth 20000 in
theorem gL_law_X9_wish : GoodIn wsL_law (wsV RL 92 RX9 yX9_wish wsX9_wish) := goodIn_app (goodIn_of _ (by decide +kernel)) ggL_law_X9_wish
set_option maxRecDepth 20000 in
theorem ggL_law_X9_leave : GoodIn wsL_law wsX9_leave := goodIn_r _ [241, 13, 114, 17, 242, 243, 197, 198, 38, 199, 142, 120, 2, 121, 244, 245, 246, 247, 143, 248, 249, 122, 123, 124, 16, 125, 84, 126, 127, 128, 129, 130, 131, 132, 133, 134, 12, 135, 39, 43, 47, 51, 136, 137, 138, 139, 140, 141, 144, 55, 56, 57, 58, 145, 146, 147, 148, 149, 150, 151, 152, 153, 154, 42, 155, 156, 62, 63, 64, 65, 157, 158, 159, 46, 160, 161, 69, 70, 71, 162, 163, 164, 50, 165, 166, 75, 76, 77, 78, 250, 172, 173, 174, 251, 252, 253, 254, 255, 256, 257, 469, 470, 471, 472, 473, 474, 475, 476, 477, 478, 479, 480, 481, 495, 496, 497, 498, 499, 500, 501, 482, 483, 484, 502, 503, 504, 505, 506, 507, 508, 509, 510, 511, 512, 513, 514, 515] (by decide +kernel) (by decide +kernel)
set_option maxRecDepth 20000 in
theorem gL_law_X9_leave : GoodIn wsL_law (wsV RL 95 RX9 yX9_leave wsX9_leave) := goodIn_app (goodIn_of _ (by decide +kernel)) ggL_law_X9_leave
set_option maxRecDepth 20000 in
theorem ggL_law_L_bits : GoodIn wsL_law wsL_bits := goodIn_r _ [260] (by decide +kernel) (by decide +kernel)
set_option maxRecDepth 20000 in
theorem gL_law_L_bits : GoodIn wsL_law (va_wsS RL 99 yL_bits wsL_bits) := goodIn_app (goodIn_of _ (by decide +kernel)) ggL_law_L_bits
set_option maxRecDepth 20000 in
theorem ggL_law_X9_takeBack : GoodIn wsL_law wsX9_takeBack := goodIn_r _ [264, 13, 226, 17, 227, 265, 266, 267, 46, 268, 161, 120, 2, 121, 122, 123, 124, 16, 125, 84, 126, 127, 128, 129, 130, 131, 132, 133, 134, 12, 135, 39, 43, 47, 51, 136, 137, 138, 139, 140, 38, 141, 142, 143, 144, 55, 56, 57, 58, 145, 146, 147, 148, 149, 150, 151, 152, 153, 154, 42, 155, 156, 62, 63, 64, 65, 157, 158, 159, 160, 69, 70, 71, 162, 163, 164, 50, 165, 166, 75, 76, 77, 78, 269, 270, 271, 272, 469, 470, 471, 472, 473, 474, 475, 476, 477, 478, 479, 480, 481, 507, 508, 509, 510, 482, 483, 484, 495, 496, 497, 498, 499, 500, 501, 502, 503, 504, 505, 506, 511, 512, 513, 514, 515] (by decide +kernel) (by decide +kernel)
set_option maxRecDepth 20000 in
theorem gL_law_X9_takeBack : GoodIn wsL_law (wsV RL 102 RX9 yX9_takeBack wsX9_takeBack) := goodIn_app (goodIn_of _ (by decide +kernel)) ggL_law_X9_takeBack
set_option maxRecDepth 20000 in
theorem ggL_law_L_next : GoodIn wsL_law wsL_next := goodIn_r _ [275, 276, 277, 278, 102, 279, 280, 281, 282] (by decide +kernel) (by decide +kernel)
set_option maxRecDepth 20000 in
theorem gL_law_L_next : GoodIn wsL_law (va_wsS RL 25 yL_next wsL_next) := goodIn_app (goodIn_of _ (by decide +kernel)) ggL_law_L_next
set_option maxRecDepth 20000 in
theorem ggL_law_L_sing : GoodIn wsL_law wsL_sing := goodIn_r _ [285, 277, 278, 102, 279] (by decide +kernel) (by decide +kernel)
set_option maxRecDepth 20000 in
theorem gL_law_L_sing : GoodIn wsL_law (va_wsS RL 29 yL_sing wsL_sing) := goodIn_app (goodIn_of _ (by decide +kernel)) ggL_law_L_sing
set_option maxRecDepth 20000 in
theorem ggL_law_X9_sing : GoodIn wsL_law wsX9_sing := goodIn_r _ [289, 17, 13, 119, 120, 2, 121, 122, 123, 124, 16, 125, 84, 126, 127, 128, 129, 130, 131, 132, 133, 134, 12, 135, 39, 43, 47, 51, 136, 137, 138, 139, 140, 38, 141, 142, 143, 144, 55, 56, 57, 58, 145, 146, 147, 148, 149, 150, 151, 152, 153, 154, 42, 155, 156, 62, 63, 64, 65, 157, 158, 159, 46, 160, 161, 69, 70, 71, 162, 163, 164, 50, 165, 166, 75, 76, 77, 78, 290, 291, 292, 293, 294, 295, 296, 297, 298, 299, 300, 301, 302, 303, 304, 305, 306, 307, 308, 309, 310, 311, 312, 313, 314, 315, 316, 317, 318, 319, 320, 248, 249, 321, 322, 323, 324, 325, 211, 212, 326, 327, 328, 329, 330, 331, 332, 333, 334, 335, 336, 337, 338, 339, 340, 341, 342, 343, 344, 345, 346, 347, 348, 349, 270, 271, 272, 469, 470, 471, 472, 473, 474, 475, 482, 483, 484, 476, 477, 478, 479, 480, 481, 495, 496, 497, 498, 499, 500, 501, 502, 503, 504, 505, 506, 507, 508, 509, 510, 511, 512, 513, 514, 515] (by decide +kernel) (by decide +kernel)
set_option maxRecDepth 20000 in
theorem gL_law_X9_sing : GoodIn wsL_law (wsV RL 105 RX9 yX9_sing wsX9_sing) := goodIn_app (goodIn_of _ (by decide +kernel)) ggL_law_X9_sing
