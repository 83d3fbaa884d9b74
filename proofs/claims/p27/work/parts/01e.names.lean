set_option maxRecDepth 20000 in
theorem ggL_same_L_set : GoodIn wsL_same wsL_set := goodIn_r _ [4] (by decide +kernel) (by decide +kernel)
set_option maxRecDepth 20000 in
theorem gL_same_L_set : GoodIn wsL_same (va_wsS RL 10 yL_set wsL_set) := goodIn_app (goodIn_of _ (by decide +kernel)) ggL_same_L_set
set_option maxRecDepth 20000 in
theorem ggL_same_X9_inQueue : GoodIn wsL_same wsX9_inQueue := goodIn_r _ [9, 10, 11, 12, 13, 14, 15, 16, 17, 18, 19, 20, 21, 22, 23, 24, 25, 8, 26, 27, 28, 29, 30, 31, 32, 33, 34, 35, 36, 37, 38, 39, 40, 41, 42, 43, 44, 45, 46, 47, 48, 49, 50, 51, 52, 53, 54, 55, 56, 57, 58, 59, 60, 61, 62, 63, 64, 65, 66, 67, 68, 69, 70, 71, 72, 73, 74, 75, 76, 77, 78, 79, 80, 81, 82, 264, 265, 266, 267, 268, 269, 270, 271, 272, 273, 274, 275, 276, 277, 278, 279, 280, 281, 282, 283, 284, 285, 286, 287, 288, 289, 290, 291, 292] (by decide +kernel) (by decide +kernel)
set_option maxRecDepth 20000 in
theorem gL_same_X9_inQueue : GoodIn wsL_same (wsV RL 33 RX9 yX9_inQueue wsX9_inQueue) := goodIn_app (goodIn_of _ (by decide +kernel)) ggL_same_X9_inQueue
set_option maxRecDepth 20000 in
theorem ggL_same_L_key : GoodIn wsL_same wsL_key := goodIn_r _ [85] (by decide +kernel) (by decide +kernel)
set_option maxRecDepth 20000 in
theorem gL_same_L_key : GoodIn wsL_same (va_wsS RL 39 yL_key wsL_key) := goodIn_app (goodIn_of _ (by decide +kernel)) ggL_same_L_key
set_option maxRecDepth 20000 in
theorem ggL_same_L_turns : GoodIn wsL_same wsL_turns := goodIn_r _ [88] (by decide +kernel) (by decide +kernel)
set_option maxRecDepth 20000 in
theorem gL_same_L_turns : GoodIn wsL_same (va_wsS RL 16 yL_turns wsL_turns) := goodIn_app (goodIn_of _ (by decide +kernel)) ggL_same_L_turns
set_option maxRecDepth 20000 in
theorem ggL_same_X9_turnOf : GoodIn wsL_same wsX9_turnOf := goodIn_r _ [92, 10, 11, 93, 94, 95, 19, 20, 21, 22, 23, 24, 25, 8, 26, 96, 97, 98, 99, 30, 100, 101, 32, 102, 103, 55, 56, 57, 58, 59, 60, 61, 62, 63, 64, 65, 66, 67, 69, 70, 104, 105, 106, 107, 108, 109, 110, 111, 112, 113, 114, 115, 116, 117, 118, 119, 120, 40, 37, 41, 121, 122, 123, 124, 125, 126, 127, 128, 129, 130, 75, 76, 77, 131, 132, 133, 134, 135, 79, 80, 81, 82, 36, 38, 136, 137, 138, 139, 42, 140, 141, 142, 143, 144, 145, 146, 264, 265, 266, 267, 268, 269, 270, 271, 272, 273, 274, 275, 276, 293, 294, 295, 277, 278, 279, 280, 281, 282, 283, 284, 285, 286, 287, 288, 289, 290, 291, 292] (by decide +kernel) (by decide +kernel)
set_option maxRecDepth 20000 in
theorem gL_same_X9_turnOf : GoodIn wsL_same (wsV RL 43 RX9 yX9_turnOf wsX9_turnOf) := goodIn_app (goodIn_of _ (by decide +kernel)) ggL_same_X9_turnOf
set_option maxRecDepth 20000 in
theorem ggL_same_X9_heldUpBy : GoodIn wsL_same wsX9_heldUpBy := goodIn_r _ [150, 10, 11, 151, 19, 20, 21, 22, 23, 24, 25, 8, 26, 96, 97, 98, 99, 30, 100, 101, 32, 102, 103, 55, 56, 57, 58, 59, 60, 61, 62, 63, 64, 65, 66, 67, 69, 70, 152, 153, 154, 155, 93, 95, 104, 105, 106, 107, 108, 109, 110, 111, 112, 113, 114, 115, 116, 117, 118, 119, 120, 40, 37, 41, 121, 122, 123, 124, 125, 126, 127, 128, 129, 130, 75, 76, 77, 131, 132, 133, 134, 135, 79, 80, 81, 82, 36, 38, 136, 137, 138, 139, 42, 140, 141, 142, 143, 144, 145, 146, 264, 265, 266, 267, 268, 269, 270, 271, 272, 273, 274, 275, 276, 277, 278, 279, 280, 281, 282, 283, 284, 285, 286, 287, 293, 294, 295, 288, 289, 290, 291, 292] (by decide +kernel) (by decide +kernel)
set_option maxRecDepth 20000 in
theorem gL_same_X9_heldUpBy : GoodIn wsL_same (wsV RL 46 RX9 yX9_heldUpBy wsX9_heldUpBy) := goodIn_app (goodIn_of _ (by decide +kernel)) ggL_same_X9_heldUpBy
set_option maxRecDepth 20000 in
theorem ggL_same_L_comes : GoodIn wsL_same wsL_comes := goodIn_r _ [158, 159, 160, 3, 161, 162, 163, 164, 165, 1, 2, 4, 86, 87, 88, 166, 167, 168] (by decide +kernel) (by decide +kernel)
set_option maxRecDepth 20000 in
theorem gL_same_L_comes : GoodIn wsL_same (va_wsS RL 49 yL_comes wsL_comes) := goodIn_app (goodIn_of _ (by decide +kernel)) ggL_same_L_comes
set_option maxRecDepth 20000 in
theorem ggL_same_L_low : GoodIn wsL_same wsL_low := goodIn_r _ [171, 172] (by decide +kernel) (by decide +kernel)
set_option maxRecDepth 20000 in
theorem gL_same_L_low : GoodIn wsL_same (va_wsS RL 53 yL_low wsL_low) := goodIn_app (goodIn_of _ (by decide +kernel)) ggL_same_L_low
set_option maxRecDepth 20000 in
theorem ggL_same_X9_of : GoodIn wsL_same wsX9_of := goodIn_r _ [176, 10, 15, 177, 178, 18, 17, 11, 179, 180, 181, 182, 183, 184, 185, 25, 8, 26, 186, 187, 188, 189, 190, 69, 70, 71, 72, 73, 68, 191, 192, 193, 22, 194, 24, 62, 63, 64, 65, 66, 67, 264, 265, 266, 267, 268, 269, 270, 271, 272, 273, 274, 275, 276, 281, 282, 283, 284, 285, 286, 287, 277, 278, 279, 280] (by decide +kernel) (by decide +kernel)
set_option maxRecDepth 20000 in
theorem gL_same_X9_of : GoodIn wsL_same (wsV RL 56 RX9 yX9_of wsX9_of) := goodIn_app (goodIn_of _ (by decide +kernel)) ggL_same_X9_of
set_option maxRecDepth 20000 in
theorem ggL_same_X9_ifLeft : GoodIn wsL_same wsX9_ifLeft := goodIn_r _ [198, 10, 15, 16, 11, 151, 180, 181, 182, 183, 184, 185, 25, 8, 26, 54, 55, 56, 22, 57, 58, 59, 60, 61, 24, 62, 63, 64, 65, 66, 67, 199, 200, 201, 202, 203, 204, 205, 264, 265, 266, 267, 268, 269, 270, 271, 272, 273, 274, 275, 276, 281, 282, 283, 284, 285, 286, 287, 277, 278, 279, 280] (by decide +kernel) (by decide +kernel)
set_option maxRecDepth 20000 in
theorem gL_same_X9_ifLeft : GoodIn wsL_same (wsV RL 59 RX9 yX9_ifLeft wsX9_ifLeft) := goodIn_app (goodIn_of _ (by decide +kernel)) ggL_same_X9_ifLeft
set_option maxRecDepth 20000 in
theorem ggL_same_X9_together : GoodIn wsL_same wsX9_together := goodIn_r _ [209, 10, 15, 210, 211, 180, 181, 182, 183, 184, 185, 25, 8, 26, 27, 28, 29, 30, 31, 32, 33, 34, 35, 36, 37, 38, 39, 40, 41, 42, 43, 44, 45, 46, 47, 48, 49, 50, 51, 52, 53, 264, 265, 266, 267, 268, 269, 270, 271, 272, 273, 274, 275, 276, 288, 289, 290, 291, 292, 281, 282, 283, 284, 285, 286, 287] (by decide +kernel) (by decide +kernel)
set_option maxRecDepth 20000 in
theorem gL_same_X9_together : GoodIn wsL_same (wsV RL 62 RX9 yX9_together wsX9_together) := goodIn_app (goodIn_of _ (by decide +kernel)) ggL_same_X9_together
set_option maxRecDepth 20000 in
theorem ggL_same_X9_ofSong : GoodIn wsL_same wsX9_ofSong := goodIn_r _ [215, 10, 210, 216, 217, 218, 219, 220, 221, 222, 46, 223, 224, 25, 8, 26, 225, 226, 227, 30, 228, 32, 229, 230, 28, 29, 31, 33, 34, 35, 36, 37, 38, 39, 40, 41, 42, 43, 44, 45, 47, 48, 49, 50, 51, 52, 53, 264, 265, 266, 267, 268, 269, 270, 271, 272, 273, 274, 275, 276, 288, 289, 290, 291, 292, 281, 282, 283, 284, 285, 286, 287] (by decide +kernel) (by decide +kernel)
set_option maxRecDepth 20000 in
theorem gL_same_X9_ofSong : GoodIn wsL_same (wsV RL 65 RX9 yX9_ofSong wsX9_ofSong) := goodIn_app (goodIn_of _ (by decide +kernel)) ggL_same_X9_ofSong
set_option maxRecDepth 20000 in
theorem ggL_same_X9_past : GoodIn wsL_same wsX9_past := goodIn_r _ [234, 10, 235, 236, 237, 238, 239, 240, 96, 25, 8, 26, 264, 265, 266, 267, 268, 269, 270, 271, 272, 273, 274, 275, 276, 296, 297, 298, 299, 300] (by decide +kernel) (by decide +kernel)
set_option maxRecDepth 20000 in
theorem gL_same_X9_past : GoodIn wsL_same (wsV RL 68 RX9 yX9_past wsX9_past) := goodIn_app (goodIn_of _ (by decide +kernel)) ggL_same_X9_past
set_option maxRecDepth 20000 in
theorem ggL_same_X9_count : GoodIn wsL_same wsX9_count := goodIn_r _ [244, 10, 15, 245, 16, 210, 211, 11, 151, 246, 247, 17, 248, 249, 250, 251, 54, 55, 56, 22, 57, 58, 59, 60, 61, 24, 62, 63, 64, 65, 66, 67, 199, 200, 201, 202, 203, 204, 205, 252, 253, 254, 30, 255, 101, 32, 102, 256, 257, 103, 258, 127, 128, 129, 130, 75, 76, 77, 131, 132, 133, 134, 69, 8, 70, 135, 79, 80, 81, 82, 36, 37, 38, 264, 265, 266, 267, 268, 269, 270, 271, 272, 273, 274, 275, 276, 281, 282, 283, 284, 285, 286, 287, 288, 289, 290, 291, 292, 277, 278, 279, 280, 301, 302, 303, 304, 305] (by decide +kernel) (by decide +kernel)
set_option maxRecDepth 20000 in
theorem gL_same_X9_count : GoodIn wsL_same (wsV RL 71 RX9 yX9_count wsX9_count) := goodIn_app (goodIn_of _ (by decide +kernel)) ggL_same_X9_count
set_option maxRecDepth 20000 in
theorem ggL_same_L_next : GoodIn wsL_same wsL_next := goodIn_r _ [164, 165, 1, 2, 3, 4, 86, 87, 88] (by decide +kernel) (by decide +kernel)
set_option maxRecDepth 20000 in
theorem gL_same_L_next : GoodIn wsL_same (va_wsS RL 25 yL_next wsL_next) := goodIn_app (goodIn_of _ (by decide +kernel)) ggL_same_L_next
set_option maxRecDepth 20000 in
theorem ggL_same_X9_endOfAll : GoodIn wsL_same wsX9_endOfAll := goodIn_r _ [262, 10, 11, 15, 16, 246, 151, 54, 55, 56, 22, 57, 58, 59, 60, 61, 24, 62, 63, 64, 65, 66, 67, 68, 69, 8, 70, 263, 137, 138, 30, 139, 42, 140, 101, 141, 264, 265, 266, 267, 268, 269, 270, 271, 272, 273, 274, 275, 276, 281, 282, 283, 284, 285, 286, 287, 277, 278, 279, 280, 288, 289, 290, 291, 292] (by decide +kernel) (by decide +kernel)
set_option maxRecDepth 20000 in
theorem gL_same_X9_endOfAll : GoodIn wsL_same (wsV RL 74 RX9 yX9_endOfAll wsX9_endOfAll) := goodIn_app (goodIn_of _ (by decide +kernel)) ggL_same_X9_endOfAll
theorem dL_same_0 : decode cL_same 0 = .ok (.iconst 0, 1) := by decide +kernel
theorem dL_same_1 : decode cL_same 1 = .ok (.istore 14, 2) := by decide +kernel
theorem dL_same_3 : decode cL_same 3 = .ok (.aload_n 2, 1) := by decide +kernel
theorem dL_same_4 : decode cL_same 4 = .ok (.iconst 5, 1) := by decide +kernel
theorem dL_same_5 : decode cL_same 5 = .ok (.iaload, 1) := by decide +kernel
theorem dL_same_6 : decode cL_same 6 = .ok (.istore 15, 2) := by decide +kernel
theorem dL_same_8 : decode cL_same 8 = .ok (.iconst 0, 1) := by decide +kernel
theorem dL_same_9 : decode cL_same 9 = .ok (.istore 16, 2) := by decide +kernel
theorem dL_same_11 : decode cL_same 11 = .ok (.iload 16, 2) := by decide +kernel
theorem dL_same_13 : decode cL_same 13 = .ok (.aload_n 2, 1) := by decide +kernel
theorem dL_same_14 : decode cL_same 14 = .ok (.iconst 2, 1) := by decide +kernel
theorem dL_same_15 : decode cL_same 15 = .ok (.iaload, 1) := by decide +kernel
theorem dL_same_16 : decode cL_same 16 = .ok (.if_icmp .ge 474, 3) := by decide +kernel
theorem dL_same_19 : decode cL_same 19 = .ok (.aload 5, 2) := by decide +kernel
theorem dL_same_21 : decode cL_same 21 = .ok (.iload 16, 2) := by decide +kernel
theorem dL_same_23 : decode cL_same 23 = .ok (.iaload, 1) := by decide +kernel
theorem dL_same_24 : decode cL_same 24 = .ok (.istore 17, 2) := by decide +kernel
theorem dL_same_26 : decode cL_same 26 = .ok (.iload 17, 2) := by decide +kernel
theorem dL_same_28 : decode cL_same 28 = .ok (.bipush 100, 2) := by decide +kernel
theorem dL_same_30 : decode cL_same 30 = .ok (.irem, 1) := by decide +kernel
theorem dL_same_31 : decode cL_same 31 = .ok (.istore 18, 2) := by decide +kernel
theorem dL_same_33 : decode cL_same 33 = .ok (.iload 17, 2) := by decide +kernel
theorem dL_same_35 : decode cL_same 35 = .ok (.bipush 100, 2) := by decide +kernel
theorem dL_same_37 : decode cL_same 37 = .ok (.idiv, 1) := by decide +kernel
theorem dL_same_38 : decode cL_same 38 = .ok (.bipush 100, 2) := by decide +kernel
theorem dL_same_40 : decode cL_same 40 = .ok (.irem, 1) := by decide +kernel
theorem dL_same_41 : decode cL_same 41 = .ok (.iconst 1, 1) := by decide +kernel
theorem dL_same_42 : decode cL_same 42 = .ok (.isub, 1) := by decide +kernel
theorem dL_same_43 : decode cL_same 43 = .ok (.istore 19, 2) := by decide +kernel
theorem dL_same_45 : decode cL_same 45 = .ok (.iload 17, 2) := by decide +kernel
theorem dL_same_47 : decode cL_same 47 = .ok (.invokestatic 10, 3) := by decide +kernel
theorem dL_same_50 : decode cL_same 50 = .ok (.aload_n 2, 1) := by decide +kernel
theorem dL_same_51 : decode cL_same 51 = .ok (.iconst 3, 1) := by decide +kernel
theorem dL_same_52 : decode cL_same 52 = .ok (.iaload, 1) := by decide +kernel
theorem dL_same_53 : decode cL_same 53 = .ok (.iconst (-1), 1) := by decide +kernel
theorem dL_same_54 : decode cL_same 54 = .ok (.ixor, 1) := by decide +kernel
theorem dL_same_55 : decode cL_same 55 = .ok (.iand, 1) := by decide +kernel
theorem dL_same_56 : decode cL_same 56 = .ok (.ifCond .ne 7, 3) := by decide +kernel
theorem dL_same_59 : decode cL_same 59 = .ok (.iconst 1, 1) := by decide +kernel
theorem dL_same_60 : decode cL_same 60 = .ok (.goto 4, 3) := by decide +kernel
theorem dL_same_63 : decode cL_same 63 = .ok (.iconst 0, 1) := by decide +kernel
theorem dL_same_64 : decode cL_same 64 = .ok (.istore 20, 2) := by decide +kernel
theorem dL_same_66 : decode cL_same 66 = .ok (.iload 14, 2) := by decide +kernel
theorem dL_same_68 : decode cL_same 68 = .ok (.iload 20, 2) := by decide +kernel
theorem dL_same_70 : decode cL_same 70 = .ok (.ifCond .eq 7, 3) := by decide +kernel
theorem dL_same_73 : decode cL_same 73 = .ok (.iconst 1, 1) := by decide +kernel
theorem dL_same_74 : decode cL_same 74 = .ok (.goto 4, 3) := by decide +kernel
theorem dL_same_77 : decode cL_same 77 = .ok (.iconst 0, 1) := by decide +kernel
theorem dL_same_78 : decode cL_same 78 = .ok (.iadd, 1) := by decide +kernel
theorem dL_same_79 : decode cL_same 79 = .ok (.istore 14, 2) := by decide +kernel
theorem dL_same_81 : decode cL_same 81 = .ok (.iload 15, 2) := by decide +kernel
theorem dL_same_83 : decode cL_same 83 = .ok (.iload 20, 2) := by decide +kernel
theorem dL_same_85 : decode cL_same 85 = .ok (.ifCond .eq 19, 3) := by decide +kernel
theorem dL_same_88 : decode cL_same 88 = .ok (.aload 4, 2) := by decide +kernel
theorem dL_same_90 : decode cL_same 90 = .ok (.iconst 4, 1) := by decide +kernel
theorem dL_same_91 : decode cL_same 91 = .ok (.iload 17, 2) := by decide +kernel
theorem dL_same_93 : decode cL_same 93 = .ok (.sipush 10000, 3) := by decide +kernel
theorem dL_same_96 : decode cL_same 96 = .ok (.idiv, 1) := by decide +kernel
theorem dL_same_97 : decode cL_same 97 = .ok (.imul, 1) := by decide +kernel
theorem dL_same_98 : decode cL_same 98 = .ok (.iconst 2, 1) := by decide +kernel
theorem dL_same_99 : decode cL_same 99 = .ok (.iadd, 1) := by decide +kernel
theorem dL_same_100 : decode cL_same 100 = .ok (.iaload, 1) := by decide +kernel
theorem dL_same_101 : decode cL_same 101 = .ok (.goto 4, 3) := by decide +kernel
theorem dL_same_104 : decode cL_same 104 = .ok (.iconst 0, 1) := by decide +kernel
theorem dL_same_105 : decode cL_same 105 = .ok (.iadd, 1) := by decide +kernel
theorem dL_same_106 : decode cL_same 106 = .ok (.istore 15, 2) := by decide +kernel
theorem dL_same_108 : decode cL_same 108 = .ok (.aload_n 0, 1) := by decide +kernel
theorem dL_same_109 : decode cL_same 109 = .ok (.iload 16, 2) := by decide +kernel
theorem dL_same_111 : decode cL_same 111 = .ok (.iconst 0, 1) := by decide +kernel
theorem dL_same_112 : decode cL_same 112 = .ok (.invokevirtual 33, 3) := by decide +kernel
theorem dL_same_115 : decode cL_same 115 = .ok (.iload 18, 2) := by decide +kernel
theorem dL_same_117 : decode cL_same 117 = .ok (.if_icmp .ne 131, 3) := by decide +kernel
theorem dL_same_120 : decode cL_same 120 = .ok (.aload_n 0, 1) := by decide +kernel
theorem dL_same_121 : decode cL_same 121 = .ok (.iload 16, 2) := by decide +kernel
theorem dL_same_123 : decode cL_same 123 = .ok (.iconst 1, 1) := by decide +kernel
theorem dL_same_124 : decode cL_same 124 = .ok (.invokevirtual 33, 3) := by decide +kernel
theorem dL_same_127 : decode cL_same 127 = .ok (.iload 19, 2) := by decide +kernel
theorem dL_same_129 : decode cL_same 129 = .ok (.ifCond .ge 8, 3) := by decide +kernel
theorem dL_same_132 : decode cL_same 132 = .ok (.bipush (-6), 2) := by decide +kernel
theorem dL_same_134 : decode cL_same 134 = .ok (.goto 5, 3) := by decide +kernel
theorem dL_same_137 : decode cL_same 137 = .ok (.iload 19, 2) := by decide +kernel
theorem dL_same_139 : decode cL_same 139 = .ok (.if_icmp .ne 109, 3) := by decide +kernel
theorem dL_same_142 : decode cL_same 142 = .ok (.aload_n 0, 1) := by decide +kernel
theorem dL_same_143 : decode cL_same 143 = .ok (.iload 16, 2) := by decide +kernel
theorem dL_same_145 : decode cL_same 145 = .ok (.iconst 2, 1) := by decide +kernel
theorem dL_same_146 : decode cL_same 146 = .ok (.invokevirtual 33, 3) := by decide +kernel
theorem dL_same_149 : decode cL_same 149 = .ok (.iload 17, 2) := by decide +kernel
theorem dL_same_151 : decode cL_same 151 = .ok (.sipush 10000, 3) := by decide +kernel
theorem dL_same_154 : decode cL_same 154 = .ok (.idiv, 1) := by decide +kernel
theorem dL_same_155 : decode cL_same 155 = .ok (.if_icmp .ne 93, 3) := by decide +kernel
theorem dL_same_158 : decode cL_same 158 = .ok (.aload_n 0, 1) := by decide +kernel
theorem dL_same_159 : decode cL_same 159 = .ok (.iload 16, 2) := by decide +kernel
theorem dL_same_161 : decode cL_same 161 = .ok (.iconst 3, 1) := by decide +kernel
theorem dL_same_162 : decode cL_same 162 = .ok (.invokevirtual 33, 3) := by decide +kernel
theorem dL_same_165 : decode cL_same 165 = .ok (.iload 18, 2) := by decide +kernel
theorem dL_same_167 : decode cL_same 167 = .ok (.iload 19, 2) := by decide +kernel
theorem dL_same_169 : decode cL_same 169 = .ok (.iload 17, 2) := by decide +kernel
theorem dL_same_171 : decode cL_same 171 = .ok (.sipush 10000, 3) := by decide +kernel
theorem dL_same_174 : decode cL_same 174 = .ok (.idiv, 1) := by decide +kernel
theorem dL_same_175 : decode cL_same 175 = .ok (.aload_n 3, 1) := by decide +kernel
theorem dL_same_176 : decode cL_same 176 = .ok (.aload 4, 2) := by decide +kernel
theorem dL_same_178 : decode cL_same 178 = .ok (.invokestatic 39, 3) := by decide +kernel
theorem dL_same_181 : decode cL_same 181 = .ok (.if_icmp .ne 67, 3) := by decide +kernel
theorem dL_same_184 : decode cL_same 184 = .ok (.aload_n 0, 1) := by decide +kernel
theorem dL_same_185 : decode cL_same 185 = .ok (.iload 16, 2) := by decide +kernel
theorem dL_same_187 : decode cL_same 187 = .ok (.iconst 4, 1) := by decide +kernel
theorem dL_same_188 : decode cL_same 188 = .ok (.invokevirtual 33, 3) := by decide +kernel
theorem dL_same_191 : decode cL_same 191 = .ok (.iload 20, 2) := by decide +kernel
theorem dL_same_193 : decode cL_same 193 = .ok (.ifCond .eq 7, 3) := by decide +kernel
theorem dL_same_196 : decode cL_same 196 = .ok (.iconst 1, 1) := by decide +kernel
theorem dL_same_197 : decode cL_same 197 = .ok (.goto 4, 3) := by decide +kernel
theorem dL_same_200 : decode cL_same 200 = .ok (.iconst 0, 1) := by decide +kernel
theorem dL_same_201 : decode cL_same 201 = .ok (.if_icmp .ne 47, 3) := by decide +kernel
theorem dL_same_204 : decode cL_same 204 = .ok (.aload_n 0, 1) := by decide +kernel
theorem dL_same_205 : decode cL_same 205 = .ok (.iload 16, 2) := by decide +kernel
theorem dL_same_207 : decode cL_same 207 = .ok (.iconst 5, 1) := by decide +kernel
theorem dL_same_208 : decode cL_same 208 = .ok (.invokevirtual 33, 3) := by decide +kernel
theorem dL_same_211 : decode cL_same 211 = .ok (.iload 17, 2) := by decide +kernel
theorem dL_same_213 : decode cL_same 213 = .ok (.invokestatic 10, 3) := by decide +kernel
theorem dL_same_216 : decode cL_same 216 = .ok (.aload_n 2, 1) := by decide +kernel
theorem dL_same_217 : decode cL_same 217 = .ok (.iconst 4, 1) := by decide +kernel
theorem dL_same_218 : decode cL_same 218 = .ok (.iaload, 1) := by decide +kernel
theorem dL_same_219 : decode cL_same 219 = .ok (.iand, 1) := by decide +kernel
theorem dL_same_220 : decode cL_same 220 = .ok (.ifCond .ne 7, 3) := by decide +kernel
theorem dL_same_223 : decode cL_same 223 = .ok (.iconst 1, 1) := by decide +kernel
theorem dL_same_224 : decode cL_same 224 = .ok (.goto 4, 3) := by decide +kernel
theorem dL_same_227 : decode cL_same 227 = .ok (.iconst 0, 1) := by decide +kernel
theorem dL_same_228 : decode cL_same 228 = .ok (.if_icmp .ne 20, 3) := by decide +kernel
theorem dL_same_231 : decode cL_same 231 = .ok (.aload_n 0, 1) := by decide +kernel
theorem dL_same_232 : decode cL_same 232 = .ok (.iload 16, 2) := by decide +kernel
theorem dL_same_234 : decode cL_same 234 = .ok (.bipush 6, 2) := by decide +kernel
theorem dL_same_236 : decode cL_same 236 = .ok (.invokevirtual 33, 3) := by decide +kernel
theorem dL_same_239 : decode cL_same 239 = .ok (.iload 17, 2) := by decide +kernel
theorem dL_same_241 : decode cL_same 241 = .ok (.aload_n 3, 1) := by decide +kernel
theorem dL_same_242 : decode cL_same 242 = .ok (.invokestatic 16, 3) := by decide +kernel
theorem dL_same_245 : decode cL_same 245 = .ok (.if_icmp .eq 5, 3) := by decide +kernel
theorem dL_same_248 : decode cL_same 248 = .ok (.iconst 0, 1) := by decide +kernel
theorem dL_same_249 : decode cL_same 249 = .ok (.ireturn, 1) := by decide +kernel
theorem dL_same_250 : decode cL_same 250 = .ok (.iload 20, 2) := by decide +kernel
theorem dL_same_252 : decode cL_same 252 = .ok (.ifCond .ne 29, 3) := by decide +kernel
theorem dL_same_255 : decode cL_same 255 = .ok (.aload_n 0, 1) := by decide +kernel
theorem dL_same_256 : decode cL_same 256 = .ok (.iload 16, 2) := by decide +kernel
theorem dL_same_258 : decode cL_same 258 = .ok (.iconst 0, 1) := by decide +kernel
theorem dL_same_259 : decode cL_same 259 = .ok (.invokevirtual 43, 3) := by decide +kernel
theorem dL_same_262 : decode cL_same 262 = .ok (.bipush (-6), 2) := by decide +kernel
theorem dL_same_264 : decode cL_same 264 = .ok (.if_icmp .ne 15, 3) := by decide +kernel
theorem dL_same_267 : decode cL_same 267 = .ok (.aload_n 0, 1) := by decide +kernel
theorem dL_same_268 : decode cL_same 268 = .ok (.iload 16, 2) := by decide +kernel
theorem dL_same_270 : decode cL_same 270 = .ok (.iconst 1, 1) := by decide +kernel
theorem dL_same_271 : decode cL_same 271 = .ok (.invokevirtual 46, 3) := by decide +kernel
theorem dL_same_274 : decode cL_same 274 = .ok (.bipush (-6), 2) := by decide +kernel
theorem dL_same_276 : decode cL_same 276 = .ok (.if_icmp .eq 208, 3) := by decide +kernel
theorem dL_same_279 : decode cL_same 279 = .ok (.iconst 0, 1) := by decide +kernel
theorem dL_same_280 : decode cL_same 280 = .ok (.ireturn, 1) := by decide +kernel
theorem dL_same_281 : decode cL_same 281 = .ok (.iload 16, 2) := by decide +kernel
theorem dL_same_283 : decode cL_same 283 = .ok (.iconst (-1), 1) := by decide +kernel
theorem dL_same_284 : decode cL_same 284 = .ok (.aload_n 2, 1) := by decide +kernel
theorem dL_same_285 : decode cL_same 285 = .ok (.aload_n 3, 1) := by decide +kernel
theorem dL_same_286 : decode cL_same 286 = .ok (.aload 4, 2) := by decide +kernel
theorem dL_same_288 : decode cL_same 288 = .ok (.aload 5, 2) := by decide +kernel
theorem dL_same_290 : decode cL_same 290 = .ok (.aload 8, 2) := by decide +kernel
theorem dL_same_292 : decode cL_same 292 = .ok (.aload 9, 2) := by decide +kernel
theorem dL_same_294 : decode cL_same 294 = .ok (.aload 10, 2) := by decide +kernel
theorem dL_same_296 : decode cL_same 296 = .ok (.aload 11, 2) := by decide +kernel
theorem dL_same_298 : decode cL_same 298 = .ok (.aload 12, 2) := by decide +kernel
theorem dL_same_300 : decode cL_same 300 = .ok (.aload 13, 2) := by decide +kernel
theorem dL_same_302 : decode cL_same 302 = .ok (.invokestatic 49, 3) := by decide +kernel
theorem dL_same_305 : decode cL_same 305 = .ok (.istore 21, 2) := by decide +kernel
theorem dL_same_307 : decode cL_same 307 = .ok (.aload_n 0, 1) := by decide +kernel
theorem dL_same_308 : decode cL_same 308 = .ok (.iload 16, 2) := by decide +kernel
theorem dL_same_310 : decode cL_same 310 = .ok (.iconst 0, 1) := by decide +kernel
theorem dL_same_311 : decode cL_same 311 = .ok (.invokevirtual 43, 3) := by decide +kernel
theorem dL_same_314 : decode cL_same 314 = .ok (.iload 21, 2) := by decide +kernel
theorem dL_same_316 : decode cL_same 316 = .ok (.sipush 10000, 3) := by decide +kernel
theorem dL_same_319 : decode cL_same 319 = .ok (.idiv, 1) := by decide +kernel
theorem dL_same_320 : decode cL_same 320 = .ok (.if_icmp .ne 23, 3) := by decide +kernel
theorem dL_same_323 : decode cL_same 323 = .ok (.aload_n 0, 1) := by decide +kernel
theorem dL_same_324 : decode cL_same 324 = .ok (.iload 16, 2) := by decide +kernel
theorem dL_same_326 : decode cL_same 326 = .ok (.iconst 1, 1) := by decide +kernel
theorem dL_same_327 : decode cL_same 327 = .ok (.invokevirtual 43, 3) := by decide +kernel
theorem dL_same_330 : decode cL_same 330 = .ok (.aload_n 2, 1) := by decide +kernel
theorem dL_same_331 : decode cL_same 331 = .ok (.iconst 5, 1) := by decide +kernel
theorem dL_same_332 : decode cL_same 332 = .ok (.iaload, 1) := by decide +kernel
theorem dL_same_333 : decode cL_same 333 = .ok (.iload 21, 2) := by decide +kernel
theorem dL_same_335 : decode cL_same 335 = .ok (.sipush 10000, 3) := by decide +kernel
theorem dL_same_338 : decode cL_same 338 = .ok (.irem, 1) := by decide +kernel
theorem dL_same_339 : decode cL_same 339 = .ok (.iadd, 1) := by decide +kernel
theorem dL_same_340 : decode cL_same 340 = .ok (.if_icmp .eq 5, 3) := by decide +kernel
theorem dL_same_343 : decode cL_same 343 = .ok (.iconst 0, 1) := by decide +kernel
theorem dL_same_344 : decode cL_same 344 = .ok (.ireturn, 1) := by decide +kernel
theorem dL_same_345 : decode cL_same 345 = .ok (.iload 16, 2) := by decide +kernel
theorem dL_same_347 : decode cL_same 347 = .ok (.iload_n 1, 1) := by decide +kernel
theorem dL_same_348 : decode cL_same 348 = .ok (.aload_n 2, 1) := by decide +kernel
theorem dL_same_349 : decode cL_same 349 = .ok (.iconst 2, 1) := by decide +kernel
theorem dL_same_350 : decode cL_same 350 = .ok (.iaload, 1) := by decide +kernel
theorem dL_same_351 : decode cL_same 351 = .ok (.invokestatic 53, 3) := by decide +kernel
theorem dL_same_354 : decode cL_same 354 = .ok (.if_icmp .ne 130, 3) := by decide +kernel
theorem dL_same_357 : decode cL_same 357 = .ok (.aload_n 2, 1) := by decide +kernel
theorem dL_same_358 : decode cL_same 358 = .ok (.iconst 2, 1) := by decide +kernel
theorem dL_same_359 : decode cL_same 359 = .ok (.iaload, 1) := by decide +kernel
theorem dL_same_360 : decode cL_same 360 = .ok (.iconst 1, 1) := by decide +kernel
theorem dL_same_361 : decode cL_same 361 = .ok (.if_icmp .ne 6, 3) := by decide +kernel
theorem dL_same_364 : decode cL_same 364 = .ok (.goto 120, 3) := by decide +kernel
theorem dL_same_367 : decode cL_same 367 = .ok (.iconst (-1), 1) := by decide +kernel
theorem dL_same_368 : decode cL_same 368 = .ok (.istore 22, 2) := by decide +kernel
theorem dL_same_370 : decode cL_same 370 = .ok (.iconst 0, 1) := by decide +kernel
theorem dL_same_371 : decode cL_same 371 = .ok (.istore 23, 2) := by decide +kernel
theorem dL_same_373 : decode cL_same 373 = .ok (.iconst 0, 1) := by decide +kernel
theorem dL_same_374 : decode cL_same 374 = .ok (.istore 24, 2) := by decide +kernel
theorem dL_same_376 : decode cL_same 376 = .ok (.iload 24, 2) := by decide +kernel
theorem dL_same_378 : decode cL_same 378 = .ok (.aload_n 2, 1) := by decide +kernel
theorem dL_same_379 : decode cL_same 379 = .ok (.iconst 2, 1) := by decide +kernel
theorem dL_same_380 : decode cL_same 380 = .ok (.iaload, 1) := by decide +kernel
theorem dL_same_381 : decode cL_same 381 = .ok (.if_icmp .ge 77, 3) := by decide +kernel
theorem dL_same_384 : decode cL_same 384 = .ok (.iload 24, 2) := by decide +kernel
theorem dL_same_386 : decode cL_same 386 = .ok (.iload 16, 2) := by decide +kernel
theorem dL_same_388 : decode cL_same 388 = .ok (.if_icmp .ne 6, 3) := by decide +kernel
theorem dL_same_391 : decode cL_same 391 = .ok (.goto 61, 3) := by decide +kernel
theorem dL_same_394 : decode cL_same 394 = .ok (.iload 21, 2) := by decide +kernel
theorem dL_same_396 : decode cL_same 396 = .ok (.sipush 10000, 3) := by decide +kernel
theorem dL_same_399 : decode cL_same 399 = .ok (.irem, 1) := by decide +kernel
theorem dL_same_400 : decode cL_same 400 = .ok (.iload 16, 2) := by decide +kernel
theorem dL_same_402 : decode cL_same 402 = .ok (.iload 24, 2) := by decide +kernel
theorem dL_same_404 : decode cL_same 404 = .ok (.aload_n 2, 1) := by decide +kernel
theorem dL_same_405 : decode cL_same 405 = .ok (.aload_n 3, 1) := by decide +kernel
theorem dL_same_406 : decode cL_same 406 = .ok (.aload 4, 2) := by decide +kernel
theorem dL_same_408 : decode cL_same 408 = .ok (.aload 5, 2) := by decide +kernel
theorem dL_same_410 : decode cL_same 410 = .ok (.aload 8, 2) := by decide +kernel
theorem dL_same_412 : decode cL_same 412 = .ok (.aload 9, 2) := by decide +kernel
theorem dL_same_414 : decode cL_same 414 = .ok (.aload 10, 2) := by decide +kernel
theorem dL_same_416 : decode cL_same 416 = .ok (.aload 11, 2) := by decide +kernel
theorem dL_same_418 : decode cL_same 418 = .ok (.aload 12, 2) := by decide +kernel
theorem dL_same_420 : decode cL_same 420 = .ok (.aload 13, 2) := by decide +kernel
theorem dL_same_422 : decode cL_same 422 = .ok (.invokestatic 49, 3) := by decide +kernel
theorem dL_same_425 : decode cL_same 425 = .ok (.sipush 10000, 3) := by decide +kernel
theorem dL_same_428 : decode cL_same 428 = .ok (.irem, 1) := by decide +kernel
theorem dL_same_429 : decode cL_same 429 = .ok (.isub, 1) := by decide +kernel
theorem dL_same_430 : decode cL_same 430 = .ok (.istore 25, 2) := by decide +kernel
theorem dL_same_432 : decode cL_same 432 = .ok (.iload 22, 2) := by decide +kernel
theorem dL_same_434 : decode cL_same 434 = .ok (.ifCond .lt 10, 3) := by decide +kernel
theorem dL_same_437 : decode cL_same 437 = .ok (.iload 25, 2) := by decide +kernel
theorem dL_same_439 : decode cL_same 439 = .ok (.iload 23, 2) := by decide +kernel
theorem dL_same_441 : decode cL_same 441 = .ok (.if_icmp .le 11, 3) := by decide +kernel
theorem dL_same_444 : decode cL_same 444 = .ok (.iload 24, 2) := by decide +kernel
theorem dL_same_446 : decode cL_same 446 = .ok (.istore 22, 2) := by decide +kernel
theorem dL_same_448 : decode cL_same 448 = .ok (.iload 25, 2) := by decide +kernel
theorem dL_same_450 : decode cL_same 450 = .ok (.istore 23, 2) := by decide +kernel
theorem dL_same_452 : decode cL_same 452 = .ok (.iinc 24 1, 3) := by decide +kernel
theorem dL_same_455 : decode cL_same 455 = .ok (.goto (-79), 3) := by decide +kernel
theorem dL_same_458 : decode cL_same 458 = .ok (.aload_n 0, 1) := by decide +kernel
theorem dL_same_459 : decode cL_same 459 = .ok (.iload 16, 2) := by decide +kernel
theorem dL_same_461 : decode cL_same 461 = .ok (.iconst 0, 1) := by decide +kernel
theorem dL_same_462 : decode cL_same 462 = .ok (.invokevirtual 46, 3) := by decide +kernel
theorem dL_same_465 : decode cL_same 465 = .ok (.iload 22, 2) := by decide +kernel
theorem dL_same_467 : decode cL_same 467 = .ok (.if_icmp .ne 15, 3) := by decide +kernel
theorem dL_same_470 : decode cL_same 470 = .ok (.aload_n 0, 1) := by decide +kernel
theorem dL_same_471 : decode cL_same 471 = .ok (.iload 16, 2) := by decide +kernel
theorem dL_same_473 : decode cL_same 473 = .ok (.iconst 1, 1) := by decide +kernel
theorem dL_same_474 : decode cL_same 474 = .ok (.invokevirtual 46, 3) := by decide +kernel
theorem dL_same_477 : decode cL_same 477 = .ok (.iload 23, 2) := by decide +kernel
theorem dL_same_479 : decode cL_same 479 = .ok (.if_icmp .eq 5, 3) := by decide +kernel
theorem dL_same_482 : decode cL_same 482 = .ok (.iconst 0, 1) := by decide +kernel
theorem dL_same_483 : decode cL_same 483 = .ok (.ireturn, 1) := by decide +kernel
theorem dL_same_484 : decode cL_same 484 = .ok (.iinc 16 1, 3) := by decide +kernel
theorem dL_same_487 : decode cL_same 487 = .ok (.goto (-476), 3) := by decide +kernel
theorem dL_same_490 : decode cL_same 490 = .ok (.iconst 0, 1) := by decide +kernel
theorem dL_same_491 : decode cL_same 491 = .ok (.istore 16, 2) := by decide +kernel
theorem dL_same_493 : decode cL_same 493 = .ok (.iload 16, 2) := by decide +kernel
theorem dL_same_495 : decode cL_same 495 = .ok (.aload_n 2, 1) := by decide +kernel
theorem dL_same_496 : decode cL_same 496 = .ok (.iconst 0, 1) := by decide +kernel
theorem dL_same_497 : decode cL_same 497 = .ok (.iaload, 1) := by decide +kernel
theorem dL_same_498 : decode cL_same 498 = .ok (.if_icmp .ge 305, 3) := by decide +kernel
theorem dL_same_501 : decode cL_same 501 = .ok (.iconst 0, 1) := by decide +kernel
theorem dL_same_502 : decode cL_same 502 = .ok (.istore 17, 2) := by decide +kernel
theorem dL_same_504 : decode cL_same 504 = .ok (.iconst 0, 1) := by decide +kernel
theorem dL_same_505 : decode cL_same 505 = .ok (.istore 18, 2) := by decide +kernel
theorem dL_same_507 : decode cL_same 507 = .ok (.iconst 0, 1) := by decide +kernel
theorem dL_same_508 : decode cL_same 508 = .ok (.istore 19, 2) := by decide +kernel
theorem dL_same_510 : decode cL_same 510 = .ok (.iload 19, 2) := by decide +kernel
theorem dL_same_512 : decode cL_same 512 = .ok (.aload_n 2, 1) := by decide +kernel
theorem dL_same_513 : decode cL_same 513 = .ok (.iconst 2, 1) := by decide +kernel
theorem dL_same_514 : decode cL_same 514 = .ok (.iaload, 1) := by decide +kernel
theorem dL_same_515 : decode cL_same 515 = .ok (.if_icmp .ge 61, 3) := by decide +kernel
theorem dL_same_518 : decode cL_same 518 = .ok (.iload 17, 2) := by decide +kernel
theorem dL_same_520 : decode cL_same 520 = .ok (.aload 5, 2) := by decide +kernel
theorem dL_same_522 : decode cL_same 522 = .ok (.iload 19, 2) := by decide +kernel
theorem dL_same_524 : decode cL_same 524 = .ok (.iaload, 1) := by decide +kernel
theorem dL_same_525 : decode cL_same 525 = .ok (.invokestatic 10, 3) := by decide +kernel
theorem dL_same_528 : decode cL_same 528 = .ok (.iload 16, 2) := by decide +kernel
theorem dL_same_530 : decode cL_same 530 = .ok (.ishr, 1) := by decide +kernel
theorem dL_same_531 : decode cL_same 531 = .ok (.iconst 1, 1) := by decide +kernel
theorem dL_same_532 : decode cL_same 532 = .ok (.iand, 1) := by decide +kernel
theorem dL_same_533 : decode cL_same 533 = .ok (.iadd, 1) := by decide +kernel
theorem dL_same_534 : decode cL_same 534 = .ok (.istore 17, 2) := by decide +kernel
theorem dL_same_536 : decode cL_same 536 = .ok (.iload 18, 2) := by decide +kernel
theorem dL_same_538 : decode cL_same 538 = .ok (.aload 5, 2) := by decide +kernel
theorem dL_same_540 : decode cL_same 540 = .ok (.iload 19, 2) := by decide +kernel
theorem dL_same_542 : decode cL_same 542 = .ok (.iaload, 1) := by decide +kernel
theorem dL_same_543 : decode cL_same 543 = .ok (.invokestatic 10, 3) := by decide +kernel
theorem dL_same_546 : decode cL_same 546 = .ok (.aload_n 2, 1) := by decide +kernel
theorem dL_same_547 : decode cL_same 547 = .ok (.iconst 3, 1) := by decide +kernel
theorem dL_same_548 : decode cL_same 548 = .ok (.iaload, 1) := by decide +kernel
theorem dL_same_549 : decode cL_same 549 = .ok (.iconst 1, 1) := by decide +kernel
theorem dL_same_550 : decode cL_same 550 = .ok (.iload 16, 2) := by decide +kernel
theorem dL_same_552 : decode cL_same 552 = .ok (.ishl, 1) := by decide +kernel
theorem dL_same_553 : decode cL_same 553 = .ok (.iconst (-1), 1) := by decide +kernel
theorem dL_same_554 : decode cL_same 554 = .ok (.ixor, 1) := by decide +kernel
theorem dL_same_555 : decode cL_same 555 = .ok (.iand, 1) := by decide +kernel
theorem dL_same_556 : decode cL_same 556 = .ok (.iconst (-1), 1) := by decide +kernel
theorem dL_same_557 : decode cL_same 557 = .ok (.ixor, 1) := by decide +kernel
theorem dL_same_558 : decode cL_same 558 = .ok (.iand, 1) := by decide +kernel
theorem dL_same_559 : decode cL_same 559 = .ok (.ifCond .eq 7, 3) := by decide +kernel
theorem dL_same_562 : decode cL_same 562 = .ok (.iconst 1, 1) := by decide +kernel
theorem dL_same_563 : decode cL_same 563 = .ok (.goto 4, 3) := by decide +kernel
theorem dL_same_566 : decode cL_same 566 = .ok (.iconst 0, 1) := by decide +kernel
theorem dL_same_567 : decode cL_same 567 = .ok (.iadd, 1) := by decide +kernel
theorem dL_same_568 : decode cL_same 568 = .ok (.istore 18, 2) := by decide +kernel
theorem dL_same_570 : decode cL_same 570 = .ok (.iinc 19 1, 3) := by decide +kernel
theorem dL_same_573 : decode cL_same 573 = .ok (.goto (-63), 3) := by decide +kernel
theorem dL_same_576 : decode cL_same 576 = .ok (.aload_n 0, 1) := by decide +kernel
theorem dL_same_577 : decode cL_same 577 = .ok (.iload 16, 2) := by decide +kernel
theorem dL_same_579 : decode cL_same 579 = .ok (.iconst 0, 1) := by decide +kernel
theorem dL_same_580 : decode cL_same 580 = .ok (.invokevirtual 56, 3) := by decide +kernel
theorem dL_same_583 : decode cL_same 583 = .ok (.aload_n 3, 1) := by decide +kernel
theorem dL_same_584 : decode cL_same 584 = .ok (.iconst 4, 1) := by decide +kernel
theorem dL_same_585 : decode cL_same 585 = .ok (.iload 16, 2) := by decide +kernel
theorem dL_same_587 : decode cL_same 587 = .ok (.imul, 1) := by decide +kernel
theorem dL_same_588 : decode cL_same 588 = .ok (.iaload, 1) := by decide +kernel
theorem dL_same_589 : decode cL_same 589 = .ok (.if_icmp .ne 117, 3) := by decide +kernel
theorem dL_same_592 : decode cL_same 592 = .ok (.aload_n 0, 1) := by decide +kernel
theorem dL_same_593 : decode cL_same 593 = .ok (.iload 16, 2) := by decide +kernel
theorem dL_same_595 : decode cL_same 595 = .ok (.iconst 1, 1) := by decide +kernel
theorem dL_same_596 : decode cL_same 596 = .ok (.invokevirtual 56, 3) := by decide +kernel
theorem dL_same_599 : decode cL_same 599 = .ok (.aload_n 3, 1) := by decide +kernel
theorem dL_same_600 : decode cL_same 600 = .ok (.iconst 4, 1) := by decide +kernel
theorem dL_same_601 : decode cL_same 601 = .ok (.iload 16, 2) := by decide +kernel
theorem dL_same_603 : decode cL_same 603 = .ok (.imul, 1) := by decide +kernel
theorem dL_same_604 : decode cL_same 604 = .ok (.iconst 1, 1) := by decide +kernel
theorem dL_same_605 : decode cL_same 605 = .ok (.iadd, 1) := by decide +kernel
theorem dL_same_606 : decode cL_same 606 = .ok (.iaload, 1) := by decide +kernel
theorem dL_same_607 : decode cL_same 607 = .ok (.if_icmp .ne 99, 3) := by decide +kernel
theorem dL_same_610 : decode cL_same 610 = .ok (.aload_n 0, 1) := by decide +kernel
theorem dL_same_611 : decode cL_same 611 = .ok (.iload 16, 2) := by decide +kernel
theorem dL_same_613 : decode cL_same 613 = .ok (.iconst 2, 1) := by decide +kernel
theorem dL_same_614 : decode cL_same 614 = .ok (.invokevirtual 56, 3) := by decide +kernel
theorem dL_same_617 : decode cL_same 617 = .ok (.aload_n 2, 1) := by decide +kernel
theorem dL_same_618 : decode cL_same 618 = .ok (.iconst 3, 1) := by decide +kernel
theorem dL_same_619 : decode cL_same 619 = .ok (.iaload, 1) := by decide +kernel
theorem dL_same_620 : decode cL_same 620 = .ok (.iload 16, 2) := by decide +kernel
theorem dL_same_622 : decode cL_same 622 = .ok (.ishr, 1) := by decide +kernel
theorem dL_same_623 : decode cL_same 623 = .ok (.iconst 1, 1) := by decide +kernel
theorem dL_same_624 : decode cL_same 624 = .ok (.iand, 1) := by decide +kernel
theorem dL_same_625 : decode cL_same 625 = .ok (.if_icmp .ne 81, 3) := by decide +kernel
theorem dL_same_628 : decode cL_same 628 = .ok (.aload_n 0, 1) := by decide +kernel
theorem dL_same_629 : decode cL_same 629 = .ok (.iload 16, 2) := by decide +kernel
theorem dL_same_631 : decode cL_same 631 = .ok (.iconst 3, 1) := by decide +kernel
theorem dL_same_632 : decode cL_same 632 = .ok (.invokevirtual 56, 3) := by decide +kernel
theorem dL_same_635 : decode cL_same 635 = .ok (.aload_n 3, 1) := by decide +kernel
theorem dL_same_636 : decode cL_same 636 = .ok (.iconst 4, 1) := by decide +kernel
theorem dL_same_637 : decode cL_same 637 = .ok (.iload 16, 2) := by decide +kernel
theorem dL_same_639 : decode cL_same 639 = .ok (.imul, 1) := by decide +kernel
theorem dL_same_640 : decode cL_same 640 = .ok (.iconst 2, 1) := by decide +kernel
theorem dL_same_641 : decode cL_same 641 = .ok (.iadd, 1) := by decide +kernel
theorem dL_same_642 : decode cL_same 642 = .ok (.iaload, 1) := by decide +kernel
theorem dL_same_643 : decode cL_same 643 = .ok (.if_icmp .ne 63, 3) := by decide +kernel
theorem dL_same_646 : decode cL_same 646 = .ok (.aload_n 0, 1) := by decide +kernel
theorem dL_same_647 : decode cL_same 647 = .ok (.iload 16, 2) := by decide +kernel
theorem dL_same_649 : decode cL_same 649 = .ok (.iconst 4, 1) := by decide +kernel
theorem dL_same_650 : decode cL_same 650 = .ok (.invokevirtual 56, 3) := by decide +kernel
theorem dL_same_653 : decode cL_same 653 = .ok (.aload_n 2, 1) := by decide +kernel
theorem dL_same_654 : decode cL_same 654 = .ok (.iconst 4, 1) := by decide +kernel
theorem dL_same_655 : decode cL_same 655 = .ok (.iaload, 1) := by decide +kernel
theorem dL_same_656 : decode cL_same 656 = .ok (.iload 16, 2) := by decide +kernel
theorem dL_same_658 : decode cL_same 658 = .ok (.ishr, 1) := by decide +kernel
theorem dL_same_659 : decode cL_same 659 = .ok (.iconst 1, 1) := by decide +kernel
theorem dL_same_660 : decode cL_same 660 = .ok (.iand, 1) := by decide +kernel
theorem dL_same_661 : decode cL_same 661 = .ok (.if_icmp .ne 45, 3) := by decide +kernel
theorem dL_same_664 : decode cL_same 664 = .ok (.aload_n 0, 1) := by decide +kernel
theorem dL_same_665 : decode cL_same 665 = .ok (.iload 16, 2) := by decide +kernel
theorem dL_same_667 : decode cL_same 667 = .ok (.iconst 5, 1) := by decide +kernel
theorem dL_same_668 : decode cL_same 668 = .ok (.invokevirtual 56, 3) := by decide +kernel
theorem dL_same_671 : decode cL_same 671 = .ok (.iload 17, 2) := by decide +kernel
theorem dL_same_673 : decode cL_same 673 = .ok (.if_icmp .ne 33, 3) := by decide +kernel
theorem dL_same_676 : decode cL_same 676 = .ok (.aload_n 0, 1) := by decide +kernel
theorem dL_same_677 : decode cL_same 677 = .ok (.iload 16, 2) := by decide +kernel
theorem dL_same_679 : decode cL_same 679 = .ok (.bipush 6, 2) := by decide +kernel
theorem dL_same_681 : decode cL_same 681 = .ok (.invokevirtual 56, 3) := by decide +kernel
theorem dL_same_684 : decode cL_same 684 = .ok (.aload_n 3, 1) := by decide +kernel
theorem dL_same_685 : decode cL_same 685 = .ok (.iconst 4, 1) := by decide +kernel
theorem dL_same_686 : decode cL_same 686 = .ok (.iload 16, 2) := by decide +kernel
theorem dL_same_688 : decode cL_same 688 = .ok (.imul, 1) := by decide +kernel
theorem dL_same_689 : decode cL_same 689 = .ok (.iconst 3, 1) := by decide +kernel
theorem dL_same_690 : decode cL_same 690 = .ok (.iadd, 1) := by decide +kernel
theorem dL_same_691 : decode cL_same 691 = .ok (.iaload, 1) := by decide +kernel
theorem dL_same_692 : decode cL_same 692 = .ok (.if_icmp .ne 14, 3) := by decide +kernel
theorem dL_same_695 : decode cL_same 695 = .ok (.aload_n 0, 1) := by decide +kernel
theorem dL_same_696 : decode cL_same 696 = .ok (.iload 16, 2) := by decide +kernel
theorem dL_same_698 : decode cL_same 698 = .ok (.invokevirtual 59, 3) := by decide +kernel
theorem dL_same_701 : decode cL_same 701 = .ok (.iload 18, 2) := by decide +kernel
theorem dL_same_703 : decode cL_same 703 = .ok (.if_icmp .eq 5, 3) := by decide +kernel
theorem dL_same_706 : decode cL_same 706 = .ok (.iconst 0, 1) := by decide +kernel
theorem dL_same_707 : decode cL_same 707 = .ok (.ireturn, 1) := by decide +kernel
theorem dL_same_708 : decode cL_same 708 = .ok (.iload 16, 2) := by decide +kernel
theorem dL_same_710 : decode cL_same 710 = .ok (.iconst 1, 1) := by decide +kernel
theorem dL_same_711 : decode cL_same 711 = .ok (.iadd, 1) := by decide +kernel
theorem dL_same_712 : decode cL_same 712 = .ok (.aload_n 2, 1) := by decide +kernel
theorem dL_same_713 : decode cL_same 713 = .ok (.iconst 0, 1) := by decide +kernel
theorem dL_same_714 : decode cL_same 714 = .ok (.iaload, 1) := by decide +kernel
theorem dL_same_715 : decode cL_same 715 = .ok (.irem, 1) := by decide +kernel
theorem dL_same_716 : decode cL_same 716 = .ok (.istore 19, 2) := by decide +kernel
theorem dL_same_718 : decode cL_same 718 = .ok (.iconst 0, 1) := by decide +kernel
theorem dL_same_719 : decode cL_same 719 = .ok (.istore 20, 2) := by decide +kernel
theorem dL_same_721 : decode cL_same 721 = .ok (.iconst 0, 1) := by decide +kernel
theorem dL_same_722 : decode cL_same 722 = .ok (.istore 21, 2) := by decide +kernel
theorem dL_same_724 : decode cL_same 724 = .ok (.iload 21, 2) := by decide +kernel
theorem dL_same_726 : decode cL_same 726 = .ok (.aload_n 2, 1) := by decide +kernel
theorem dL_same_727 : decode cL_same 727 = .ok (.iconst 1, 1) := by decide +kernel
theorem dL_same_728 : decode cL_same 728 = .ok (.iaload, 1) := by decide +kernel
theorem dL_same_729 : decode cL_same 729 = .ok (.if_icmp .ge 41, 3) := by decide +kernel
theorem dL_same_732 : decode cL_same 732 = .ok (.iload 20, 2) := by decide +kernel
theorem dL_same_734 : decode cL_same 734 = .ok (.iload 19, 2) := by decide +kernel
theorem dL_same_736 : decode cL_same 736 = .ok (.iload 16, 2) := by decide +kernel
theorem dL_same_738 : decode cL_same 738 = .ok (.if_icmp .eq 22, 3) := by decide +kernel
theorem dL_same_741 : decode cL_same 741 = .ok (.iload 16, 2) := by decide +kernel
theorem dL_same_743 : decode cL_same 743 = .ok (.iload 19, 2) := by decide +kernel
theorem dL_same_745 : decode cL_same 745 = .ok (.iload 21, 2) := by decide +kernel
theorem dL_same_747 : decode cL_same 747 = .ok (.aload_n 3, 1) := by decide +kernel
theorem dL_same_748 : decode cL_same 748 = .ok (.aload 4, 2) := by decide +kernel
theorem dL_same_750 : decode cL_same 750 = .ok (.invokestatic 39, 3) := by decide +kernel
theorem dL_same_753 : decode cL_same 753 = .ok (.ifCond .lt 7, 3) := by decide +kernel
theorem dL_same_756 : decode cL_same 756 = .ok (.iconst 1, 1) := by decide +kernel
theorem dL_same_757 : decode cL_same 757 = .ok (.goto 4, 3) := by decide +kernel
theorem dL_same_760 : decode cL_same 760 = .ok (.iconst 0, 1) := by decide +kernel
theorem dL_same_761 : decode cL_same 761 = .ok (.iadd, 1) := by decide +kernel
theorem dL_same_762 : decode cL_same 762 = .ok (.istore 20, 2) := by decide +kernel
theorem dL_same_764 : decode cL_same 764 = .ok (.iinc 21 1, 3) := by decide +kernel
theorem dL_same_767 : decode cL_same 767 = .ok (.goto (-43), 3) := by decide +kernel
theorem dL_same_770 : decode cL_same 770 = .ok (.aload_n 0, 1) := by decide +kernel
theorem dL_same_771 : decode cL_same 771 = .ok (.iload 16, 2) := by decide +kernel
theorem dL_same_773 : decode cL_same 773 = .ok (.iload 19, 2) := by decide +kernel
theorem dL_same_775 : decode cL_same 775 = .ok (.invokevirtual 62, 3) := by decide +kernel
theorem dL_same_778 : decode cL_same 778 = .ok (.iload 19, 2) := by decide +kernel
theorem dL_same_780 : decode cL_same 780 = .ok (.iload 16, 2) := by decide +kernel
theorem dL_same_782 : decode cL_same 782 = .ok (.if_icmp .ne 8, 3) := by decide +kernel
theorem dL_same_785 : decode cL_same 785 = .ok (.bipush (-2), 2) := by decide +kernel
theorem dL_same_787 : decode cL_same 787 = .ok (.goto 5, 3) := by decide +kernel
theorem dL_same_790 : decode cL_same 790 = .ok (.iload 20, 2) := by decide +kernel
theorem dL_same_792 : decode cL_same 792 = .ok (.if_icmp .eq 5, 3) := by decide +kernel
theorem dL_same_795 : decode cL_same 795 = .ok (.iconst 0, 1) := by decide +kernel
theorem dL_same_796 : decode cL_same 796 = .ok (.ireturn, 1) := by decide +kernel
theorem dL_same_797 : decode cL_same 797 = .ok (.iinc 16 1, 3) := by decide +kernel
theorem dL_same_800 : decode cL_same 800 = .ok (.goto (-307), 3) := by decide +kernel
theorem dL_same_803 : decode cL_same 803 = .ok (.iconst 0, 1) := by decide +kernel
theorem dL_same_804 : decode cL_same 804 = .ok (.istore 16, 2) := by decide +kernel
theorem dL_same_806 : decode cL_same 806 = .ok (.iload 16, 2) := by decide +kernel
theorem dL_same_808 : decode cL_same 808 = .ok (.aload_n 2, 1) := by decide +kernel
theorem dL_same_809 : decode cL_same 809 = .ok (.iconst 1, 1) := by decide +kernel
theorem dL_same_810 : decode cL_same 810 = .ok (.iaload, 1) := by decide +kernel
theorem dL_same_811 : decode cL_same 811 = .ok (.if_icmp .ge 108, 3) := by decide +kernel
theorem dL_same_814 : decode cL_same 814 = .ok (.iconst 0, 1) := by decide +kernel
theorem dL_same_815 : decode cL_same 815 = .ok (.istore 17, 2) := by decide +kernel
theorem dL_same_817 : decode cL_same 817 = .ok (.iconst 0, 1) := by decide +kernel
theorem dL_same_818 : decode cL_same 818 = .ok (.istore 18, 2) := by decide +kernel
theorem dL_same_820 : decode cL_same 820 = .ok (.iload 18, 2) := by decide +kernel
theorem dL_same_822 : decode cL_same 822 = .ok (.aload_n 2, 1) := by decide +kernel
theorem dL_same_823 : decode cL_same 823 = .ok (.iconst 0, 1) := by decide +kernel
theorem dL_same_824 : decode cL_same 824 = .ok (.iaload, 1) := by decide +kernel
theorem dL_same_825 : decode cL_same 825 = .ok (.if_icmp .ge 36, 3) := by decide +kernel
theorem dL_same_828 : decode cL_same 828 = .ok (.iload 17, 2) := by decide +kernel
theorem dL_same_830 : decode cL_same 830 = .ok (.iload 18, 2) := by decide +kernel
theorem dL_same_832 : decode cL_same 832 = .ok (.iconst (-1), 1) := by decide +kernel
theorem dL_same_833 : decode cL_same 833 = .ok (.iload 16, 2) := by decide +kernel
theorem dL_same_835 : decode cL_same 835 = .ok (.aload_n 3, 1) := by decide +kernel
theorem dL_same_836 : decode cL_same 836 = .ok (.aload 4, 2) := by decide +kernel
theorem dL_same_838 : decode cL_same 838 = .ok (.invokestatic 39, 3) := by decide +kernel
theorem dL_same_841 : decode cL_same 841 = .ok (.ifCond .lt 10, 3) := by decide +kernel
theorem dL_same_844 : decode cL_same 844 = .ok (.iconst 1, 1) := by decide +kernel
theorem dL_same_845 : decode cL_same 845 = .ok (.iload 18, 2) := by decide +kernel
theorem dL_same_847 : decode cL_same 847 = .ok (.ishl, 1) := by decide +kernel
theorem dL_same_848 : decode cL_same 848 = .ok (.goto 4, 3) := by decide +kernel
theorem dL_same_851 : decode cL_same 851 = .ok (.iconst 0, 1) := by decide +kernel
theorem dL_same_852 : decode cL_same 852 = .ok (.ior, 1) := by decide +kernel
theorem dL_same_853 : decode cL_same 853 = .ok (.istore 17, 2) := by decide +kernel
theorem dL_same_855 : decode cL_same 855 = .ok (.iinc 18 1, 3) := by decide +kernel
theorem dL_same_858 : decode cL_same 858 = .ok (.goto (-38), 3) := by decide +kernel
theorem dL_same_861 : decode cL_same 861 = .ok (.aload_n 0, 1) := by decide +kernel
theorem dL_same_862 : decode cL_same 862 = .ok (.iload 16, 2) := by decide +kernel
theorem dL_same_864 : decode cL_same 864 = .ok (.iconst 2, 1) := by decide +kernel
theorem dL_same_865 : decode cL_same 865 = .ok (.invokevirtual 65, 3) := by decide +kernel
theorem dL_same_868 : decode cL_same 868 = .ok (.aload 4, 2) := by decide +kernel
theorem dL_same_870 : decode cL_same 870 = .ok (.iconst 4, 1) := by decide +kernel
theorem dL_same_871 : decode cL_same 871 = .ok (.iload 16, 2) := by decide +kernel
theorem dL_same_873 : decode cL_same 873 = .ok (.imul, 1) := by decide +kernel
theorem dL_same_874 : decode cL_same 874 = .ok (.iconst 2, 1) := by decide +kernel
theorem dL_same_875 : decode cL_same 875 = .ok (.iadd, 1) := by decide +kernel
theorem dL_same_876 : decode cL_same 876 = .ok (.iaload, 1) := by decide +kernel
theorem dL_same_877 : decode cL_same 877 = .ok (.if_icmp .ne 34, 3) := by decide +kernel
theorem dL_same_880 : decode cL_same 880 = .ok (.aload_n 0, 1) := by decide +kernel
theorem dL_same_881 : decode cL_same 881 = .ok (.iload 16, 2) := by decide +kernel
theorem dL_same_883 : decode cL_same 883 = .ok (.iconst 3, 1) := by decide +kernel
theorem dL_same_884 : decode cL_same 884 = .ok (.invokevirtual 65, 3) := by decide +kernel
theorem dL_same_887 : decode cL_same 887 = .ok (.iload 17, 2) := by decide +kernel
theorem dL_same_889 : decode cL_same 889 = .ok (.if_icmp .ne 22, 3) := by decide +kernel
theorem dL_same_892 : decode cL_same 892 = .ok (.aload_n 0, 1) := by decide +kernel
theorem dL_same_893 : decode cL_same 893 = .ok (.iload 16, 2) := by decide +kernel
theorem dL_same_895 : decode cL_same 895 = .ok (.iconst 4, 1) := by decide +kernel
theorem dL_same_896 : decode cL_same 896 = .ok (.invokevirtual 65, 3) := by decide +kernel
theorem dL_same_899 : decode cL_same 899 = .ok (.aload 4, 2) := by decide +kernel
theorem dL_same_901 : decode cL_same 901 = .ok (.iconst 4, 1) := by decide +kernel
theorem dL_same_902 : decode cL_same 902 = .ok (.iload 16, 2) := by decide +kernel
theorem dL_same_904 : decode cL_same 904 = .ok (.imul, 1) := by decide +kernel
theorem dL_same_905 : decode cL_same 905 = .ok (.iconst 3, 1) := by decide +kernel
theorem dL_same_906 : decode cL_same 906 = .ok (.iadd, 1) := by decide +kernel
theorem dL_same_907 : decode cL_same 907 = .ok (.iaload, 1) := by decide +kernel
theorem dL_same_908 : decode cL_same 908 = .ok (.if_icmp .eq 5, 3) := by decide +kernel
theorem dL_same_911 : decode cL_same 911 = .ok (.iconst 0, 1) := by decide +kernel
theorem dL_same_912 : decode cL_same 912 = .ok (.ireturn, 1) := by decide +kernel
theorem dL_same_913 : decode cL_same 913 = .ok (.iinc 16 1, 3) := by decide +kernel
theorem dL_same_916 : decode cL_same 916 = .ok (.goto (-110), 3) := by decide +kernel
theorem dL_same_919 : decode cL_same 919 = .ok (.iconst 0, 1) := by decide +kernel
theorem dL_same_920 : decode cL_same 920 = .ok (.istore 16, 2) := by decide +kernel
theorem dL_same_922 : decode cL_same 922 = .ok (.iload 16, 2) := by decide +kernel
theorem dL_same_924 : decode cL_same 924 = .ok (.aload_n 2, 1) := by decide +kernel
theorem dL_same_925 : decode cL_same 925 = .ok (.bipush 7, 2) := by decide +kernel
theorem dL_same_927 : decode cL_same 927 = .ok (.iaload, 1) := by decide +kernel
theorem dL_same_928 : decode cL_same 928 = .ok (.if_icmp .ge 105, 3) := by decide +kernel
theorem dL_same_931 : decode cL_same 931 = .ok (.aload_n 0, 1) := by decide +kernel
theorem dL_same_932 : decode cL_same 932 = .ok (.iload 16, 2) := by decide +kernel
theorem dL_same_934 : decode cL_same 934 = .ok (.iconst 0, 1) := by decide +kernel
theorem dL_same_935 : decode cL_same 935 = .ok (.invokevirtual 68, 3) := by decide +kernel
theorem dL_same_938 : decode cL_same 938 = .ok (.aload 6, 2) := by decide +kernel
theorem dL_same_940 : decode cL_same 940 = .ok (.iload 16, 2) := by decide +kernel
theorem dL_same_942 : decode cL_same 942 = .ok (.iaload, 1) := by decide +kernel
theorem dL_same_943 : decode cL_same 943 = .ok (.bipush 100, 2) := by decide +kernel
theorem dL_same_945 : decode cL_same 945 = .ok (.irem, 1) := by decide +kernel
theorem dL_same_946 : decode cL_same 946 = .ok (.if_icmp .ne 79, 3) := by decide +kernel
theorem dL_same_949 : decode cL_same 949 = .ok (.aload_n 0, 1) := by decide +kernel
theorem dL_same_950 : decode cL_same 950 = .ok (.iload 16, 2) := by decide +kernel
theorem dL_same_952 : decode cL_same 952 = .ok (.iconst 1, 1) := by decide +kernel
theorem dL_same_953 : decode cL_same 953 = .ok (.invokevirtual 68, 3) := by decide +kernel
theorem dL_same_956 : decode cL_same 956 = .ok (.aload 6, 2) := by decide +kernel
theorem dL_same_958 : decode cL_same 958 = .ok (.iload 16, 2) := by decide +kernel
theorem dL_same_960 : decode cL_same 960 = .ok (.iaload, 1) := by decide +kernel
theorem dL_same_961 : decode cL_same 961 = .ok (.bipush 100, 2) := by decide +kernel
theorem dL_same_963 : decode cL_same 963 = .ok (.idiv, 1) := by decide +kernel
theorem dL_same_964 : decode cL_same 964 = .ok (.bipush 100, 2) := by decide +kernel
theorem dL_same_966 : decode cL_same 966 = .ok (.irem, 1) := by decide +kernel
theorem dL_same_967 : decode cL_same 967 = .ok (.ifCond .ne 8, 3) := by decide +kernel
theorem dL_same_970 : decode cL_same 970 = .ok (.bipush (-6), 2) := by decide +kernel
theorem dL_same_972 : decode cL_same 972 = .ok (.goto 16, 3) := by decide +kernel
theorem dL_same_975 : decode cL_same 975 = .ok (.aload 6, 2) := by decide +kernel
theorem dL_same_977 : decode cL_same 977 = .ok (.iload 16, 2) := by decide +kernel
theorem dL_same_979 : decode cL_same 979 = .ok (.iaload, 1) := by decide +kernel
theorem dL_same_980 : decode cL_same 980 = .ok (.bipush 100, 2) := by decide +kernel
theorem dL_same_982 : decode cL_same 982 = .ok (.idiv, 1) := by decide +kernel
theorem dL_same_983 : decode cL_same 983 = .ok (.bipush 100, 2) := by decide +kernel
theorem dL_same_985 : decode cL_same 985 = .ok (.irem, 1) := by decide +kernel
theorem dL_same_986 : decode cL_same 986 = .ok (.iconst 1, 1) := by decide +kernel
theorem dL_same_987 : decode cL_same 987 = .ok (.isub, 1) := by decide +kernel
theorem dL_same_988 : decode cL_same 988 = .ok (.if_icmp .ne 37, 3) := by decide +kernel
theorem dL_same_991 : decode cL_same 991 = .ok (.aload_n 0, 1) := by decide +kernel
theorem dL_same_992 : decode cL_same 992 = .ok (.iload 16, 2) := by decide +kernel
theorem dL_same_994 : decode cL_same 994 = .ok (.iconst 2, 1) := by decide +kernel
theorem dL_same_995 : decode cL_same 995 = .ok (.invokevirtual 68, 3) := by decide +kernel
theorem dL_same_998 : decode cL_same 998 = .ok (.aload 6, 2) := by decide +kernel
theorem dL_same_1000 : decode cL_same 1000 = .ok (.iload 16, 2) := by decide +kernel
theorem dL_same_1002 : decode cL_same 1002 = .ok (.iaload, 1) := by decide +kernel
theorem dL_same_1003 : decode cL_same 1003 = .ok (.sipush 10000, 3) := by decide +kernel
theorem dL_same_1006 : decode cL_same 1006 = .ok (.idiv, 1) := by decide +kernel
theorem dL_same_1007 : decode cL_same 1007 = .ok (.if_icmp .ne 18, 3) := by decide +kernel
theorem dL_same_1010 : decode cL_same 1010 = .ok (.aload_n 0, 1) := by decide +kernel
theorem dL_same_1011 : decode cL_same 1011 = .ok (.iload 16, 2) := by decide +kernel
theorem dL_same_1013 : decode cL_same 1013 = .ok (.iconst 3, 1) := by decide +kernel
theorem dL_same_1014 : decode cL_same 1014 = .ok (.invokevirtual 68, 3) := by decide +kernel
theorem dL_same_1017 : decode cL_same 1017 = .ok (.aload 7, 2) := by decide +kernel
theorem dL_same_1019 : decode cL_same 1019 = .ok (.iload 16, 2) := by decide +kernel
theorem dL_same_1021 : decode cL_same 1021 = .ok (.iaload, 1) := by decide +kernel
theorem dL_same_1022 : decode cL_same 1022 = .ok (.if_icmp .eq 5, 3) := by decide +kernel
theorem dL_same_1025 : decode cL_same 1025 = .ok (.iconst 0, 1) := by decide +kernel
theorem dL_same_1026 : decode cL_same 1026 = .ok (.ireturn, 1) := by decide +kernel
theorem dL_same_1027 : decode cL_same 1027 = .ok (.iinc 16 1, 3) := by decide +kernel
theorem dL_same_1030 : decode cL_same 1030 = .ok (.goto (-108), 3) := by decide +kernel
theorem dL_same_1033 : decode cL_same 1033 = .ok (.aload_n 0, 1) := by decide +kernel
theorem dL_same_1034 : decode cL_same 1034 = .ok (.aload_n 2, 1) := by decide +kernel
theorem dL_same_1035 : decode cL_same 1035 = .ok (.bipush 7, 2) := by decide +kernel
theorem dL_same_1037 : decode cL_same 1037 = .ok (.iaload, 1) := by decide +kernel
theorem dL_same_1038 : decode cL_same 1038 = .ok (.iconst 0, 1) := by decide +kernel
theorem dL_same_1039 : decode cL_same 1039 = .ok (.invokevirtual 68, 3) := by decide +kernel
theorem dL_same_1042 : decode cL_same 1042 = .ok (.iconst (-1), 1) := by decide +kernel
theorem dL_same_1043 : decode cL_same 1043 = .ok (.if_icmp .ne 122, 3) := by decide +kernel
theorem dL_same_1046 : decode cL_same 1046 = .ok (.aload_n 0, 1) := by decide +kernel
theorem dL_same_1047 : decode cL_same 1047 = .ok (.iconst 0, 1) := by decide +kernel
theorem dL_same_1048 : decode cL_same 1048 = .ok (.invokevirtual 71, 3) := by decide +kernel
theorem dL_same_1051 : decode cL_same 1051 = .ok (.aload_n 2, 1) := by decide +kernel
theorem dL_same_1052 : decode cL_same 1052 = .ok (.iconst 0, 1) := by decide +kernel
theorem dL_same_1053 : decode cL_same 1053 = .ok (.iaload, 1) := by decide +kernel
theorem dL_same_1054 : decode cL_same 1054 = .ok (.if_icmp .ne 111, 3) := by decide +kernel
theorem dL_same_1057 : decode cL_same 1057 = .ok (.aload_n 0, 1) := by decide +kernel
theorem dL_same_1058 : decode cL_same 1058 = .ok (.iconst 1, 1) := by decide +kernel
theorem dL_same_1059 : decode cL_same 1059 = .ok (.invokevirtual 71, 3) := by decide +kernel
theorem dL_same_1062 : decode cL_same 1062 = .ok (.aload_n 2, 1) := by decide +kernel
theorem dL_same_1063 : decode cL_same 1063 = .ok (.iconst 3, 1) := by decide +kernel
theorem dL_same_1064 : decode cL_same 1064 = .ok (.iaload, 1) := by decide +kernel
theorem dL_same_1065 : decode cL_same 1065 = .ok (.if_icmp .ne 100, 3) := by decide +kernel
theorem dL_same_1068 : decode cL_same 1068 = .ok (.aload_n 0, 1) := by decide +kernel
theorem dL_same_1069 : decode cL_same 1069 = .ok (.iconst 2, 1) := by decide +kernel
theorem dL_same_1070 : decode cL_same 1070 = .ok (.invokevirtual 71, 3) := by decide +kernel
theorem dL_same_1073 : decode cL_same 1073 = .ok (.aload_n 2, 1) := by decide +kernel
theorem dL_same_1074 : decode cL_same 1074 = .ok (.iconst 1, 1) := by decide +kernel
theorem dL_same_1075 : decode cL_same 1075 = .ok (.iaload, 1) := by decide +kernel
theorem dL_same_1076 : decode cL_same 1076 = .ok (.if_icmp .ne 89, 3) := by decide +kernel
theorem dL_same_1079 : decode cL_same 1079 = .ok (.aload_n 0, 1) := by decide +kernel
theorem dL_same_1080 : decode cL_same 1080 = .ok (.iconst 3, 1) := by decide +kernel
theorem dL_same_1081 : decode cL_same 1081 = .ok (.invokevirtual 71, 3) := by decide +kernel
theorem dL_same_1084 : decode cL_same 1084 = .ok (.aload_n 2, 1) := by decide +kernel
theorem dL_same_1085 : decode cL_same 1085 = .ok (.iconst 2, 1) := by decide +kernel
theorem dL_same_1086 : decode cL_same 1086 = .ok (.iaload, 1) := by decide +kernel
theorem dL_same_1087 : decode cL_same 1087 = .ok (.if_icmp .ne 78, 3) := by decide +kernel
theorem dL_same_1090 : decode cL_same 1090 = .ok (.aload_n 0, 1) := by decide +kernel
theorem dL_same_1091 : decode cL_same 1091 = .ok (.iconst 4, 1) := by decide +kernel
theorem dL_same_1092 : decode cL_same 1092 = .ok (.invokevirtual 71, 3) := by decide +kernel
theorem dL_same_1095 : decode cL_same 1095 = .ok (.iload 14, 2) := by decide +kernel
theorem dL_same_1097 : decode cL_same 1097 = .ok (.if_icmp .ne 68, 3) := by decide +kernel
theorem dL_same_1100 : decode cL_same 1100 = .ok (.aload_n 0, 1) := by decide +kernel
theorem dL_same_1101 : decode cL_same 1101 = .ok (.iconst 5, 1) := by decide +kernel
theorem dL_same_1102 : decode cL_same 1102 = .ok (.invokevirtual 71, 3) := by decide +kernel
theorem dL_same_1105 : decode cL_same 1105 = .ok (.aload_n 2, 1) := by decide +kernel
theorem dL_same_1106 : decode cL_same 1106 = .ok (.aload_n 3, 1) := by decide +kernel
theorem dL_same_1107 : decode cL_same 1107 = .ok (.aload 5, 2) := by decide +kernel
theorem dL_same_1109 : decode cL_same 1109 = .ok (.invokestatic 25, 3) := by decide +kernel
theorem dL_same_1112 : decode cL_same 1112 = .ok (.if_icmp .ne 53, 3) := by decide +kernel
theorem dL_same_1115 : decode cL_same 1115 = .ok (.aload_n 0, 1) := by decide +kernel
theorem dL_same_1116 : decode cL_same 1116 = .ok (.bipush 6, 2) := by decide +kernel
theorem dL_same_1118 : decode cL_same 1118 = .ok (.invokevirtual 71, 3) := by decide +kernel
theorem dL_same_1121 : decode cL_same 1121 = .ok (.aload_n 2, 1) := by decide +kernel
theorem dL_same_1122 : decode cL_same 1122 = .ok (.iconst 5, 1) := by decide +kernel
theorem dL_same_1123 : decode cL_same 1123 = .ok (.iaload, 1) := by decide +kernel
theorem dL_same_1124 : decode cL_same 1124 = .ok (.if_icmp .ne 41, 3) := by decide +kernel
theorem dL_same_1127 : decode cL_same 1127 = .ok (.aload_n 0, 1) := by decide +kernel
theorem dL_same_1128 : decode cL_same 1128 = .ok (.bipush 7, 2) := by decide +kernel
theorem dL_same_1130 : decode cL_same 1130 = .ok (.invokevirtual 71, 3) := by decide +kernel
theorem dL_same_1133 : decode cL_same 1133 = .ok (.aload_n 2, 1) := by decide +kernel
theorem dL_same_1134 : decode cL_same 1134 = .ok (.bipush 6, 2) := by decide +kernel
theorem dL_same_1136 : decode cL_same 1136 = .ok (.iaload, 1) := by decide +kernel
theorem dL_same_1137 : decode cL_same 1137 = .ok (.if_icmp .ne 28, 3) := by decide +kernel
theorem dL_same_1140 : decode cL_same 1140 = .ok (.aload_n 0, 1) := by decide +kernel
theorem dL_same_1141 : decode cL_same 1141 = .ok (.bipush 8, 2) := by decide +kernel
theorem dL_same_1143 : decode cL_same 1143 = .ok (.invokevirtual 71, 3) := by decide +kernel
theorem dL_same_1146 : decode cL_same 1146 = .ok (.aload_n 2, 1) := by decide +kernel
theorem dL_same_1147 : decode cL_same 1147 = .ok (.iconst 4, 1) := by decide +kernel
theorem dL_same_1148 : decode cL_same 1148 = .ok (.iaload, 1) := by decide +kernel
theorem dL_same_1149 : decode cL_same 1149 = .ok (.if_icmp .ne 16, 3) := by decide +kernel
theorem dL_same_1152 : decode cL_same 1152 = .ok (.aload_n 0, 1) := by decide +kernel
theorem dL_same_1153 : decode cL_same 1153 = .ok (.invokevirtual 74, 3) := by decide +kernel
theorem dL_same_1156 : decode cL_same 1156 = .ok (.iload 15, 2) := by decide +kernel
theorem dL_same_1158 : decode cL_same 1158 = .ok (.if_icmp .ne 7, 3) := by decide +kernel
theorem dL_same_1161 : decode cL_same 1161 = .ok (.iconst 1, 1) := by decide +kernel
theorem dL_same_1162 : decode cL_same 1162 = .ok (.goto 4, 3) := by decide +kernel
theorem dL_same_1165 : decode cL_same 1165 = .ok (.iconst 0, 1) := by decide +kernel
theorem dL_same_1166 : decode cL_same 1166 = .ok (.ireturn, 1) := by decide +kernel
