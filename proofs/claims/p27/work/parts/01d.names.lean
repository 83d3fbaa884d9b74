theorem dJ6_bitCount_0f7a4_0 : decode cJ6_bitCount_0f7a4 0 = .ok (.iload_n 0, 1) := by decide +kernel
theorem dJ6_bitCount_0f7a4_1 : decode cJ6_bitCount_0f7a4 1 = .ok (.iload_n 0, 1) := by decide +kernel
theorem dJ6_bitCount_0f7a4_2 : decode cJ6_bitCount_0f7a4 2 = .ok (.iconst 1, 1) := by decide +kernel
theorem dJ6_bitCount_0f7a4_3 : decode cJ6_bitCount_0f7a4 3 = .ok (.iushr, 1) := by decide +kernel
theorem dJ6_bitCount_0f7a4_4 : decode cJ6_bitCount_0f7a4 4 = .ok (.ldc_w 265, 3) := by decide +kernel
theorem dJ6_bitCount_0f7a4_7 : decode cJ6_bitCount_0f7a4 7 = .ok (.iand, 1) := by decide +kernel
theorem dJ6_bitCount_0f7a4_8 : decode cJ6_bitCount_0f7a4 8 = .ok (.isub, 1) := by decide +kernel
theorem dJ6_bitCount_0f7a4_9 : decode cJ6_bitCount_0f7a4 9 = .ok (.istore_n 0, 1) := by decide +kernel
theorem dJ6_bitCount_0f7a4_10 : decode cJ6_bitCount_0f7a4 10 = .ok (.iload_n 0, 1) := by decide +kernel
theorem dJ6_bitCount_0f7a4_11 : decode cJ6_bitCount_0f7a4 11 = .ok (.ldc_w 266, 3) := by decide +kernel
theorem dJ6_bitCount_0f7a4_14 : decode cJ6_bitCount_0f7a4 14 = .ok (.iand, 1) := by decide +kernel
theorem dJ6_bitCount_0f7a4_15 : decode cJ6_bitCount_0f7a4 15 = .ok (.iload_n 0, 1) := by decide +kernel
theorem dJ6_bitCount_0f7a4_16 : decode cJ6_bitCount_0f7a4 16 = .ok (.iconst 2, 1) := by decide +kernel
theorem dJ6_bitCount_0f7a4_17 : decode cJ6_bitCount_0f7a4 17 = .ok (.iushr, 1) := by decide +kernel
theorem dJ6_bitCount_0f7a4_18 : decode cJ6_bitCount_0f7a4 18 = .ok (.ldc_w 266, 3) := by decide +kernel
theorem dJ6_bitCount_0f7a4_21 : decode cJ6_bitCount_0f7a4 21 = .ok (.iand, 1) := by decide +kernel
theorem dJ6_bitCount_0f7a4_22 : decode cJ6_bitCount_0f7a4 22 = .ok (.iadd, 1) := by decide +kernel
theorem dJ6_bitCount_0f7a4_23 : decode cJ6_bitCount_0f7a4 23 = .ok (.istore_n 0, 1) := by decide +kernel
theorem dJ6_bitCount_0f7a4_24 : decode cJ6_bitCount_0f7a4 24 = .ok (.iload_n 0, 1) := by decide +kernel
theorem dJ6_bitCount_0f7a4_25 : decode cJ6_bitCount_0f7a4 25 = .ok (.iload_n 0, 1) := by decide +kernel
theorem dJ6_bitCount_0f7a4_26 : decode cJ6_bitCount_0f7a4 26 = .ok (.iconst 4, 1) := by decide +kernel
theorem dJ6_bitCount_0f7a4_27 : decode cJ6_bitCount_0f7a4 27 = .ok (.iushr, 1) := by decide +kernel
theorem dJ6_bitCount_0f7a4_28 : decode cJ6_bitCount_0f7a4 28 = .ok (.iadd, 1) := by decide +kernel
theorem dJ6_bitCount_0f7a4_29 : decode cJ6_bitCount_0f7a4 29 = .ok (.ldc_w 267, 3) := by decide +kernel
theorem dJ6_bitCount_0f7a4_32 : decode cJ6_bitCount_0f7a4 32 = .ok (.iand, 1) := by decide +kernel
theorem dJ6_bitCount_0f7a4_33 : decode cJ6_bitCount_0f7a4 33 = .ok (.istore_n 0, 1) := by decide +kernel
theorem dJ6_bitCount_0f7a4_34 : decode cJ6_bitCount_0f7a4 34 = .ok (.iload_n 0, 1) := by decide +kernel
theorem dJ6_bitCount_0f7a4_35 : decode cJ6_bitCount_0f7a4 35 = .ok (.iload_n 0, 1) := by decide +kernel
theorem dJ6_bitCount_0f7a4_36 : decode cJ6_bitCount_0f7a4 36 = .ok (.bipush 8, 2) := by decide +kernel
theorem dJ6_bitCount_0f7a4_38 : decode cJ6_bitCount_0f7a4 38 = .ok (.iushr, 1) := by decide +kernel
theorem dJ6_bitCount_0f7a4_39 : decode cJ6_bitCount_0f7a4 39 = .ok (.iadd, 1) := by decide +kernel
theorem dJ6_bitCount_0f7a4_40 : decode cJ6_bitCount_0f7a4 40 = .ok (.istore_n 0, 1) := by decide +kernel
theorem dJ6_bitCount_0f7a4_41 : decode cJ6_bitCount_0f7a4 41 = .ok (.iload_n 0, 1) := by decide +kernel
theorem dJ6_bitCount_0f7a4_42 : decode cJ6_bitCount_0f7a4 42 = .ok (.iload_n 0, 1) := by decide +kernel
theorem dJ6_bitCount_0f7a4_43 : decode cJ6_bitCount_0f7a4 43 = .ok (.bipush 16, 2) := by decide +kernel
theorem dJ6_bitCount_0f7a4_45 : decode cJ6_bitCount_0f7a4 45 = .ok (.iushr, 1) := by decide +kernel
theorem dJ6_bitCount_0f7a4_46 : decode cJ6_bitCount_0f7a4 46 = .ok (.iadd, 1) := by decide +kernel
theorem dJ6_bitCount_0f7a4_47 : decode cJ6_bitCount_0f7a4 47 = .ok (.istore_n 0, 1) := by decide +kernel
theorem dJ6_bitCount_0f7a4_48 : decode cJ6_bitCount_0f7a4 48 = .ok (.iload_n 0, 1) := by decide +kernel
theorem dJ6_bitCount_0f7a4_49 : decode cJ6_bitCount_0f7a4 49 = .ok (.bipush 63, 2) := by decide +kernel
theorem dJ6_bitCount_0f7a4_51 : decode cJ6_bitCount_0f7a4 51 = .ok (.iand, 1) := by decide +kernel
theorem dJ6_bitCount_0f7a4_52 : decode cJ6_bitCount_0f7a4 52 = .ok (.ireturn, 1) := by decide +kernel
theorem dJ9_max_7cf53_0 : decode cJ9_max_7cf53 0 = .ok (.iload_n 0, 1) := by decide +kernel
theorem dJ9_max_7cf53_1 : decode cJ9_max_7cf53 1 = .ok (.iload_n 1, 1) := by decide +kernel
theorem dJ9_max_7cf53_2 : decode cJ9_max_7cf53 2 = .ok (.if_icmp .lt 7, 3) := by decide +kernel
theorem dJ9_max_7cf53_5 : decode cJ9_max_7cf53 5 = .ok (.iload_n 0, 1) := by decide +kernel
theorem dJ9_max_7cf53_6 : decode cJ9_max_7cf53 6 = .ok (.goto 4, 3) := by decide +kernel
theorem dJ9_max_7cf53_9 : decode cJ9_max_7cf53 9 = .ok (.iload_n 1, 1) := by decide +kernel
theorem dJ9_max_7cf53_10 : decode cJ9_max_7cf53 10 = .ok (.ireturn, 1) := by decide +kernel
theorem dJ9_min_7cf53_0 : decode cJ9_min_7cf53 0 = .ok (.iload_n 0, 1) := by decide +kernel
theorem dJ9_min_7cf53_1 : decode cJ9_min_7cf53 1 = .ok (.iload_n 1, 1) := by decide +kernel
theorem dJ9_min_7cf53_2 : decode cJ9_min_7cf53 2 = .ok (.if_icmp .gt 7, 3) := by decide +kernel
theorem dJ9_min_7cf53_5 : decode cJ9_min_7cf53 5 = .ok (.iload_n 0, 1) := by decide +kernel
theorem dJ9_min_7cf53_6 : decode cJ9_min_7cf53 6 = .ok (.goto 4, 3) := by decide +kernel
theorem dJ9_min_7cf53_9 : decode cJ9_min_7cf53 9 = .ok (.iload_n 1, 1) := by decide +kernel
theorem dJ9_min_7cf53_10 : decode cJ9_min_7cf53 10 = .ok (.ireturn, 1) := by decide +kernel
theorem dL_cell_0 : decode cL_cell 0 = .ok (.iload_n 1, 1) := by decide +kernel
theorem dL_cell_1 : decode cL_cell 1 = .ok (.aload_n 0, 1) := by decide +kernel
theorem dL_cell_2 : decode cL_cell 2 = .ok (.arraylength, 1) := by decide +kernel
theorem dL_cell_3 : decode cL_cell 3 = .ok (.if_icmp .ge 9, 3) := by decide +kernel
theorem dL_cell_6 : decode cL_cell 6 = .ok (.aload_n 0, 1) := by decide +kernel
theorem dL_cell_7 : decode cL_cell 7 = .ok (.iload_n 1, 1) := by decide +kernel
theorem dL_cell_8 : decode cL_cell 8 = .ok (.iaload, 1) := by decide +kernel
theorem dL_cell_9 : decode cL_cell 9 = .ok (.goto 12, 3) := by decide +kernel
theorem dL_cell_12 : decode cL_cell 12 = .ok (.ldc 7, 2) := by decide +kernel
theorem dL_cell_14 : decode cL_cell 14 = .ok (.iload_n 1, 1) := by decide +kernel
theorem dL_cell_15 : decode cL_cell 15 = .ok (.iconst 1, 1) := by decide +kernel
theorem dL_cell_16 : decode cL_cell 16 = .ok (.iadd, 1) := by decide +kernel
theorem dL_cell_17 : decode cL_cell 17 = .ok (.imul, 1) := by decide +kernel
theorem dL_cell_18 : decode cL_cell 18 = .ok (.ldc 8, 2) := by decide +kernel
theorem dL_cell_20 : decode cL_cell 20 = .ok (.iadd, 1) := by decide +kernel
theorem dL_cell_21 : decode cL_cell 21 = .ok (.ireturn, 1) := by decide +kernel
theorem dL_low_0 : decode cL_low 0 = .ok (.iload_n 0, 1) := by decide +kernel
theorem dL_low_1 : decode cL_low 1 = .ok (.ldc 9, 2) := by decide +kernel
theorem dL_low_3 : decode cL_low 3 = .ok (.iand, 1) := by decide +kernel
theorem dL_low_4 : decode cL_low 4 = .ok (.iload_n 1, 1) := by decide +kernel
theorem dL_low_5 : decode cL_low 5 = .ok (.irem, 1) := by decide +kernel
theorem dL_low_6 : decode cL_low 6 = .ok (.ireturn, 1) := by decide +kernel
theorem dL_key_0 : decode cL_key 0 = .ok (.aload_n 3, 1) := by decide +kernel
theorem dL_key_1 : decode cL_key 1 = .ok (.iconst 4, 1) := by decide +kernel
theorem dL_key_2 : decode cL_key 2 = .ok (.iload_n 0, 1) := by decide +kernel
theorem dL_key_3 : decode cL_key 3 = .ok (.imul, 1) := by decide +kernel
theorem dL_key_4 : decode cL_key 4 = .ok (.iconst 1, 1) := by decide +kernel
theorem dL_key_5 : decode cL_key 5 = .ok (.iadd, 1) := by decide +kernel
theorem dL_key_6 : decode cL_key 6 = .ok (.iaload, 1) := by decide +kernel
theorem dL_key_7 : decode cL_key 7 = .ok (.aload 4, 2) := by decide +kernel
theorem dL_key_9 : decode cL_key 9 = .ok (.iconst 4, 1) := by decide +kernel
theorem dL_key_10 : decode cL_key 10 = .ok (.iload_n 2, 1) := by decide +kernel
theorem dL_key_11 : decode cL_key 11 = .ok (.imul, 1) := by decide +kernel
theorem dL_key_12 : decode cL_key 12 = .ok (.iconst 1, 1) := by decide +kernel
theorem dL_key_13 : decode cL_key 13 = .ok (.iadd, 1) := by decide +kernel
theorem dL_key_14 : decode cL_key 14 = .ok (.iaload, 1) := by decide +kernel
theorem dL_key_15 : decode cL_key 15 = .ok (.isub, 1) := by decide +kernel
theorem dL_key_16 : decode cL_key 16 = .ok (.istore 5, 2) := by decide +kernel
theorem dL_key_18 : decode cL_key 18 = .ok (.aload_n 3, 1) := by decide +kernel
theorem dL_key_19 : decode cL_key 19 = .ok (.iconst 4, 1) := by decide +kernel
theorem dL_key_20 : decode cL_key 20 = .ok (.iload_n 0, 1) := by decide +kernel
theorem dL_key_21 : decode cL_key 21 = .ok (.imul, 1) := by decide +kernel
theorem dL_key_22 : decode cL_key 22 = .ok (.iaload, 1) := by decide +kernel
theorem dL_key_23 : decode cL_key 23 = .ok (.aload 4, 2) := by decide +kernel
theorem dL_key_25 : decode cL_key 25 = .ok (.iconst 4, 1) := by decide +kernel
theorem dL_key_26 : decode cL_key 26 = .ok (.iload_n 2, 1) := by decide +kernel
theorem dL_key_27 : decode cL_key 27 = .ok (.imul, 1) := by decide +kernel
theorem dL_key_28 : decode cL_key 28 = .ok (.iaload, 1) := by decide +kernel
theorem dL_key_29 : decode cL_key 29 = .ok (.isub, 1) := by decide +kernel
theorem dL_key_30 : decode cL_key 30 = .ok (.istore 6, 2) := by decide +kernel
theorem dL_key_32 : decode cL_key 32 = .ok (.iload_n 1, 1) := by decide +kernel
theorem dL_key_33 : decode cL_key 33 = .ok (.ifCond .lt 83, 3) := by decide +kernel
theorem dL_key_36 : decode cL_key 36 = .ok (.aload_n 3, 1) := by decide +kernel
theorem dL_key_37 : decode cL_key 37 = .ok (.iconst 4, 1) := by decide +kernel
theorem dL_key_38 : decode cL_key 38 = .ok (.iload_n 1, 1) := by decide +kernel
theorem dL_key_39 : decode cL_key 39 = .ok (.imul, 1) := by decide +kernel
theorem dL_key_40 : decode cL_key 40 = .ok (.iconst 1, 1) := by decide +kernel
theorem dL_key_41 : decode cL_key 41 = .ok (.iadd, 1) := by decide +kernel
theorem dL_key_42 : decode cL_key 42 = .ok (.iaload, 1) := by decide +kernel
theorem dL_key_43 : decode cL_key 43 = .ok (.aload 4, 2) := by decide +kernel
theorem dL_key_45 : decode cL_key 45 = .ok (.iconst 4, 1) := by decide +kernel
theorem dL_key_46 : decode cL_key 46 = .ok (.iload_n 2, 1) := by decide +kernel
theorem dL_key_47 : decode cL_key 47 = .ok (.imul, 1) := by decide +kernel
theorem dL_key_48 : decode cL_key 48 = .ok (.iconst 1, 1) := by decide +kernel
theorem dL_key_49 : decode cL_key 49 = .ok (.iadd, 1) := by decide +kernel
theorem dL_key_50 : decode cL_key 50 = .ok (.iaload, 1) := by decide +kernel
theorem dL_key_51 : decode cL_key 51 = .ok (.isub, 1) := by decide +kernel
theorem dL_key_52 : decode cL_key 52 = .ok (.iload 5, 2) := by decide +kernel
theorem dL_key_54 : decode cL_key 54 = .ok (.if_icmp .ge 22, 3) := by decide +kernel
theorem dL_key_57 : decode cL_key 57 = .ok (.aload_n 3, 1) := by decide +kernel
theorem dL_key_58 : decode cL_key 58 = .ok (.iconst 4, 1) := by decide +kernel
theorem dL_key_59 : decode cL_key 59 = .ok (.iload_n 1, 1) := by decide +kernel
theorem dL_key_60 : decode cL_key 60 = .ok (.imul, 1) := by decide +kernel
theorem dL_key_61 : decode cL_key 61 = .ok (.iconst 1, 1) := by decide +kernel
theorem dL_key_62 : decode cL_key 62 = .ok (.iadd, 1) := by decide +kernel
theorem dL_key_63 : decode cL_key 63 = .ok (.iaload, 1) := by decide +kernel
theorem dL_key_64 : decode cL_key 64 = .ok (.aload 4, 2) := by decide +kernel
theorem dL_key_66 : decode cL_key 66 = .ok (.iconst 4, 1) := by decide +kernel
theorem dL_key_67 : decode cL_key 67 = .ok (.iload_n 2, 1) := by decide +kernel
theorem dL_key_68 : decode cL_key 68 = .ok (.imul, 1) := by decide +kernel
theorem dL_key_69 : decode cL_key 69 = .ok (.iconst 1, 1) := by decide +kernel
theorem dL_key_70 : decode cL_key 70 = .ok (.iadd, 1) := by decide +kernel
theorem dL_key_71 : decode cL_key 71 = .ok (.iaload, 1) := by decide +kernel
theorem dL_key_72 : decode cL_key 72 = .ok (.isub, 1) := by decide +kernel
theorem dL_key_73 : decode cL_key 73 = .ok (.goto 5, 3) := by decide +kernel
theorem dL_key_76 : decode cL_key 76 = .ok (.iload 5, 2) := by decide +kernel
theorem dL_key_78 : decode cL_key 78 = .ok (.istore 5, 2) := by decide +kernel
theorem dL_key_80 : decode cL_key 80 = .ok (.aload_n 3, 1) := by decide +kernel
theorem dL_key_81 : decode cL_key 81 = .ok (.iconst 4, 1) := by decide +kernel
theorem dL_key_82 : decode cL_key 82 = .ok (.iload_n 1, 1) := by decide +kernel
theorem dL_key_83 : decode cL_key 83 = .ok (.imul, 1) := by decide +kernel
theorem dL_key_84 : decode cL_key 84 = .ok (.iaload, 1) := by decide +kernel
theorem dL_key_85 : decode cL_key 85 = .ok (.aload 4, 2) := by decide +kernel
theorem dL_key_87 : decode cL_key 87 = .ok (.iconst 4, 1) := by decide +kernel
theorem dL_key_88 : decode cL_key 88 = .ok (.iload_n 2, 1) := by decide +kernel
theorem dL_key_89 : decode cL_key 89 = .ok (.imul, 1) := by decide +kernel
theorem dL_key_90 : decode cL_key 90 = .ok (.iaload, 1) := by decide +kernel
theorem dL_key_91 : decode cL_key 91 = .ok (.isub, 1) := by decide +kernel
theorem dL_key_92 : decode cL_key 92 = .ok (.iload 6, 2) := by decide +kernel
theorem dL_key_94 : decode cL_key 94 = .ok (.if_icmp .le 18, 3) := by decide +kernel
theorem dL_key_97 : decode cL_key 97 = .ok (.aload_n 3, 1) := by decide +kernel
theorem dL_key_98 : decode cL_key 98 = .ok (.iconst 4, 1) := by decide +kernel
theorem dL_key_99 : decode cL_key 99 = .ok (.iload_n 1, 1) := by decide +kernel
theorem dL_key_100 : decode cL_key 100 = .ok (.imul, 1) := by decide +kernel
theorem dL_key_101 : decode cL_key 101 = .ok (.iaload, 1) := by decide +kernel
theorem dL_key_102 : decode cL_key 102 = .ok (.aload 4, 2) := by decide +kernel
theorem dL_key_104 : decode cL_key 104 = .ok (.iconst 4, 1) := by decide +kernel
theorem dL_key_105 : decode cL_key 105 = .ok (.iload_n 2, 1) := by decide +kernel
theorem dL_key_106 : decode cL_key 106 = .ok (.imul, 1) := by decide +kernel
theorem dL_key_107 : decode cL_key 107 = .ok (.iaload, 1) := by decide +kernel
theorem dL_key_108 : decode cL_key 108 = .ok (.isub, 1) := by decide +kernel
theorem dL_key_109 : decode cL_key 109 = .ok (.goto 5, 3) := by decide +kernel
theorem dL_key_112 : decode cL_key 112 = .ok (.iload 6, 2) := by decide +kernel
theorem dL_key_114 : decode cL_key 114 = .ok (.istore 6, 2) := by decide +kernel
theorem dL_key_116 : decode cL_key 116 = .ok (.iload 6, 2) := by decide +kernel
theorem dL_key_118 : decode cL_key 118 = .ok (.iload 5, 2) := by decide +kernel
theorem dL_key_120 : decode cL_key 120 = .ok (.if_icmp .gt 17, 3) := by decide +kernel
theorem dL_key_123 : decode cL_key 123 = .ok (.iload 6, 2) := by decide +kernel
theorem dL_key_125 : decode cL_key 125 = .ok (.bipush 6, 2) := by decide +kernel
theorem dL_key_127 : decode cL_key 127 = .ok (.if_icmp .gt 10, 3) := by decide +kernel
theorem dL_key_130 : decode cL_key 130 = .ok (.iload 5, 2) := by decide +kernel
theorem dL_key_132 : decode cL_key 132 = .ok (.bipush (-6), 2) := by decide +kernel
theorem dL_key_134 : decode cL_key 134 = .ok (.if_icmp .ge 6, 3) := by decide +kernel
theorem dL_key_137 : decode cL_key 137 = .ok (.bipush (-6), 2) := by decide +kernel
theorem dL_key_139 : decode cL_key 139 = .ok (.ireturn, 1) := by decide +kernel
theorem dL_key_140 : decode cL_key 140 = .ok (.bipush 10, 2) := by decide +kernel
theorem dL_key_142 : decode cL_key 142 = .ok (.iload 6, 2) := by decide +kernel
theorem dL_key_144 : decode cL_key 144 = .ok (.ifCond .gt 12, 3) := by decide +kernel
theorem dL_key_147 : decode cL_key 147 = .ok (.iload 5, 2) := by decide +kernel
theorem dL_key_149 : decode cL_key 149 = .ok (.ifCond .lt 7, 3) := by decide +kernel
theorem dL_key_152 : decode cL_key 152 = .ok (.iconst 0, 1) := by decide +kernel
theorem dL_key_153 : decode cL_key 153 = .ok (.goto 15, 3) := by decide +kernel
theorem dL_key_156 : decode cL_key 156 = .ok (.iload 6, 2) := by decide +kernel
theorem dL_key_158 : decode cL_key 158 = .ok (.ifCond .le 8, 3) := by decide +kernel
theorem dL_key_161 : decode cL_key 161 = .ok (.iload 6, 2) := by decide +kernel
theorem dL_key_163 : decode cL_key 163 = .ok (.goto 5, 3) := by decide +kernel
theorem dL_key_166 : decode cL_key 166 = .ok (.iload 5, 2) := by decide +kernel
theorem dL_key_168 : decode cL_key 168 = .ok (.iadd, 1) := by decide +kernel
theorem dL_key_169 : decode cL_key 169 = .ok (.ireturn, 1) := by decide +kernel
theorem dL_set_0 : decode cL_set 0 = .ok (.iload_n 0, 1) := by decide +kernel
theorem dL_set_1 : decode cL_set 1 = .ok (.bipush 100, 2) := by decide +kernel
theorem dL_set_3 : decode cL_set 3 = .ok (.idiv, 1) := by decide +kernel
theorem dL_set_4 : decode cL_set 4 = .ok (.bipush 100, 2) := by decide +kernel
theorem dL_set_6 : decode cL_set 6 = .ok (.irem, 1) := by decide +kernel
theorem dL_set_7 : decode cL_set 7 = .ok (.iconst 1, 1) := by decide +kernel
theorem dL_set_8 : decode cL_set 8 = .ok (.isub, 1) := by decide +kernel
theorem dL_set_9 : decode cL_set 9 = .ok (.istore_n 1, 1) := by decide +kernel
theorem dL_set_10 : decode cL_set 10 = .ok (.iconst 1, 1) := by decide +kernel
theorem dL_set_11 : decode cL_set 11 = .ok (.iload_n 0, 1) := by decide +kernel
theorem dL_set_12 : decode cL_set 12 = .ok (.bipush 100, 2) := by decide +kernel
theorem dL_set_14 : decode cL_set 14 = .ok (.irem, 1) := by decide +kernel
theorem dL_set_15 : decode cL_set 15 = .ok (.ishl, 1) := by decide +kernel
theorem dL_set_16 : decode cL_set 16 = .ok (.iload_n 1, 1) := by decide +kernel
theorem dL_set_17 : decode cL_set 17 = .ok (.ifCond .ge 7, 3) := by decide +kernel
theorem dL_set_20 : decode cL_set 20 = .ok (.iconst 0, 1) := by decide +kernel
theorem dL_set_21 : decode cL_set 21 = .ok (.goto 6, 3) := by decide +kernel
theorem dL_set_24 : decode cL_set 24 = .ok (.iconst 1, 1) := by decide +kernel
theorem dL_set_25 : decode cL_set 25 = .ok (.iload_n 1, 1) := by decide +kernel
theorem dL_set_26 : decode cL_set 26 = .ok (.ishl, 1) := by decide +kernel
theorem dL_set_27 : decode cL_set 27 = .ok (.ior, 1) := by decide +kernel
theorem dL_set_28 : decode cL_set 28 = .ok (.ireturn, 1) := by decide +kernel
theorem dL_turns_0 : decode cL_turns 0 = .ok (.aload_n 1, 1) := by decide +kernel
theorem dL_turns_1 : decode cL_turns 1 = .ok (.iconst 4, 1) := by decide +kernel
theorem dL_turns_2 : decode cL_turns 2 = .ok (.iload_n 0, 1) := by decide +kernel
theorem dL_turns_3 : decode cL_turns 3 = .ok (.bipush 100, 2) := by decide +kernel
theorem dL_turns_5 : decode cL_turns 5 = .ok (.irem, 1) := by decide +kernel
theorem dL_turns_6 : decode cL_turns 6 = .ok (.imul, 1) := by decide +kernel
theorem dL_turns_7 : decode cL_turns 7 = .ok (.iconst 2, 1) := by decide +kernel
theorem dL_turns_8 : decode cL_turns 8 = .ok (.iadd, 1) := by decide +kernel
theorem dL_turns_9 : decode cL_turns 9 = .ok (.iaload, 1) := by decide +kernel
theorem dL_turns_10 : decode cL_turns 10 = .ok (.istore_n 2, 1) := by decide +kernel
theorem dL_turns_11 : decode cL_turns 11 = .ok (.iload_n 0, 1) := by decide +kernel
theorem dL_turns_12 : decode cL_turns 12 = .ok (.bipush 100, 2) := by decide +kernel
theorem dL_turns_14 : decode cL_turns 14 = .ok (.idiv, 1) := by decide +kernel
theorem dL_turns_15 : decode cL_turns 15 = .ok (.bipush 100, 2) := by decide +kernel
theorem dL_turns_17 : decode cL_turns 17 = .ok (.irem, 1) := by decide +kernel
theorem dL_turns_18 : decode cL_turns 18 = .ok (.iconst 1, 1) := by decide +kernel
theorem dL_turns_19 : decode cL_turns 19 = .ok (.isub, 1) := by decide +kernel
theorem dL_turns_20 : decode cL_turns 20 = .ok (.istore_n 3, 1) := by decide +kernel
theorem dL_turns_21 : decode cL_turns 21 = .ok (.iload_n 3, 1) := by decide +kernel
theorem dL_turns_22 : decode cL_turns 22 = .ok (.ifCond .lt 24, 3) := by decide +kernel
theorem dL_turns_25 : decode cL_turns 25 = .ok (.aload_n 1, 1) := by decide +kernel
theorem dL_turns_26 : decode cL_turns 26 = .ok (.iconst 4, 1) := by decide +kernel
theorem dL_turns_27 : decode cL_turns 27 = .ok (.iload_n 3, 1) := by decide +kernel
theorem dL_turns_28 : decode cL_turns 28 = .ok (.imul, 1) := by decide +kernel
theorem dL_turns_29 : decode cL_turns 29 = .ok (.iconst 2, 1) := by decide +kernel
theorem dL_turns_30 : decode cL_turns 30 = .ok (.iadd, 1) := by decide +kernel
theorem dL_turns_31 : decode cL_turns 31 = .ok (.iaload, 1) := by decide +kernel
theorem dL_turns_32 : decode cL_turns 32 = .ok (.iload_n 2, 1) := by decide +kernel
theorem dL_turns_33 : decode cL_turns 33 = .ok (.if_icmp .le 13, 3) := by decide +kernel
theorem dL_turns_36 : decode cL_turns 36 = .ok (.aload_n 1, 1) := by decide +kernel
theorem dL_turns_37 : decode cL_turns 37 = .ok (.iconst 4, 1) := by decide +kernel
theorem dL_turns_38 : decode cL_turns 38 = .ok (.iload_n 3, 1) := by decide +kernel
theorem dL_turns_39 : decode cL_turns 39 = .ok (.imul, 1) := by decide +kernel
theorem dL_turns_40 : decode cL_turns 40 = .ok (.iconst 2, 1) := by decide +kernel
theorem dL_turns_41 : decode cL_turns 41 = .ok (.iadd, 1) := by decide +kernel
theorem dL_turns_42 : decode cL_turns 42 = .ok (.iaload, 1) := by decide +kernel
theorem dL_turns_43 : decode cL_turns 43 = .ok (.goto 4, 3) := by decide +kernel
theorem dL_turns_46 : decode cL_turns 46 = .ok (.iload_n 2, 1) := by decide +kernel
theorem dL_turns_47 : decode cL_turns 47 = .ok (.ireturn, 1) := by decide +kernel
set_option maxRecDepth 20000 in
theorem ggL_next_L_set : GoodIn wsL_next wsL_set := goodIn_r _ [5] (by decide +kernel) (by decide +kernel)
set_option maxRecDepth 20000 in
theorem gL_next_L_set : GoodIn wsL_next (va_wsS RL 10 yL_set wsL_set) := goodIn_app (goodIn_of _ (by decide +kernel)) ggL_next_L_set
set_option maxRecDepth 20000 in
theorem ggL_next_L_turns : GoodIn wsL_next wsL_turns := goodIn_r _ [8] (by decide +kernel) (by decide +kernel)
set_option maxRecDepth 20000 in
theorem gL_next_L_turns : GoodIn wsL_next (va_wsS RL 16 yL_turns wsL_turns) := goodIn_app (goodIn_of _ (by decide +kernel)) ggL_next_L_turns
theorem dL_next_0 : decode cL_next 0 = .ok (.bipush (-6), 2) := by decide +kernel
theorem dL_next_2 : decode cL_next 2 = .ok (.istore_n 3, 1) := by decide +kernel
theorem dL_next_3 : decode cL_next 3 = .ok (.aload_n 0, 1) := by decide +kernel
theorem dL_next_4 : decode cL_next 4 = .ok (.iconst 2, 1) := by decide +kernel
theorem dL_next_5 : decode cL_next 5 = .ok (.iaload, 1) := by decide +kernel
theorem dL_next_6 : decode cL_next 6 = .ok (.iconst 1, 1) := by decide +kernel
theorem dL_next_7 : decode cL_next 7 = .ok (.isub, 1) := by decide +kernel
theorem dL_next_8 : decode cL_next 8 = .ok (.istore 4, 2) := by decide +kernel
theorem dL_next_10 : decode cL_next 10 = .ok (.iload 4, 2) := by decide +kernel
theorem dL_next_12 : decode cL_next 12 = .ok (.ifCond .lt 113, 3) := by decide +kernel
theorem dL_next_15 : decode cL_next 15 = .ok (.aload_n 2, 1) := by decide +kernel
theorem dL_next_16 : decode cL_next 16 = .ok (.iload 4, 2) := by decide +kernel
theorem dL_next_18 : decode cL_next 18 = .ok (.iaload, 1) := by decide +kernel
theorem dL_next_19 : decode cL_next 19 = .ok (.invokestatic 10, 3) := by decide +kernel
theorem dL_next_22 : decode cL_next 22 = .ok (.aload_n 0, 1) := by decide +kernel
theorem dL_next_23 : decode cL_next 23 = .ok (.iconst 3, 1) := by decide +kernel
theorem dL_next_24 : decode cL_next 24 = .ok (.iaload, 1) := by decide +kernel
theorem dL_next_25 : decode cL_next 25 = .ok (.iconst (-1), 1) := by decide +kernel
theorem dL_next_26 : decode cL_next 26 = .ok (.ixor, 1) := by decide +kernel
theorem dL_next_27 : decode cL_next 27 = .ok (.iand, 1) := by decide +kernel
theorem dL_next_28 : decode cL_next 28 = .ok (.ifCond .eq 6, 3) := by decide +kernel
theorem dL_next_31 : decode cL_next 31 = .ok (.goto 88, 3) := by decide +kernel
theorem dL_next_34 : decode cL_next 34 = .ok (.aload_n 2, 1) := by decide +kernel
theorem dL_next_35 : decode cL_next 35 = .ok (.iload 4, 2) := by decide +kernel
theorem dL_next_37 : decode cL_next 37 = .ok (.iaload, 1) := by decide +kernel
theorem dL_next_38 : decode cL_next 38 = .ok (.aload_n 1, 1) := by decide +kernel
theorem dL_next_39 : decode cL_next 39 = .ok (.invokestatic 16, 3) := by decide +kernel
theorem dL_next_42 : decode cL_next 42 = .ok (.aload_n 2, 1) := by decide +kernel
theorem dL_next_43 : decode cL_next 43 = .ok (.iload 4, 2) := by decide +kernel
theorem dL_next_45 : decode cL_next 45 = .ok (.iaload, 1) := by decide +kernel
theorem dL_next_46 : decode cL_next 46 = .ok (.invokestatic 10, 3) := by decide +kernel
theorem dL_next_49 : decode cL_next 49 = .ok (.aload_n 0, 1) := by decide +kernel
theorem dL_next_50 : decode cL_next 50 = .ok (.iconst 4, 1) := by decide +kernel
theorem dL_next_51 : decode cL_next 51 = .ok (.iaload, 1) := by decide +kernel
theorem dL_next_52 : decode cL_next 52 = .ok (.iand, 1) := by decide +kernel
theorem dL_next_53 : decode cL_next 53 = .ok (.ifCond .ne 7, 3) := by decide +kernel
theorem dL_next_56 : decode cL_next 56 = .ok (.iconst 0, 1) := by decide +kernel
theorem dL_next_57 : decode cL_next 57 = .ok (.goto 6, 3) := by decide +kernel
theorem dL_next_60 : decode cL_next 60 = .ok (.sipush 10000, 3) := by decide +kernel
theorem dL_next_63 : decode cL_next 63 = .ok (.iadd, 1) := by decide +kernel
theorem dL_next_64 : decode cL_next 64 = .ok (.istore 5, 2) := by decide +kernel
theorem dL_next_66 : decode cL_next 66 = .ok (.iload_n 3, 1) := by decide +kernel
theorem dL_next_67 : decode cL_next 67 = .ok (.ifCond .ge 8, 3) := by decide +kernel
theorem dL_next_70 : decode cL_next 70 = .ok (.ldc 20, 2) := by decide +kernel
theorem dL_next_72 : decode cL_next 72 = .ok (.goto 31, 3) := by decide +kernel
theorem dL_next_75 : decode cL_next 75 = .ok (.aload_n 2, 1) := by decide +kernel
theorem dL_next_76 : decode cL_next 76 = .ok (.iload_n 3, 1) := by decide +kernel
theorem dL_next_77 : decode cL_next 77 = .ok (.iaload, 1) := by decide +kernel
theorem dL_next_78 : decode cL_next 78 = .ok (.aload_n 1, 1) := by decide +kernel
theorem dL_next_79 : decode cL_next 79 = .ok (.invokestatic 16, 3) := by decide +kernel
theorem dL_next_82 : decode cL_next 82 = .ok (.aload_n 2, 1) := by decide +kernel
theorem dL_next_83 : decode cL_next 83 = .ok (.iload_n 3, 1) := by decide +kernel
theorem dL_next_84 : decode cL_next 84 = .ok (.iaload, 1) := by decide +kernel
theorem dL_next_85 : decode cL_next 85 = .ok (.invokestatic 10, 3) := by decide +kernel
theorem dL_next_88 : decode cL_next 88 = .ok (.aload_n 0, 1) := by decide +kernel
theorem dL_next_89 : decode cL_next 89 = .ok (.iconst 4, 1) := by decide +kernel
theorem dL_next_90 : decode cL_next 90 = .ok (.iaload, 1) := by decide +kernel
theorem dL_next_91 : decode cL_next 91 = .ok (.iand, 1) := by decide +kernel
theorem dL_next_92 : decode cL_next 92 = .ok (.ifCond .ne 7, 3) := by decide +kernel
theorem dL_next_95 : decode cL_next 95 = .ok (.iconst 0, 1) := by decide +kernel
theorem dL_next_96 : decode cL_next 96 = .ok (.goto 6, 3) := by decide +kernel
theorem dL_next_99 : decode cL_next 99 = .ok (.sipush 10000, 3) := by decide +kernel
theorem dL_next_102 : decode cL_next 102 = .ok (.iadd, 1) := by decide +kernel
theorem dL_next_103 : decode cL_next 103 = .ok (.istore 6, 2) := by decide +kernel
theorem dL_next_105 : decode cL_next 105 = .ok (.iload 5, 2) := by decide +kernel
theorem dL_next_107 : decode cL_next 107 = .ok (.iload 6, 2) := by decide +kernel
theorem dL_next_109 : decode cL_next 109 = .ok (.if_icmp .gt 8, 3) := by decide +kernel
theorem dL_next_112 : decode cL_next 112 = .ok (.iload 4, 2) := by decide +kernel
theorem dL_next_114 : decode cL_next 114 = .ok (.goto 4, 3) := by decide +kernel
theorem dL_next_117 : decode cL_next 117 = .ok (.iload_n 3, 1) := by decide +kernel
theorem dL_next_118 : decode cL_next 118 = .ok (.istore_n 3, 1) := by decide +kernel
theorem dL_next_119 : decode cL_next 119 = .ok (.iinc 4 (-1), 3) := by decide +kernel
theorem dL_next_122 : decode cL_next 122 = .ok (.goto (-112), 3) := by decide +kernel
theorem dL_next_125 : decode cL_next 125 = .ok (.iload_n 3, 1) := by decide +kernel
theorem dL_next_126 : decode cL_next 126 = .ok (.ireturn, 1) := by decide +kernel
set_option maxRecDepth 20000 in
theorem ggL_sing_L_set : GoodIn wsL_sing wsL_set := goodIn_r _ [4] (by decide +kernel) (by decide +kernel)
set_option maxRecDepth 20000 in
theorem gL_sing_L_set : GoodIn wsL_sing (va_wsS RL 10 yL_set wsL_set) := goodIn_app (goodIn_of _ (by decide +kernel)) ggL_sing_L_set
theorem dL_sing_0 : decode cL_sing 0 = .ok (.aload 4, 2) := by decide +kernel
theorem dL_sing_2 : decode cL_sing 2 = .ok (.iload_n 0, 1) := by decide +kernel
theorem dL_sing_3 : decode cL_sing 3 = .ok (.iaload, 1) := by decide +kernel
theorem dL_sing_4 : decode cL_sing 4 = .ok (.istore 7, 2) := by decide +kernel
theorem dL_sing_6 : decode cL_sing 6 = .ok (.iload 7, 2) := by decide +kernel
theorem dL_sing_8 : decode cL_sing 8 = .ok (.sipush 10000, 3) := by decide +kernel
theorem dL_sing_11 : decode cL_sing 11 = .ok (.idiv, 1) := by decide +kernel
theorem dL_sing_12 : decode cL_sing 12 = .ok (.istore 8, 2) := by decide +kernel
theorem dL_sing_14 : decode cL_sing 14 = .ok (.iload 7, 2) := by decide +kernel
theorem dL_sing_16 : decode cL_sing 16 = .ok (.invokestatic 10, 3) := by decide +kernel
theorem dL_sing_19 : decode cL_sing 19 = .ok (.istore 9, 2) := by decide +kernel
theorem dL_sing_21 : decode cL_sing 21 = .ok (.bipush 11, 2) := by decide +kernel
theorem dL_sing_23 : decode cL_sing 23 = .ok (.istore 10, 2) := by decide +kernel
theorem dL_sing_25 : decode cL_sing 25 = .ok (.iload 10, 2) := by decide +kernel
theorem dL_sing_27 : decode cL_sing 27 = .ok (.ifCond .le 33, 3) := by decide +kernel
theorem dL_sing_30 : decode cL_sing 30 = .ok (.aload 5, 2) := by decide +kernel
theorem dL_sing_32 : decode cL_sing 32 = .ok (.iload 10, 2) := by decide +kernel
theorem dL_sing_34 : decode cL_sing 34 = .ok (.aload 5, 2) := by decide +kernel
theorem dL_sing_36 : decode cL_sing 36 = .ok (.iload 10, 2) := by decide +kernel
theorem dL_sing_38 : decode cL_sing 38 = .ok (.iconst 1, 1) := by decide +kernel
theorem dL_sing_39 : decode cL_sing 39 = .ok (.isub, 1) := by decide +kernel
theorem dL_sing_40 : decode cL_sing 40 = .ok (.iaload, 1) := by decide +kernel
theorem dL_sing_41 : decode cL_sing 41 = .ok (.iastore, 1) := by decide +kernel
theorem dL_sing_42 : decode cL_sing 42 = .ok (.aload 6, 2) := by decide +kernel
theorem dL_sing_44 : decode cL_sing 44 = .ok (.iload 10, 2) := by decide +kernel
theorem dL_sing_46 : decode cL_sing 46 = .ok (.aload 6, 2) := by decide +kernel
theorem dL_sing_48 : decode cL_sing 48 = .ok (.iload 10, 2) := by decide +kernel
theorem dL_sing_50 : decode cL_sing 50 = .ok (.iconst 1, 1) := by decide +kernel
theorem dL_sing_51 : decode cL_sing 51 = .ok (.isub, 1) := by decide +kernel
theorem dL_sing_52 : decode cL_sing 52 = .ok (.iaload, 1) := by decide +kernel
theorem dL_sing_53 : decode cL_sing 53 = .ok (.iastore, 1) := by decide +kernel
theorem dL_sing_54 : decode cL_sing 54 = .ok (.iinc 10 (-1), 3) := by decide +kernel
theorem dL_sing_57 : decode cL_sing 57 = .ok (.goto (-32), 3) := by decide +kernel
theorem dL_sing_60 : decode cL_sing 60 = .ok (.aload 5, 2) := by decide +kernel
theorem dL_sing_62 : decode cL_sing 62 = .ok (.iconst 0, 1) := by decide +kernel
theorem dL_sing_63 : decode cL_sing 63 = .ok (.iload 7, 2) := by decide +kernel
theorem dL_sing_65 : decode cL_sing 65 = .ok (.iastore, 1) := by decide +kernel
theorem dL_sing_66 : decode cL_sing 66 = .ok (.aload 6, 2) := by decide +kernel
theorem dL_sing_68 : decode cL_sing 68 = .ok (.iconst 0, 1) := by decide +kernel
theorem dL_sing_69 : decode cL_sing 69 = .ok (.aload_n 1, 1) := by decide +kernel
theorem dL_sing_70 : decode cL_sing 70 = .ok (.iconst 5, 1) := by decide +kernel
theorem dL_sing_71 : decode cL_sing 71 = .ok (.iaload, 1) := by decide +kernel
theorem dL_sing_72 : decode cL_sing 72 = .ok (.iastore, 1) := by decide +kernel
theorem dL_sing_73 : decode cL_sing 73 = .ok (.aload_n 1, 1) := by decide +kernel
theorem dL_sing_74 : decode cL_sing 74 = .ok (.bipush 7, 2) := by decide +kernel
theorem dL_sing_76 : decode cL_sing 76 = .ok (.aload_n 1, 1) := by decide +kernel
theorem dL_sing_77 : decode cL_sing 77 = .ok (.bipush 7, 2) := by decide +kernel
theorem dL_sing_79 : decode cL_sing 79 = .ok (.iaload, 1) := by decide +kernel
theorem dL_sing_80 : decode cL_sing 80 = .ok (.bipush 12, 2) := by decide +kernel
theorem dL_sing_82 : decode cL_sing 82 = .ok (.if_icmp .ge 12, 3) := by decide +kernel
theorem dL_sing_85 : decode cL_sing 85 = .ok (.aload_n 1, 1) := by decide +kernel
theorem dL_sing_86 : decode cL_sing 86 = .ok (.bipush 7, 2) := by decide +kernel
theorem dL_sing_88 : decode cL_sing 88 = .ok (.iaload, 1) := by decide +kernel
theorem dL_sing_89 : decode cL_sing 89 = .ok (.iconst 1, 1) := by decide +kernel
theorem dL_sing_90 : decode cL_sing 90 = .ok (.iadd, 1) := by decide +kernel
theorem dL_sing_91 : decode cL_sing 91 = .ok (.goto 5, 3) := by decide +kernel
theorem dL_sing_94 : decode cL_sing 94 = .ok (.bipush 12, 2) := by decide +kernel
theorem dL_sing_96 : decode cL_sing 96 = .ok (.iastore, 1) := by decide +kernel
theorem dL_sing_97 : decode cL_sing 97 = .ok (.iconst 0, 1) := by decide +kernel
theorem dL_sing_98 : decode cL_sing 98 = .ok (.istore 10, 2) := by decide +kernel
theorem dL_sing_100 : decode cL_sing 100 = .ok (.iload 10, 2) := by decide +kernel
theorem dL_sing_102 : decode cL_sing 102 = .ok (.aload_n 1, 1) := by decide +kernel
theorem dL_sing_103 : decode cL_sing 103 = .ok (.iconst 0, 1) := by decide +kernel
theorem dL_sing_104 : decode cL_sing 104 = .ok (.iaload, 1) := by decide +kernel
theorem dL_sing_105 : decode cL_sing 105 = .ok (.if_icmp .ge 54, 3) := by decide +kernel
theorem dL_sing_108 : decode cL_sing 108 = .ok (.aload_n 2, 1) := by decide +kernel
theorem dL_sing_109 : decode cL_sing 109 = .ok (.iconst 4, 1) := by decide +kernel
theorem dL_sing_110 : decode cL_sing 110 = .ok (.iload 10, 2) := by decide +kernel
theorem dL_sing_112 : decode cL_sing 112 = .ok (.imul, 1) := by decide +kernel
theorem dL_sing_113 : decode cL_sing 113 = .ok (.iconst 2, 1) := by decide +kernel
theorem dL_sing_114 : decode cL_sing 114 = .ok (.iadd, 1) := by decide +kernel
theorem dL_sing_115 : decode cL_sing 115 = .ok (.dup2, 1) := by decide +kernel
theorem dL_sing_116 : decode cL_sing 116 = .ok (.iaload, 1) := by decide +kernel
theorem dL_sing_117 : decode cL_sing 117 = .ok (.iload 9, 2) := by decide +kernel
theorem dL_sing_119 : decode cL_sing 119 = .ok (.iload 10, 2) := by decide +kernel
theorem dL_sing_121 : decode cL_sing 121 = .ok (.ishr, 1) := by decide +kernel
theorem dL_sing_122 : decode cL_sing 122 = .ok (.iconst 1, 1) := by decide +kernel
theorem dL_sing_123 : decode cL_sing 123 = .ok (.iand, 1) := by decide +kernel
theorem dL_sing_124 : decode cL_sing 124 = .ok (.iadd, 1) := by decide +kernel
theorem dL_sing_125 : decode cL_sing 125 = .ok (.iastore, 1) := by decide +kernel
theorem dL_sing_126 : decode cL_sing 126 = .ok (.aload_n 2, 1) := by decide +kernel
theorem dL_sing_127 : decode cL_sing 127 = .ok (.iconst 4, 1) := by decide +kernel
theorem dL_sing_128 : decode cL_sing 128 = .ok (.iload 10, 2) := by decide +kernel
theorem dL_sing_130 : decode cL_sing 130 = .ok (.imul, 1) := by decide +kernel
theorem dL_sing_131 : decode cL_sing 131 = .ok (.iconst 3, 1) := by decide +kernel
theorem dL_sing_132 : decode cL_sing 132 = .ok (.iadd, 1) := by decide +kernel
theorem dL_sing_133 : decode cL_sing 133 = .ok (.dup2, 1) := by decide +kernel
theorem dL_sing_134 : decode cL_sing 134 = .ok (.iaload, 1) := by decide +kernel
theorem dL_sing_135 : decode cL_sing 135 = .ok (.iload 9, 2) := by decide +kernel
theorem dL_sing_137 : decode cL_sing 137 = .ok (.iload 10, 2) := by decide +kernel
theorem dL_sing_139 : decode cL_sing 139 = .ok (.ishr, 1) := by decide +kernel
theorem dL_sing_140 : decode cL_sing 140 = .ok (.iconst 1, 1) := by decide +kernel
theorem dL_sing_141 : decode cL_sing 141 = .ok (.iand, 1) := by decide +kernel
theorem dL_sing_142 : decode cL_sing 142 = .ok (.aload_n 3, 1) := by decide +kernel
theorem dL_sing_143 : decode cL_sing 143 = .ok (.iconst 4, 1) := by decide +kernel
theorem dL_sing_144 : decode cL_sing 144 = .ok (.iload 8, 2) := by decide +kernel
theorem dL_sing_146 : decode cL_sing 146 = .ok (.imul, 1) := by decide +kernel
theorem dL_sing_147 : decode cL_sing 147 = .ok (.iconst 2, 1) := by decide +kernel
theorem dL_sing_148 : decode cL_sing 148 = .ok (.iadd, 1) := by decide +kernel
theorem dL_sing_149 : decode cL_sing 149 = .ok (.iaload, 1) := by decide +kernel
theorem dL_sing_150 : decode cL_sing 150 = .ok (.imul, 1) := by decide +kernel
theorem dL_sing_151 : decode cL_sing 151 = .ok (.iadd, 1) := by decide +kernel
theorem dL_sing_152 : decode cL_sing 152 = .ok (.iastore, 1) := by decide +kernel
theorem dL_sing_153 : decode cL_sing 153 = .ok (.iinc 10 1, 3) := by decide +kernel
theorem dL_sing_156 : decode cL_sing 156 = .ok (.goto (-56), 3) := by decide +kernel
theorem dL_sing_159 : decode cL_sing 159 = .ok (.aload_n 3, 1) := by decide +kernel
theorem dL_sing_160 : decode cL_sing 160 = .ok (.iconst 4, 1) := by decide +kernel
theorem dL_sing_161 : decode cL_sing 161 = .ok (.iload 8, 2) := by decide +kernel
theorem dL_sing_163 : decode cL_sing 163 = .ok (.imul, 1) := by decide +kernel
theorem dL_sing_164 : decode cL_sing 164 = .ok (.iconst 3, 1) := by decide +kernel
theorem dL_sing_165 : decode cL_sing 165 = .ok (.iadd, 1) := by decide +kernel
theorem dL_sing_166 : decode cL_sing 166 = .ok (.dup2, 1) := by decide +kernel
theorem dL_sing_167 : decode cL_sing 167 = .ok (.iaload, 1) := by decide +kernel
theorem dL_sing_168 : decode cL_sing 168 = .ok (.iconst 1, 1) := by decide +kernel
theorem dL_sing_169 : decode cL_sing 169 = .ok (.iadd, 1) := by decide +kernel
theorem dL_sing_170 : decode cL_sing 170 = .ok (.iastore, 1) := by decide +kernel
theorem dL_sing_171 : decode cL_sing 171 = .ok (.aload_n 1, 1) := by decide +kernel
theorem dL_sing_172 : decode cL_sing 172 = .ok (.iconst 4, 1) := by decide +kernel
theorem dL_sing_173 : decode cL_sing 173 = .ok (.iload 9, 2) := by decide +kernel
theorem dL_sing_175 : decode cL_sing 175 = .ok (.iastore, 1) := by decide +kernel
theorem dL_sing_176 : decode cL_sing 176 = .ok (.aload_n 1, 1) := by decide +kernel
theorem dL_sing_177 : decode cL_sing 177 = .ok (.iconst 5, 1) := by decide +kernel
theorem dL_sing_178 : decode cL_sing 178 = .ok (.dup2, 1) := by decide +kernel
theorem dL_sing_179 : decode cL_sing 179 = .ok (.iaload, 1) := by decide +kernel
theorem dL_sing_180 : decode cL_sing 180 = .ok (.aload_n 3, 1) := by decide +kernel
theorem dL_sing_181 : decode cL_sing 181 = .ok (.iconst 4, 1) := by decide +kernel
theorem dL_sing_182 : decode cL_sing 182 = .ok (.iload 8, 2) := by decide +kernel
theorem dL_sing_184 : decode cL_sing 184 = .ok (.imul, 1) := by decide +kernel
theorem dL_sing_185 : decode cL_sing 185 = .ok (.iconst 2, 1) := by decide +kernel
theorem dL_sing_186 : decode cL_sing 186 = .ok (.iadd, 1) := by decide +kernel
theorem dL_sing_187 : decode cL_sing 187 = .ok (.iaload, 1) := by decide +kernel
theorem dL_sing_188 : decode cL_sing 188 = .ok (.iadd, 1) := by decide +kernel
theorem dL_sing_189 : decode cL_sing 189 = .ok (.iastore, 1) := by decide +kernel
theorem dL_sing_190 : decode cL_sing 190 = .ok (.aload_n 1, 1) := by decide +kernel
theorem dL_sing_191 : decode cL_sing 191 = .ok (.bipush 6, 2) := by decide +kernel
theorem dL_sing_193 : decode cL_sing 193 = .ok (.dup2, 1) := by decide +kernel
theorem dL_sing_194 : decode cL_sing 194 = .ok (.iaload, 1) := by decide +kernel
theorem dL_sing_195 : decode cL_sing 195 = .ok (.iconst 1, 1) := by decide +kernel
theorem dL_sing_196 : decode cL_sing 196 = .ok (.iadd, 1) := by decide +kernel
theorem dL_sing_197 : decode cL_sing 197 = .ok (.iastore, 1) := by decide +kernel
theorem dL_sing_198 : decode cL_sing 198 = .ok (.iload_n 0, 1) := by decide +kernel
theorem dL_sing_199 : decode cL_sing 199 = .ok (.istore 10, 2) := by decide +kernel
theorem dL_sing_201 : decode cL_sing 201 = .ok (.iload 10, 2) := by decide +kernel
theorem dL_sing_203 : decode cL_sing 203 = .ok (.iconst 1, 1) := by decide +kernel
theorem dL_sing_204 : decode cL_sing 204 = .ok (.iadd, 1) := by decide +kernel
theorem dL_sing_205 : decode cL_sing 205 = .ok (.aload_n 1, 1) := by decide +kernel
theorem dL_sing_206 : decode cL_sing 206 = .ok (.iconst 2, 1) := by decide +kernel
theorem dL_sing_207 : decode cL_sing 207 = .ok (.iaload, 1) := by decide +kernel
theorem dL_sing_208 : decode cL_sing 208 = .ok (.if_icmp .ge 21, 3) := by decide +kernel
theorem dL_sing_211 : decode cL_sing 211 = .ok (.aload 4, 2) := by decide +kernel
theorem dL_sing_213 : decode cL_sing 213 = .ok (.iload 10, 2) := by decide +kernel
theorem dL_sing_215 : decode cL_sing 215 = .ok (.aload 4, 2) := by decide +kernel
theorem dL_sing_217 : decode cL_sing 217 = .ok (.iload 10, 2) := by decide +kernel
theorem dL_sing_219 : decode cL_sing 219 = .ok (.iconst 1, 1) := by decide +kernel
theorem dL_sing_220 : decode cL_sing 220 = .ok (.iadd, 1) := by decide +kernel
theorem dL_sing_221 : decode cL_sing 221 = .ok (.iaload, 1) := by decide +kernel
theorem dL_sing_222 : decode cL_sing 222 = .ok (.iastore, 1) := by decide +kernel
theorem dL_sing_223 : decode cL_sing 223 = .ok (.iinc 10 1, 3) := by decide +kernel
theorem dL_sing_226 : decode cL_sing 226 = .ok (.goto (-25), 3) := by decide +kernel
theorem dL_sing_229 : decode cL_sing 229 = .ok (.aload_n 1, 1) := by decide +kernel
theorem dL_sing_230 : decode cL_sing 230 = .ok (.iconst 2, 1) := by decide +kernel
theorem dL_sing_231 : decode cL_sing 231 = .ok (.dup2, 1) := by decide +kernel
theorem dL_sing_232 : decode cL_sing 232 = .ok (.iaload, 1) := by decide +kernel
theorem dL_sing_233 : decode cL_sing 233 = .ok (.iconst 1, 1) := by decide +kernel
theorem dL_sing_234 : decode cL_sing 234 = .ok (.isub, 1) := by decide +kernel
theorem dL_sing_235 : decode cL_sing 235 = .ok (.iastore, 1) := by decide +kernel
theorem dL_sing_236 : decode cL_sing 236 = .ok (.return_, 1) := by decide +kernel
theorem dL_copy_0 : decode cL_copy 0 = .ok (.iconst 0, 1) := by decide +kernel
theorem dL_copy_1 : decode cL_copy 1 = .ok (.istore_n 3, 1) := by decide +kernel
theorem dL_copy_2 : decode cL_copy 2 = .ok (.iload_n 3, 1) := by decide +kernel
theorem dL_copy_3 : decode cL_copy 3 = .ok (.iload_n 2, 1) := by decide +kernel
theorem dL_copy_4 : decode cL_copy 4 = .ok (.if_icmp .ge 15, 3) := by decide +kernel
theorem dL_copy_7 : decode cL_copy 7 = .ok (.aload_n 1, 1) := by decide +kernel
theorem dL_copy_8 : decode cL_copy 8 = .ok (.iload_n 3, 1) := by decide +kernel
theorem dL_copy_9 : decode cL_copy 9 = .ok (.aload_n 0, 1) := by decide +kernel
theorem dL_copy_10 : decode cL_copy 10 = .ok (.iload_n 3, 1) := by decide +kernel
theorem dL_copy_11 : decode cL_copy 11 = .ok (.iaload, 1) := by decide +kernel
theorem dL_copy_12 : decode cL_copy 12 = .ok (.iastore, 1) := by decide +kernel
theorem dL_copy_13 : decode cL_copy 13 = .ok (.iinc 3 1, 3) := by decide +kernel
theorem dL_copy_16 : decode cL_copy 16 = .ok (.goto (-14), 3) := by decide +kernel
theorem dL_copy_19 : decode cL_copy 19 = .ok (.return_, 1) := by decide +kernel
set_option maxRecDepth 20000 in
theorem ggL_comes_L_copy : GoodIn wsL_comes wsL_copy := goodIn_r _ [4] (by decide +kernel) (by decide +kernel)
set_option maxRecDepth 20000 in
theorem gL_comes_L_copy : GoodIn wsL_comes (va_wsS RL 21 yL_copy wsL_copy) := goodIn_app (goodIn_of _ (by decide +kernel)) ggL_comes_L_copy
set_option maxRecDepth 20000 in
theorem ggL_comes_L_next : GoodIn wsL_comes wsL_next := goodIn_r _ [7, 8, 9, 10, 3, 11, 12, 13, 14] (by decide +kernel) (by decide +kernel)
set_option maxRecDepth 20000 in
theorem gL_comes_L_next : GoodIn wsL_comes (va_wsS RL 25 yL_next wsL_next) := goodIn_app (goodIn_of _ (by decide +kernel)) ggL_comes_L_next
set_option maxRecDepth 20000 in
theorem ggL_comes_L_sing : GoodIn wsL_comes wsL_sing := goodIn_r _ [17, 9, 10, 3, 11] (by decide +kernel) (by decide +kernel)
set_option maxRecDepth 20000 in
theorem gL_comes_L_sing : GoodIn wsL_comes (va_wsS RL 29 yL_sing wsL_sing) := goodIn_app (goodIn_of _ (by decide +kernel)) ggL_comes_L_sing
theorem dL_comes_0 : decode cL_comes 0 = .ok (.aload_n 2, 1) := by decide +kernel
theorem dL_comes_1 : decode cL_comes 1 = .ok (.aload 6, 2) := by decide +kernel
theorem dL_comes_3 : decode cL_comes 3 = .ok (.bipush 8, 2) := by decide +kernel
theorem dL_comes_5 : decode cL_comes 5 = .ok (.invokestatic 21, 3) := by decide +kernel
theorem dL_comes_8 : decode cL_comes 8 = .ok (.aload_n 3, 1) := by decide +kernel
theorem dL_comes_9 : decode cL_comes 9 = .ok (.aload 7, 2) := by decide +kernel
theorem dL_comes_11 : decode cL_comes 11 = .ok (.bipush 48, 2) := by decide +kernel
theorem dL_comes_13 : decode cL_comes 13 = .ok (.invokestatic 21, 3) := by decide +kernel
theorem dL_comes_16 : decode cL_comes 16 = .ok (.aload 4, 2) := by decide +kernel
theorem dL_comes_18 : decode cL_comes 18 = .ok (.aload 8, 2) := by decide +kernel
theorem dL_comes_20 : decode cL_comes 20 = .ok (.bipush 64, 2) := by decide +kernel
theorem dL_comes_22 : decode cL_comes 22 = .ok (.invokestatic 21, 3) := by decide +kernel
theorem dL_comes_25 : decode cL_comes 25 = .ok (.aload 5, 2) := by decide +kernel
theorem dL_comes_27 : decode cL_comes 27 = .ok (.aload 9, 2) := by decide +kernel
theorem dL_comes_29 : decode cL_comes 29 = .ok (.bipush 20, 2) := by decide +kernel
theorem dL_comes_31 : decode cL_comes 31 = .ok (.invokestatic 21, 3) := by decide +kernel
theorem dL_comes_34 : decode cL_comes 34 = .ok (.iload_n 0, 1) := by decide +kernel
theorem dL_comes_35 : decode cL_comes 35 = .ok (.istore 12, 2) := by decide +kernel
theorem dL_comes_37 : decode cL_comes 37 = .ok (.iload_n 1, 1) := by decide +kernel
theorem dL_comes_38 : decode cL_comes 38 = .ok (.ifCond .lt 58, 3) := by decide +kernel
theorem dL_comes_41 : decode cL_comes 41 = .ok (.iload_n 1, 1) := by decide +kernel
theorem dL_comes_42 : decode cL_comes 42 = .ok (.istore 13, 2) := by decide +kernel
theorem dL_comes_44 : decode cL_comes 44 = .ok (.iload 13, 2) := by decide +kernel
theorem dL_comes_46 : decode cL_comes 46 = .ok (.iconst 1, 1) := by decide +kernel
theorem dL_comes_47 : decode cL_comes 47 = .ok (.iadd, 1) := by decide +kernel
theorem dL_comes_48 : decode cL_comes 48 = .ok (.aload 6, 2) := by decide +kernel
theorem dL_comes_50 : decode cL_comes 50 = .ok (.iconst 2, 1) := by decide +kernel
theorem dL_comes_51 : decode cL_comes 51 = .ok (.iaload, 1) := by decide +kernel
theorem dL_comes_52 : decode cL_comes 52 = .ok (.if_icmp .ge 21, 3) := by decide +kernel
theorem dL_comes_55 : decode cL_comes 55 = .ok (.aload 9, 2) := by decide +kernel
theorem dL_comes_57 : decode cL_comes 57 = .ok (.iload 13, 2) := by decide +kernel
theorem dL_comes_59 : decode cL_comes 59 = .ok (.aload 9, 2) := by decide +kernel
theorem dL_comes_61 : decode cL_comes 61 = .ok (.iload 13, 2) := by decide +kernel
theorem dL_comes_63 : decode cL_comes 63 = .ok (.iconst 1, 1) := by decide +kernel
theorem dL_comes_64 : decode cL_comes 64 = .ok (.iadd, 1) := by decide +kernel
theorem dL_comes_65 : decode cL_comes 65 = .ok (.iaload, 1) := by decide +kernel
theorem dL_comes_66 : decode cL_comes 66 = .ok (.iastore, 1) := by decide +kernel
theorem dL_comes_67 : decode cL_comes 67 = .ok (.iinc 13 1, 3) := by decide +kernel
theorem dL_comes_70 : decode cL_comes 70 = .ok (.goto (-26), 3) := by decide +kernel
theorem dL_comes_73 : decode cL_comes 73 = .ok (.aload 6, 2) := by decide +kernel
theorem dL_comes_75 : decode cL_comes 75 = .ok (.iconst 2, 1) := by decide +kernel
theorem dL_comes_76 : decode cL_comes 76 = .ok (.dup2, 1) := by decide +kernel
theorem dL_comes_77 : decode cL_comes 77 = .ok (.iaload, 1) := by decide +kernel
theorem dL_comes_78 : decode cL_comes 78 = .ok (.iconst 1, 1) := by decide +kernel
theorem dL_comes_79 : decode cL_comes 79 = .ok (.isub, 1) := by decide +kernel
theorem dL_comes_80 : decode cL_comes 80 = .ok (.iastore, 1) := by decide +kernel
theorem dL_comes_81 : decode cL_comes 81 = .ok (.iload 12, 2) := by decide +kernel
theorem dL_comes_83 : decode cL_comes 83 = .ok (.iload_n 1, 1) := by decide +kernel
theorem dL_comes_84 : decode cL_comes 84 = .ok (.iload_n 0, 1) := by decide +kernel
theorem dL_comes_85 : decode cL_comes 85 = .ok (.if_icmp .ge 7, 3) := by decide +kernel
theorem dL_comes_88 : decode cL_comes 88 = .ok (.iconst 1, 1) := by decide +kernel
theorem dL_comes_89 : decode cL_comes 89 = .ok (.goto 4, 3) := by decide +kernel
theorem dL_comes_92 : decode cL_comes 92 = .ok (.iconst 0, 1) := by decide +kernel
theorem dL_comes_93 : decode cL_comes 93 = .ok (.isub, 1) := by decide +kernel
theorem dL_comes_94 : decode cL_comes 94 = .ok (.istore 12, 2) := by decide +kernel
theorem dL_comes_96 : decode cL_comes 96 = .ok (.iconst 0, 1) := by decide +kernel
theorem dL_comes_97 : decode cL_comes 97 = .ok (.istore 13, 2) := by decide +kernel
theorem dL_comes_99 : decode cL_comes 99 = .ok (.aload 6, 2) := by decide +kernel
theorem dL_comes_101 : decode cL_comes 101 = .ok (.aload 7, 2) := by decide +kernel
theorem dL_comes_103 : decode cL_comes 103 = .ok (.aload 9, 2) := by decide +kernel
theorem dL_comes_105 : decode cL_comes 105 = .ok (.invokestatic 25, 3) := by decide +kernel
theorem dL_comes_108 : decode cL_comes 108 = .ok (.istore 14, 2) := by decide +kernel
theorem dL_comes_110 : decode cL_comes 110 = .ok (.iload 14, 2) := by decide +kernel
theorem dL_comes_112 : decode cL_comes 112 = .ok (.iload 12, 2) := by decide +kernel
theorem dL_comes_114 : decode cL_comes 114 = .ok (.if_icmp .eq 54, 3) := by decide +kernel
theorem dL_comes_117 : decode cL_comes 117 = .ok (.iload 14, 2) := by decide +kernel
theorem dL_comes_119 : decode cL_comes 119 = .ok (.aload 6, 2) := by decide +kernel
theorem dL_comes_121 : decode cL_comes 121 = .ok (.aload 7, 2) := by decide +kernel
theorem dL_comes_123 : decode cL_comes 123 = .ok (.aload 8, 2) := by decide +kernel
theorem dL_comes_125 : decode cL_comes 125 = .ok (.aload 9, 2) := by decide +kernel
theorem dL_comes_127 : decode cL_comes 127 = .ok (.aload 10, 2) := by decide +kernel
theorem dL_comes_129 : decode cL_comes 129 = .ok (.aload 11, 2) := by decide +kernel
theorem dL_comes_131 : decode cL_comes 131 = .ok (.invokestatic 29, 3) := by decide +kernel
theorem dL_comes_134 : decode cL_comes 134 = .ok (.iload 12, 2) := by decide +kernel
theorem dL_comes_136 : decode cL_comes 136 = .ok (.iload 14, 2) := by decide +kernel
theorem dL_comes_138 : decode cL_comes 138 = .ok (.iload 12, 2) := by decide +kernel
theorem dL_comes_140 : decode cL_comes 140 = .ok (.if_icmp .ge 7, 3) := by decide +kernel
theorem dL_comes_143 : decode cL_comes 143 = .ok (.iconst 1, 1) := by decide +kernel
theorem dL_comes_144 : decode cL_comes 144 = .ok (.goto 4, 3) := by decide +kernel
theorem dL_comes_147 : decode cL_comes 147 = .ok (.iconst 0, 1) := by decide +kernel
theorem dL_comes_148 : decode cL_comes 148 = .ok (.isub, 1) := by decide +kernel
theorem dL_comes_149 : decode cL_comes 149 = .ok (.istore 12, 2) := by decide +kernel
theorem dL_comes_151 : decode cL_comes 151 = .ok (.iinc 13 1, 3) := by decide +kernel
theorem dL_comes_154 : decode cL_comes 154 = .ok (.aload 6, 2) := by decide +kernel
theorem dL_comes_156 : decode cL_comes 156 = .ok (.aload 7, 2) := by decide +kernel
theorem dL_comes_158 : decode cL_comes 158 = .ok (.aload 9, 2) := by decide +kernel
theorem dL_comes_160 : decode cL_comes 160 = .ok (.invokestatic 25, 3) := by decide +kernel
theorem dL_comes_163 : decode cL_comes 163 = .ok (.istore 14, 2) := by decide +kernel
theorem dL_comes_165 : decode cL_comes 165 = .ok (.goto (-55), 3) := by decide +kernel
theorem dL_comes_168 : decode cL_comes 168 = .ok (.sipush 10000, 3) := by decide +kernel
theorem dL_comes_171 : decode cL_comes 171 = .ok (.iload 13, 2) := by decide +kernel
theorem dL_comes_173 : decode cL_comes 173 = .ok (.imul, 1) := by decide +kernel
theorem dL_comes_174 : decode cL_comes 174 = .ok (.aload 6, 2) := by decide +kernel
theorem dL_comes_176 : decode cL_comes 176 = .ok (.iconst 5, 1) := by decide +kernel
theorem dL_comes_177 : decode cL_comes 177 = .ok (.iaload, 1) := by decide +kernel
theorem dL_comes_178 : decode cL_comes 178 = .ok (.iadd, 1) := by decide +kernel
theorem dL_comes_179 : decode cL_comes 179 = .ok (.aload_n 2, 1) := by decide +kernel
theorem dL_comes_180 : decode cL_comes 180 = .ok (.iconst 5, 1) := by decide +kernel
theorem dL_comes_181 : decode cL_comes 181 = .ok (.iaload, 1) := by decide +kernel
theorem dL_comes_182 : decode cL_comes 182 = .ok (.isub, 1) := by decide +kernel
theorem dL_comes_183 : decode cL_comes 183 = .ok (.ireturn, 1) := by decide +kernel
theorem dL_bits_0 : decode cL_bits 0 = .ok (.iconst 0, 1) := by decide +kernel
theorem dL_bits_1 : decode cL_bits 1 = .ok (.istore_n 1, 1) := by decide +kernel
theorem dL_bits_2 : decode cL_bits 2 = .ok (.iload_n 0, 1) := by decide +kernel
theorem dL_bits_3 : decode cL_bits 3 = .ok (.istore_n 2, 1) := by decide +kernel
theorem dL_bits_4 : decode cL_bits 4 = .ok (.iload_n 2, 1) := by decide +kernel
theorem dL_bits_5 : decode cL_bits 5 = .ok (.ifCond .eq 15, 3) := by decide +kernel
theorem dL_bits_8 : decode cL_bits 8 = .ok (.iinc 1 1, 3) := by decide +kernel
theorem dL_bits_11 : decode cL_bits 11 = .ok (.iload_n 2, 1) := by decide +kernel
theorem dL_bits_12 : decode cL_bits 12 = .ok (.iload_n 2, 1) := by decide +kernel
theorem dL_bits_13 : decode cL_bits 13 = .ok (.iconst 1, 1) := by decide +kernel
theorem dL_bits_14 : decode cL_bits 14 = .ok (.isub, 1) := by decide +kernel
theorem dL_bits_15 : decode cL_bits 15 = .ok (.iand, 1) := by decide +kernel
theorem dL_bits_16 : decode cL_bits 16 = .ok (.istore_n 2, 1) := by decide +kernel
theorem dL_bits_17 : decode cL_bits 17 = .ok (.goto (-13), 3) := by decide +kernel
theorem dL_bits_20 : decode cL_bits 20 = .ok (.iload_n 1, 1) := by decide +kernel
theorem dL_bits_21 : decode cL_bits 21 = .ok (.ireturn, 1) := by decide +kernel
