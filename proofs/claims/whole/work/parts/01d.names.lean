theorem dX10_init_0 : decode cX10_init 0 = .ok (.aload_n 0, 1) := by decide +kernel
theorem dX10_init_1 : decode cX10_init 1 = .ok (.invokespecial 1, 3) := by decide +kernel
theorem dX10_init_4 : decode cX10_init 4 = .ok (.aload_n 0, 1) := by decide +kernel
theorem dX10_init_5 : decode cX10_init 5 = .ok (.sipush 239, 3) := by decide +kernel
theorem dX10_init_8 : decode cX10_init 8 = .ok (.newarray .int, 2) := by decide +kernel
theorem dX10_init_10 : decode cX10_init 10 = .ok (.putfield 7, 3) := by decide +kernel
theorem dX10_init_13 : decode cX10_init 13 = .ok (.aload_n 0, 1) := by decide +kernel
theorem dX10_init_14 : decode cX10_init 14 = .ok (.sipush 239, 3) := by decide +kernel
theorem dX10_init_17 : decode cX10_init 17 = .ok (.newarray .int, 2) := by decide +kernel
theorem dX10_init_19 : decode cX10_init 19 = .ok (.putfield 13, 3) := by decide +kernel
theorem dX10_init_22 : decode cX10_init 22 = .ok (.aload_n 0, 1) := by decide +kernel
theorem dX10_init_23 : decode cX10_init 23 = .ok (.sipush 1434, 3) := by decide +kernel
theorem dX10_init_26 : decode cX10_init 26 = .ok (.newarray .int, 2) := by decide +kernel
theorem dX10_init_28 : decode cX10_init 28 = .ok (.putfield 16, 3) := by decide +kernel
theorem dX10_init_31 : decode cX10_init 31 = .ok (.aload_n 0, 1) := by decide +kernel
theorem dX10_init_32 : decode cX10_init 32 = .ok (.sipush 478, 3) := by decide +kernel
theorem dX10_init_35 : decode cX10_init 35 = .ok (.newarray .int, 2) := by decide +kernel
theorem dX10_init_37 : decode cX10_init 37 = .ok (.putfield 19, 3) := by decide +kernel
theorem dX10_init_40 : decode cX10_init 40 = .ok (.aload_n 0, 1) := by decide +kernel
theorem dX10_init_41 : decode cX10_init 41 = .ok (.iconst 2, 1) := by decide +kernel
theorem dX10_init_42 : decode cX10_init 42 = .ok (.newarray .int, 2) := by decide +kernel
theorem dX10_init_44 : decode cX10_init 44 = .ok (.putfield 22, 3) := by decide +kernel
theorem dX10_init_47 : decode cX10_init 47 = .ok (.aload_n 0, 1) := by decide +kernel
theorem dX10_init_48 : decode cX10_init 48 = .ok (.bipush 60, 2) := by decide +kernel
theorem dX10_init_50 : decode cX10_init 50 = .ok (.newarray .int, 2) := by decide +kernel
theorem dX10_init_52 : decode cX10_init 52 = .ok (.putfield 25, 3) := by decide +kernel
theorem dX10_init_55 : decode cX10_init 55 = .ok (.aload_n 0, 1) := by decide +kernel
theorem dX10_init_56 : decode cX10_init 56 = .ok (.getfield 7, 3) := by decide +kernel
theorem dX10_init_59 : decode cX10_init 59 = .ok (.iconst 4, 1) := by decide +kernel
theorem dX10_init_60 : decode cX10_init 60 = .ok (.iconst 0, 1) := by decide +kernel
theorem dX10_init_61 : decode cX10_init 61 = .ok (.iastore, 1) := by decide +kernel
theorem dX10_init_62 : decode cX10_init 62 = .ok (.return_, 1) := by decide +kernel
theorem dX10_moves_0 : decode cX10_moves 0 = .ok (.iconst 0, 1) := by decide +kernel
theorem dX10_moves_1 : decode cX10_moves 1 = .ok (.istore 4, 2) := by decide +kernel
theorem dX10_moves_3 : decode cX10_moves 3 = .ok (.iload 4, 2) := by decide +kernel
theorem dX10_moves_5 : decode cX10_moves 5 = .ok (.sipush 239, 3) := by decide +kernel
theorem dX10_moves_8 : decode cX10_moves 8 = .ok (.if_icmp .ge 21, 3) := by decide +kernel
theorem dX10_moves_11 : decode cX10_moves 11 = .ok (.aload_n 2, 1) := by decide +kernel
theorem dX10_moves_12 : decode cX10_moves 12 = .ok (.iload_n 3, 1) := by decide +kernel
theorem dX10_moves_13 : decode cX10_moves 13 = .ok (.iload 4, 2) := by decide +kernel
theorem dX10_moves_15 : decode cX10_moves 15 = .ok (.iadd, 1) := by decide +kernel
theorem dX10_moves_16 : decode cX10_moves 16 = .ok (.aload_n 0, 1) := by decide +kernel
theorem dX10_moves_17 : decode cX10_moves 17 = .ok (.iload_n 1, 1) := by decide +kernel
theorem dX10_moves_18 : decode cX10_moves 18 = .ok (.iload 4, 2) := by decide +kernel
theorem dX10_moves_20 : decode cX10_moves 20 = .ok (.iadd, 1) := by decide +kernel
theorem dX10_moves_21 : decode cX10_moves 21 = .ok (.iaload, 1) := by decide +kernel
theorem dX10_moves_22 : decode cX10_moves 22 = .ok (.iastore, 1) := by decide +kernel
theorem dX10_moves_23 : decode cX10_moves 23 = .ok (.iinc 4 1, 3) := by decide +kernel
theorem dX10_moves_26 : decode cX10_moves 26 = .ok (.goto (-23), 3) := by decide +kernel
theorem dX10_moves_29 : decode cX10_moves 29 = .ok (.return_, 1) := by decide +kernel
theorem dX10_within_0 : decode cX10_within 0 = .ok (.iload_n 0, 1) := by decide +kernel
theorem dX10_within_1 : decode cX10_within 1 = .ok (.iload_n 1, 1) := by decide +kernel
theorem dX10_within_2 : decode cX10_within 2 = .ok (.if_icmp .lt 12, 3) := by decide +kernel
theorem dX10_within_5 : decode cX10_within 5 = .ok (.iload_n 0, 1) := by decide +kernel
theorem dX10_within_6 : decode cX10_within 6 = .ok (.iload_n 2, 1) := by decide +kernel
theorem dX10_within_7 : decode cX10_within 7 = .ok (.if_icmp .gt 7, 3) := by decide +kernel
theorem dX10_within_10 : decode cX10_within 10 = .ok (.iconst 1, 1) := by decide +kernel
theorem dX10_within_11 : decode cX10_within 11 = .ok (.goto 4, 3) := by decide +kernel
theorem dX10_within_14 : decode cX10_within 14 = .ok (.iconst 0, 1) := by decide +kernel
theorem dX10_within_15 : decode cX10_within 15 = .ok (.ireturn, 1) := by decide +kernel
set_option maxRecDepth 20000 in
theorem ggX10_record_X10_moves : GoodIn wsX10_record wsX10_moves := goodIn_r _ [7] (by decide +kernel) (by decide +kernel)
set_option maxRecDepth 20000 in
theorem gX10_record_X10_moves : GoodIn wsX10_record (va_wsS RX10 32 yX10_moves wsX10_moves) := goodIn_app (goodIn_of _ (by decide +kernel)) ggX10_record_X10_moves
theorem dX10_record_0 : decode cX10_record 0 = .ok (.aload_n 0, 1) := by decide +kernel
theorem dX10_record_1 : decode cX10_record 1 = .ok (.getfield 28, 3) := by decide +kernel
theorem dX10_record_4 : decode cX10_record 4 = .ok (.bipush 6, 2) := by decide +kernel
theorem dX10_record_6 : decode cX10_record 6 = .ok (.if_icmp .ne 44, 3) := by decide +kernel
theorem dX10_record_9 : decode cX10_record 9 = .ok (.iconst 0, 1) := by decide +kernel
theorem dX10_record_10 : decode cX10_record 10 = .ok (.istore_n 1, 1) := by decide +kernel
theorem dX10_record_11 : decode cX10_record 11 = .ok (.iload_n 1, 1) := by decide +kernel
theorem dX10_record_12 : decode cX10_record 12 = .ok (.sipush 1195, 3) := by decide +kernel
theorem dX10_record_15 : decode cX10_record 15 = .ok (.if_icmp .ge 25, 3) := by decide +kernel
theorem dX10_record_18 : decode cX10_record 18 = .ok (.aload_n 0, 1) := by decide +kernel
theorem dX10_record_19 : decode cX10_record 19 = .ok (.getfield 16, 3) := by decide +kernel
theorem dX10_record_22 : decode cX10_record 22 = .ok (.iload_n 1, 1) := by decide +kernel
theorem dX10_record_23 : decode cX10_record 23 = .ok (.aload_n 0, 1) := by decide +kernel
theorem dX10_record_24 : decode cX10_record 24 = .ok (.getfield 16, 3) := by decide +kernel
theorem dX10_record_27 : decode cX10_record 27 = .ok (.iload_n 1, 1) := by decide +kernel
theorem dX10_record_28 : decode cX10_record 28 = .ok (.sipush 239, 3) := by decide +kernel
theorem dX10_record_31 : decode cX10_record 31 = .ok (.iadd, 1) := by decide +kernel
theorem dX10_record_32 : decode cX10_record 32 = .ok (.iaload, 1) := by decide +kernel
theorem dX10_record_33 : decode cX10_record 33 = .ok (.iastore, 1) := by decide +kernel
theorem dX10_record_34 : decode cX10_record 34 = .ok (.iinc 1 1, 3) := by decide +kernel
theorem dX10_record_37 : decode cX10_record 37 = .ok (.goto (-26), 3) := by decide +kernel
theorem dX10_record_40 : decode cX10_record 40 = .ok (.aload_n 0, 1) := by decide +kernel
theorem dX10_record_41 : decode cX10_record 41 = .ok (.dup, 1) := by decide +kernel
theorem dX10_record_42 : decode cX10_record 42 = .ok (.getfield 28, 3) := by decide +kernel
theorem dX10_record_45 : decode cX10_record 45 = .ok (.iconst 1, 1) := by decide +kernel
theorem dX10_record_46 : decode cX10_record 46 = .ok (.isub, 1) := by decide +kernel
theorem dX10_record_47 : decode cX10_record 47 = .ok (.putfield 28, 3) := by decide +kernel
theorem dX10_record_50 : decode cX10_record 50 = .ok (.aload_n 0, 1) := by decide +kernel
theorem dX10_record_51 : decode cX10_record 51 = .ok (.getfield 7, 3) := by decide +kernel
theorem dX10_record_54 : decode cX10_record 54 = .ok (.iconst 0, 1) := by decide +kernel
theorem dX10_record_55 : decode cX10_record 55 = .ok (.aload_n 0, 1) := by decide +kernel
theorem dX10_record_56 : decode cX10_record 56 = .ok (.getfield 16, 3) := by decide +kernel
theorem dX10_record_59 : decode cX10_record 59 = .ok (.aload_n 0, 1) := by decide +kernel
theorem dX10_record_60 : decode cX10_record 60 = .ok (.getfield 28, 3) := by decide +kernel
theorem dX10_record_63 : decode cX10_record 63 = .ok (.sipush 239, 3) := by decide +kernel
theorem dX10_record_66 : decode cX10_record 66 = .ok (.imul, 1) := by decide +kernel
theorem dX10_record_67 : decode cX10_record 67 = .ok (.invokestatic 32, 3) := by decide +kernel
theorem dX10_record_70 : decode cX10_record 70 = .ok (.aload_n 0, 1) := by decide +kernel
theorem dX10_record_71 : decode cX10_record 71 = .ok (.dup, 1) := by decide +kernel
theorem dX10_record_72 : decode cX10_record 72 = .ok (.getfield 28, 3) := by decide +kernel
theorem dX10_record_75 : decode cX10_record 75 = .ok (.iconst 1, 1) := by decide +kernel
theorem dX10_record_76 : decode cX10_record 76 = .ok (.iadd, 1) := by decide +kernel
theorem dX10_record_77 : decode cX10_record 77 = .ok (.putfield 28, 3) := by decide +kernel
theorem dX10_record_80 : decode cX10_record 80 = .ok (.return_, 1) := by decide +kernel
set_option maxRecDepth 20000 in
theorem ggX10_isSinger_X10_within : GoodIn wsX10_isSinger wsX10_within := goodIn_r _ [5] (by decide +kernel) (by decide +kernel)
set_option maxRecDepth 20000 in
theorem gX10_isSinger_X10_within : GoodIn wsX10_isSinger (va_wsS RX10 36 yX10_within wsX10_within) := goodIn_app (goodIn_of _ (by decide +kernel)) ggX10_isSinger_X10_within
theorem dX10_isSinger_0 : decode cX10_isSinger 0 = .ok (.iload_n 1, 1) := by decide +kernel
theorem dX10_isSinger_1 : decode cX10_isSinger 1 = .ok (.iconst 0, 1) := by decide +kernel
theorem dX10_isSinger_2 : decode cX10_isSinger 2 = .ok (.aload_n 0, 1) := by decide +kernel
theorem dX10_isSinger_3 : decode cX10_isSinger 3 = .ok (.getfield 7, 3) := by decide +kernel
theorem dX10_isSinger_6 : decode cX10_isSinger 6 = .ok (.iconst 0, 1) := by decide +kernel
theorem dX10_isSinger_7 : decode cX10_isSinger 7 = .ok (.iaload, 1) := by decide +kernel
theorem dX10_isSinger_8 : decode cX10_isSinger 8 = .ok (.iconst 1, 1) := by decide +kernel
theorem dX10_isSinger_9 : decode cX10_isSinger 9 = .ok (.isub, 1) := by decide +kernel
theorem dX10_isSinger_10 : decode cX10_isSinger 10 = .ok (.invokestatic 36, 3) := by decide +kernel
theorem dX10_isSinger_13 : decode cX10_isSinger 13 = .ok (.ireturn, 1) := by decide +kernel
set_option maxRecDepth 20000 in
theorem ggX10_isSong_X10_within : GoodIn wsX10_isSong wsX10_within := goodIn_r _ [5] (by decide +kernel) (by decide +kernel)
set_option maxRecDepth 20000 in
theorem gX10_isSong_X10_within : GoodIn wsX10_isSong (va_wsS RX10 36 yX10_within wsX10_within) := goodIn_app (goodIn_of _ (by decide +kernel)) ggX10_isSong_X10_within
theorem dX10_isSong_0 : decode cX10_isSong 0 = .ok (.iload_n 1, 1) := by decide +kernel
theorem dX10_isSong_1 : decode cX10_isSong 1 = .ok (.iconst 0, 1) := by decide +kernel
theorem dX10_isSong_2 : decode cX10_isSong 2 = .ok (.aload_n 0, 1) := by decide +kernel
theorem dX10_isSong_3 : decode cX10_isSong 3 = .ok (.getfield 7, 3) := by decide +kernel
theorem dX10_isSong_6 : decode cX10_isSong 6 = .ok (.iconst 1, 1) := by decide +kernel
theorem dX10_isSong_7 : decode cX10_isSong 7 = .ok (.iaload, 1) := by decide +kernel
theorem dX10_isSong_8 : decode cX10_isSong 8 = .ok (.iconst 1, 1) := by decide +kernel
theorem dX10_isSong_9 : decode cX10_isSong 9 = .ok (.isub, 1) := by decide +kernel
theorem dX10_isSong_10 : decode cX10_isSong 10 = .ok (.invokestatic 36, 3) := by decide +kernel
theorem dX10_isSong_13 : decode cX10_isSong 13 = .ok (.ireturn, 1) := by decide +kernel
set_option maxRecDepth 20000 in
theorem ggX10_isWish_X10_within : GoodIn wsX10_isWish wsX10_within := goodIn_r _ [5] (by decide +kernel) (by decide +kernel)
set_option maxRecDepth 20000 in
theorem gX10_isWish_X10_within : GoodIn wsX10_isWish (va_wsS RX10 36 yX10_within wsX10_within) := goodIn_app (goodIn_of _ (by decide +kernel)) ggX10_isWish_X10_within
theorem dX10_isWish_0 : decode cX10_isWish 0 = .ok (.iload_n 1, 1) := by decide +kernel
theorem dX10_isWish_1 : decode cX10_isWish 1 = .ok (.iconst 0, 1) := by decide +kernel
theorem dX10_isWish_2 : decode cX10_isWish 2 = .ok (.aload_n 0, 1) := by decide +kernel
theorem dX10_isWish_3 : decode cX10_isWish 3 = .ok (.getfield 7, 3) := by decide +kernel
theorem dX10_isWish_6 : decode cX10_isWish 6 = .ok (.iconst 2, 1) := by decide +kernel
theorem dX10_isWish_7 : decode cX10_isWish 7 = .ok (.iaload, 1) := by decide +kernel
theorem dX10_isWish_8 : decode cX10_isWish 8 = .ok (.iconst 1, 1) := by decide +kernel
theorem dX10_isWish_9 : decode cX10_isWish 9 = .ok (.isub, 1) := by decide +kernel
theorem dX10_isWish_10 : decode cX10_isWish 10 = .ok (.invokestatic 36, 3) := by decide +kernel
theorem dX10_isWish_13 : decode cX10_isWish 13 = .ok (.ireturn, 1) := by decide +kernel
theorem dX10_singerPart_0 : decode cX10_singerPart 0 = .ok (.aload_n 0, 1) := by decide +kernel
theorem dX10_singerPart_1 : decode cX10_singerPart 1 = .ok (.getfield 7, 3) := by decide +kernel
theorem dX10_singerPart_4 : decode cX10_singerPart 4 = .ok (.bipush 7, 2) := by decide +kernel
theorem dX10_singerPart_6 : decode cX10_singerPart 6 = .ok (.iconst 5, 1) := by decide +kernel
theorem dX10_singerPart_7 : decode cX10_singerPart 7 = .ok (.iload_n 1, 1) := by decide +kernel
theorem dX10_singerPart_8 : decode cX10_singerPart 8 = .ok (.imul, 1) := by decide +kernel
theorem dX10_singerPart_9 : decode cX10_singerPart 9 = .ok (.iadd, 1) := by decide +kernel
theorem dX10_singerPart_10 : decode cX10_singerPart 10 = .ok (.iload_n 2, 1) := by decide +kernel
theorem dX10_singerPart_11 : decode cX10_singerPart 11 = .ok (.iadd, 1) := by decide +kernel
theorem dX10_singerPart_12 : decode cX10_singerPart 12 = .ok (.iaload, 1) := by decide +kernel
theorem dX10_singerPart_13 : decode cX10_singerPart 13 = .ok (.ireturn, 1) := by decide +kernel
theorem dX10_setSinger_0 : decode cX10_setSinger 0 = .ok (.aload_n 0, 1) := by decide +kernel
theorem dX10_setSinger_1 : decode cX10_setSinger 1 = .ok (.getfield 7, 3) := by decide +kernel
theorem dX10_setSinger_4 : decode cX10_setSinger 4 = .ok (.bipush 7, 2) := by decide +kernel
theorem dX10_setSinger_6 : decode cX10_setSinger 6 = .ok (.iconst 5, 1) := by decide +kernel
theorem dX10_setSinger_7 : decode cX10_setSinger 7 = .ok (.iload_n 1, 1) := by decide +kernel
theorem dX10_setSinger_8 : decode cX10_setSinger 8 = .ok (.imul, 1) := by decide +kernel
theorem dX10_setSinger_9 : decode cX10_setSinger 9 = .ok (.iadd, 1) := by decide +kernel
theorem dX10_setSinger_10 : decode cX10_setSinger 10 = .ok (.iload_n 2, 1) := by decide +kernel
theorem dX10_setSinger_11 : decode cX10_setSinger 11 = .ok (.iadd, 1) := by decide +kernel
theorem dX10_setSinger_12 : decode cX10_setSinger 12 = .ok (.iload_n 3, 1) := by decide +kernel
theorem dX10_setSinger_13 : decode cX10_setSinger 13 = .ok (.iastore, 1) := by decide +kernel
theorem dX10_setSinger_14 : decode cX10_setSinger 14 = .ok (.return_, 1) := by decide +kernel
theorem dX10_songPart_0 : decode cX10_songPart 0 = .ok (.aload_n 0, 1) := by decide +kernel
theorem dX10_songPart_1 : decode cX10_songPart 1 = .ok (.getfield 7, 3) := by decide +kernel
theorem dX10_songPart_4 : decode cX10_songPart 4 = .ok (.bipush 67, 2) := by decide +kernel
theorem dX10_songPart_6 : decode cX10_songPart 6 = .ok (.iconst 4, 1) := by decide +kernel
theorem dX10_songPart_7 : decode cX10_songPart 7 = .ok (.iload_n 1, 1) := by decide +kernel
theorem dX10_songPart_8 : decode cX10_songPart 8 = .ok (.imul, 1) := by decide +kernel
theorem dX10_songPart_9 : decode cX10_songPart 9 = .ok (.iadd, 1) := by decide +kernel
theorem dX10_songPart_10 : decode cX10_songPart 10 = .ok (.iload_n 2, 1) := by decide +kernel
theorem dX10_songPart_11 : decode cX10_songPart 11 = .ok (.iadd, 1) := by decide +kernel
theorem dX10_songPart_12 : decode cX10_songPart 12 = .ok (.iaload, 1) := by decide +kernel
theorem dX10_songPart_13 : decode cX10_songPart 13 = .ok (.ireturn, 1) := by decide +kernel
theorem dX10_wishPart_0 : decode cX10_wishPart 0 = .ok (.aload_n 0, 1) := by decide +kernel
theorem dX10_wishPart_1 : decode cX10_wishPart 1 = .ok (.getfield 7, 3) := by decide +kernel
theorem dX10_wishPart_4 : decode cX10_wishPart 4 = .ok (.sipush 131, 3) := by decide +kernel
theorem dX10_wishPart_7 : decode cX10_wishPart 7 = .ok (.iconst 3, 1) := by decide +kernel
theorem dX10_wishPart_8 : decode cX10_wishPart 8 = .ok (.iload_n 1, 1) := by decide +kernel
theorem dX10_wishPart_9 : decode cX10_wishPart 9 = .ok (.imul, 1) := by decide +kernel
theorem dX10_wishPart_10 : decode cX10_wishPart 10 = .ok (.iadd, 1) := by decide +kernel
theorem dX10_wishPart_11 : decode cX10_wishPart 11 = .ok (.iload_n 2, 1) := by decide +kernel
theorem dX10_wishPart_12 : decode cX10_wishPart 12 = .ok (.iadd, 1) := by decide +kernel
theorem dX10_wishPart_13 : decode cX10_wishPart 13 = .ok (.iaload, 1) := by decide +kernel
theorem dX10_wishPart_14 : decode cX10_wishPart 14 = .ok (.ireturn, 1) := by decide +kernel
theorem dX10_bits_0 : decode cX10_bits 0 = .ok (.iconst 0, 1) := by decide +kernel
theorem dX10_bits_1 : decode cX10_bits 1 = .ok (.istore_n 1, 1) := by decide +kernel
theorem dX10_bits_2 : decode cX10_bits 2 = .ok (.iconst 0, 1) := by decide +kernel
theorem dX10_bits_3 : decode cX10_bits 3 = .ok (.istore_n 2, 1) := by decide +kernel
theorem dX10_bits_4 : decode cX10_bits 4 = .ok (.iload_n 2, 1) := by decide +kernel
theorem dX10_bits_5 : decode cX10_bits 5 = .ok (.bipush 12, 2) := by decide +kernel
theorem dX10_bits_7 : decode cX10_bits 7 = .ok (.if_icmp .ge 17, 3) := by decide +kernel
theorem dX10_bits_10 : decode cX10_bits 10 = .ok (.iload_n 1, 1) := by decide +kernel
theorem dX10_bits_11 : decode cX10_bits 11 = .ok (.iload_n 0, 1) := by decide +kernel
theorem dX10_bits_12 : decode cX10_bits 12 = .ok (.iload_n 2, 1) := by decide +kernel
theorem dX10_bits_13 : decode cX10_bits 13 = .ok (.ishr, 1) := by decide +kernel
theorem dX10_bits_14 : decode cX10_bits 14 = .ok (.iconst 1, 1) := by decide +kernel
theorem dX10_bits_15 : decode cX10_bits 15 = .ok (.iand, 1) := by decide +kernel
theorem dX10_bits_16 : decode cX10_bits 16 = .ok (.iadd, 1) := by decide +kernel
theorem dX10_bits_17 : decode cX10_bits 17 = .ok (.istore_n 1, 1) := by decide +kernel
theorem dX10_bits_18 : decode cX10_bits 18 = .ok (.iinc 2 1, 3) := by decide +kernel
theorem dX10_bits_21 : decode cX10_bits 21 = .ok (.goto (-17), 3) := by decide +kernel
theorem dX10_bits_24 : decode cX10_bits 24 = .ok (.iload_n 1, 1) := by decide +kernel
theorem dX10_bits_25 : decode cX10_bits 25 = .ok (.ireturn, 1) := by decide +kernel
set_option maxRecDepth 20000 in
theorem ggX10_there_X10_singerPart : GoodIn wsX10_there wsX10_singerPart := goodIn_r _ [6, 1, 7, 8, 9, 10, 11, 12, 13, 14, 15, 16, 17, 18] (by decide +kernel) (by decide +kernel)
set_option maxRecDepth 20000 in
theorem gX10_there_X10_singerPart : GoodIn wsX10_there (wsV RX10 40 RX10 yX10_singerPart wsX10_singerPart) := goodIn_app (goodIn_of _ (by decide +kernel)) ggX10_there_X10_singerPart
theorem dX10_there_0 : decode cX10_there 0 = .ok (.iconst 0, 1) := by decide +kernel
theorem dX10_there_1 : decode cX10_there 1 = .ok (.istore_n 1, 1) := by decide +kernel
theorem dX10_there_2 : decode cX10_there 2 = .ok (.iconst 0, 1) := by decide +kernel
theorem dX10_there_3 : decode cX10_there 3 = .ok (.istore_n 2, 1) := by decide +kernel
theorem dX10_there_4 : decode cX10_there 4 = .ok (.iload_n 2, 1) := by decide +kernel
theorem dX10_there_5 : decode cX10_there 5 = .ok (.aload_n 0, 1) := by decide +kernel
theorem dX10_there_6 : decode cX10_there 6 = .ok (.getfield 7, 3) := by decide +kernel
theorem dX10_there_9 : decode cX10_there 9 = .ok (.iconst 0, 1) := by decide +kernel
theorem dX10_there_10 : decode cX10_there 10 = .ok (.iaload, 1) := by decide +kernel
theorem dX10_there_11 : decode cX10_there 11 = .ok (.if_icmp .ge 29, 3) := by decide +kernel
theorem dX10_there_14 : decode cX10_there 14 = .ok (.iload_n 1, 1) := by decide +kernel
theorem dX10_there_15 : decode cX10_there 15 = .ok (.aload_n 0, 1) := by decide +kernel
theorem dX10_there_16 : decode cX10_there 16 = .ok (.iload_n 2, 1) := by decide +kernel
theorem dX10_there_17 : decode cX10_there 17 = .ok (.iconst 2, 1) := by decide +kernel
theorem dX10_there_18 : decode cX10_there 18 = .ok (.invokevirtual 40, 3) := by decide +kernel
theorem dX10_there_21 : decode cX10_there 21 = .ok (.iconst 1, 1) := by decide +kernel
theorem dX10_there_22 : decode cX10_there 22 = .ok (.if_icmp .ne 9, 3) := by decide +kernel
theorem dX10_there_25 : decode cX10_there 25 = .ok (.iconst 1, 1) := by decide +kernel
theorem dX10_there_26 : decode cX10_there 26 = .ok (.iload_n 2, 1) := by decide +kernel
theorem dX10_there_27 : decode cX10_there 27 = .ok (.ishl, 1) := by decide +kernel
theorem dX10_there_28 : decode cX10_there 28 = .ok (.goto 4, 3) := by decide +kernel
theorem dX10_there_31 : decode cX10_there 31 = .ok (.iconst 0, 1) := by decide +kernel
theorem dX10_there_32 : decode cX10_there 32 = .ok (.ior, 1) := by decide +kernel
theorem dX10_there_33 : decode cX10_there 33 = .ok (.istore_n 1, 1) := by decide +kernel
theorem dX10_there_34 : decode cX10_there 34 = .ok (.iinc 2 1, 3) := by decide +kernel
theorem dX10_there_37 : decode cX10_there 37 = .ok (.goto (-33), 3) := by decide +kernel
theorem dX10_there_40 : decode cX10_there 40 = .ok (.iload_n 1, 1) := by decide +kernel
theorem dX10_there_41 : decode cX10_there 41 = .ok (.ireturn, 1) := by decide +kernel
set_option maxRecDepth 20000 in
theorem ggX10_singersOf_X10_wishPart : GoodIn wsX10_singersOf wsX10_wishPart := goodIn_r _ [5, 6, 7, 8, 9, 10, 11, 12, 13, 14, 15, 16, 17, 18] (by decide +kernel) (by decide +kernel)
set_option maxRecDepth 20000 in
theorem gX10_singersOf_X10_wishPart : GoodIn wsX10_singersOf (wsV RX10 44 RX10 yX10_wishPart wsX10_wishPart) := goodIn_app (goodIn_of _ (by decide +kernel)) ggX10_singersOf_X10_wishPart
theorem dX10_singersOf_0 : decode cX10_singersOf 0 = .ok (.aload_n 0, 1) := by decide +kernel
theorem dX10_singersOf_1 : decode cX10_singersOf 1 = .ok (.iload_n 1, 1) := by decide +kernel
theorem dX10_singersOf_2 : decode cX10_singersOf 2 = .ok (.iconst 1, 1) := by decide +kernel
theorem dX10_singersOf_3 : decode cX10_singersOf 3 = .ok (.invokevirtual 44, 3) := by decide +kernel
theorem dX10_singersOf_6 : decode cX10_singersOf 6 = .ok (.istore_n 2, 1) := by decide +kernel
theorem dX10_singersOf_7 : decode cX10_singersOf 7 = .ok (.iconst 1, 1) := by decide +kernel
theorem dX10_singersOf_8 : decode cX10_singersOf 8 = .ok (.aload_n 0, 1) := by decide +kernel
theorem dX10_singersOf_9 : decode cX10_singersOf 9 = .ok (.iload_n 1, 1) := by decide +kernel
theorem dX10_singersOf_10 : decode cX10_singersOf 10 = .ok (.iconst 0, 1) := by decide +kernel
theorem dX10_singersOf_11 : decode cX10_singersOf 11 = .ok (.invokevirtual 44, 3) := by decide +kernel
theorem dX10_singersOf_14 : decode cX10_singersOf 14 = .ok (.ishl, 1) := by decide +kernel
theorem dX10_singersOf_15 : decode cX10_singersOf 15 = .ok (.iload_n 2, 1) := by decide +kernel
theorem dX10_singersOf_16 : decode cX10_singersOf 16 = .ok (.bipush (-6), 2) := by decide +kernel
theorem dX10_singersOf_18 : decode cX10_singersOf 18 = .ok (.if_icmp .ne 7, 3) := by decide +kernel
theorem dX10_singersOf_21 : decode cX10_singersOf 21 = .ok (.iconst 0, 1) := by decide +kernel
theorem dX10_singersOf_22 : decode cX10_singersOf 22 = .ok (.goto 6, 3) := by decide +kernel
theorem dX10_singersOf_25 : decode cX10_singersOf 25 = .ok (.iconst 1, 1) := by decide +kernel
theorem dX10_singersOf_26 : decode cX10_singersOf 26 = .ok (.iload_n 2, 1) := by decide +kernel
theorem dX10_singersOf_27 : decode cX10_singersOf 27 = .ok (.ishl, 1) := by decide +kernel
theorem dX10_singersOf_28 : decode cX10_singersOf 28 = .ok (.ior, 1) := by decide +kernel
theorem dX10_singersOf_29 : decode cX10_singersOf 29 = .ok (.ireturn, 1) := by decide +kernel
set_option maxRecDepth 20000 in
theorem ggX10_isKeyFor_X10_songPart : GoodIn wsX10_isKeyFor wsX10_songPart := goodIn_r _ [5, 6, 11, 12, 13, 14, 15, 16, 17, 18, 19, 20, 21, 22] (by decide +kernel) (by decide +kernel)
set_option maxRecDepth 20000 in
theorem gX10_isKeyFor_X10_songPart : GoodIn wsX10_isKeyFor (wsV RX10 47 RX10 yX10_songPart wsX10_songPart) := goodIn_app (goodIn_of _ (by decide +kernel)) ggX10_isKeyFor_X10_songPart
set_option maxRecDepth 20000 in
theorem ggX10_isKeyFor_X10_singerPart : GoodIn wsX10_isKeyFor wsX10_singerPart := goodIn_r _ [10, 6, 11, 12, 13, 14, 15, 16, 17, 18, 19, 20, 21, 22] (by decide +kernel) (by decide +kernel)
set_option maxRecDepth 20000 in
theorem gX10_isKeyFor_X10_singerPart : GoodIn wsX10_isKeyFor (wsV RX10 40 RX10 yX10_singerPart wsX10_singerPart) := goodIn_app (goodIn_of _ (by decide +kernel)) ggX10_isKeyFor_X10_singerPart
theorem dX10_isKeyFor_0 : decode cX10_isKeyFor 0 = .ok (.aload_n 0, 1) := by decide +kernel
theorem dX10_isKeyFor_1 : decode cX10_isKeyFor 1 = .ok (.iload_n 2, 1) := by decide +kernel
theorem dX10_isKeyFor_2 : decode cX10_isKeyFor 2 = .ok (.iconst 0, 1) := by decide +kernel
theorem dX10_isKeyFor_3 : decode cX10_isKeyFor 3 = .ok (.invokevirtual 47, 3) := by decide +kernel
theorem dX10_isKeyFor_6 : decode cX10_isKeyFor 6 = .ok (.iload_n 3, 1) := by decide +kernel
theorem dX10_isKeyFor_7 : decode cX10_isKeyFor 7 = .ok (.iadd, 1) := by decide +kernel
theorem dX10_isKeyFor_8 : decode cX10_isKeyFor 8 = .ok (.aload_n 0, 1) := by decide +kernel
theorem dX10_isKeyFor_9 : decode cX10_isKeyFor 9 = .ok (.iload_n 1, 1) := by decide +kernel
theorem dX10_isKeyFor_10 : decode cX10_isKeyFor 10 = .ok (.iconst 0, 1) := by decide +kernel
theorem dX10_isKeyFor_11 : decode cX10_isKeyFor 11 = .ok (.invokevirtual 40, 3) := by decide +kernel
theorem dX10_isKeyFor_14 : decode cX10_isKeyFor 14 = .ok (.if_icmp .lt 24, 3) := by decide +kernel
theorem dX10_isKeyFor_17 : decode cX10_isKeyFor 17 = .ok (.aload_n 0, 1) := by decide +kernel
theorem dX10_isKeyFor_18 : decode cX10_isKeyFor 18 = .ok (.iload_n 2, 1) := by decide +kernel
theorem dX10_isKeyFor_19 : decode cX10_isKeyFor 19 = .ok (.iconst 1, 1) := by decide +kernel
theorem dX10_isKeyFor_20 : decode cX10_isKeyFor 20 = .ok (.invokevirtual 47, 3) := by decide +kernel
theorem dX10_isKeyFor_23 : decode cX10_isKeyFor 23 = .ok (.iload_n 3, 1) := by decide +kernel
theorem dX10_isKeyFor_24 : decode cX10_isKeyFor 24 = .ok (.iadd, 1) := by decide +kernel
theorem dX10_isKeyFor_25 : decode cX10_isKeyFor 25 = .ok (.aload_n 0, 1) := by decide +kernel
theorem dX10_isKeyFor_26 : decode cX10_isKeyFor 26 = .ok (.iload_n 1, 1) := by decide +kernel
theorem dX10_isKeyFor_27 : decode cX10_isKeyFor 27 = .ok (.iconst 1, 1) := by decide +kernel
theorem dX10_isKeyFor_28 : decode cX10_isKeyFor 28 = .ok (.invokevirtual 40, 3) := by decide +kernel
theorem dX10_isKeyFor_31 : decode cX10_isKeyFor 31 = .ok (.if_icmp .gt 7, 3) := by decide +kernel
theorem dX10_isKeyFor_34 : decode cX10_isKeyFor 34 = .ok (.iconst 1, 1) := by decide +kernel
theorem dX10_isKeyFor_35 : decode cX10_isKeyFor 35 = .ok (.goto 4, 3) := by decide +kernel
theorem dX10_isKeyFor_38 : decode cX10_isKeyFor 38 = .ok (.iconst 0, 1) := by decide +kernel
theorem dX10_isKeyFor_39 : decode cX10_isKeyFor 39 = .ok (.ireturn, 1) := by decide +kernel
set_option maxRecDepth 20000 in
theorem ggX10_keyFor_X10_isKeyFor : GoodIn wsX10_keyFor wsX10_isKeyFor := goodIn_r _ [5, 6, 7, 8, 4, 9, 10, 11, 12, 13, 14, 15, 16, 17, 18, 19, 20, 21, 22, 23, 24, 25, 26] (by decide +kernel) (by decide +kernel)
set_option maxRecDepth 20000 in
theorem gX10_keyFor_X10_isKeyFor : GoodIn wsX10_keyFor (wsV RX10 50 RX10 yX10_isKeyFor wsX10_isKeyFor) := goodIn_app (goodIn_of _ (by decide +kernel)) ggX10_keyFor_X10_isKeyFor
theorem dX10_keyFor_0 : decode cX10_keyFor 0 = .ok (.bipush (-6), 2) := by decide +kernel
theorem dX10_keyFor_2 : decode cX10_keyFor 2 = .ok (.istore 4, 2) := by decide +kernel
theorem dX10_keyFor_4 : decode cX10_keyFor 4 = .ok (.bipush 6, 2) := by decide +kernel
theorem dX10_keyFor_6 : decode cX10_keyFor 6 = .ok (.istore 5, 2) := by decide +kernel
theorem dX10_keyFor_8 : decode cX10_keyFor 8 = .ok (.iload 5, 2) := by decide +kernel
theorem dX10_keyFor_10 : decode cX10_keyFor 10 = .ok (.ifCond .lt 94, 3) := by decide +kernel
theorem dX10_keyFor_13 : decode cX10_keyFor 13 = .ok (.iload 5, 2) := by decide +kernel
theorem dX10_keyFor_15 : decode cX10_keyFor 15 = .ok (.ineg, 1) := by decide +kernel
theorem dX10_keyFor_16 : decode cX10_keyFor 16 = .ok (.istore 6, 2) := by decide +kernel
theorem dX10_keyFor_18 : decode cX10_keyFor 18 = .ok (.iload 6, 2) := by decide +kernel
theorem dX10_keyFor_20 : decode cX10_keyFor 20 = .ok (.iload 5, 2) := by decide +kernel
theorem dX10_keyFor_22 : decode cX10_keyFor 22 = .ok (.if_icmp .gt 76, 3) := by decide +kernel
theorem dX10_keyFor_25 : decode cX10_keyFor 25 = .ok (.aload_n 0, 1) := by decide +kernel
theorem dX10_keyFor_26 : decode cX10_keyFor 26 = .ok (.iload_n 1, 1) := by decide +kernel
theorem dX10_keyFor_27 : decode cX10_keyFor 27 = .ok (.iload_n 3, 1) := by decide +kernel
theorem dX10_keyFor_28 : decode cX10_keyFor 28 = .ok (.iload 6, 2) := by decide +kernel
theorem dX10_keyFor_30 : decode cX10_keyFor 30 = .ok (.invokevirtual 50, 3) := by decide +kernel
theorem dX10_keyFor_33 : decode cX10_keyFor 33 = .ok (.ifCond .eq 24, 3) := by decide +kernel
theorem dX10_keyFor_36 : decode cX10_keyFor 36 = .ok (.iload_n 2, 1) := by decide +kernel
theorem dX10_keyFor_37 : decode cX10_keyFor 37 = .ok (.bipush (-6), 2) := by decide +kernel
theorem dX10_keyFor_39 : decode cX10_keyFor 39 = .ok (.if_icmp .eq 14, 3) := by decide +kernel
theorem dX10_keyFor_42 : decode cX10_keyFor 42 = .ok (.aload_n 0, 1) := by decide +kernel
theorem dX10_keyFor_43 : decode cX10_keyFor 43 = .ok (.iload_n 2, 1) := by decide +kernel
theorem dX10_keyFor_44 : decode cX10_keyFor 44 = .ok (.iload_n 3, 1) := by decide +kernel
theorem dX10_keyFor_45 : decode cX10_keyFor 45 = .ok (.iload 6, 2) := by decide +kernel
theorem dX10_keyFor_47 : decode cX10_keyFor 47 = .ok (.invokevirtual 50, 3) := by decide +kernel
theorem dX10_keyFor_50 : decode cX10_keyFor 50 = .ok (.ifCond .eq 7, 3) := by decide +kernel
theorem dX10_keyFor_53 : decode cX10_keyFor 53 = .ok (.iconst 1, 1) := by decide +kernel
theorem dX10_keyFor_54 : decode cX10_keyFor 54 = .ok (.goto 4, 3) := by decide +kernel
theorem dX10_keyFor_57 : decode cX10_keyFor 57 = .ok (.iconst 0, 1) := by decide +kernel
theorem dX10_keyFor_58 : decode cX10_keyFor 58 = .ok (.istore 7, 2) := by decide +kernel
theorem dX10_keyFor_60 : decode cX10_keyFor 60 = .ok (.iload 7, 2) := by decide +kernel
theorem dX10_keyFor_62 : decode cX10_keyFor 62 = .ok (.ifCond .eq 11, 3) := by decide +kernel
theorem dX10_keyFor_65 : decode cX10_keyFor 65 = .ok (.iload 6, 2) := by decide +kernel
theorem dX10_keyFor_67 : decode cX10_keyFor 67 = .ok (.bipush 10, 2) := by decide +kernel
theorem dX10_keyFor_69 : decode cX10_keyFor 69 = .ok (.iadd, 1) := by decide +kernel
theorem dX10_keyFor_70 : decode cX10_keyFor 70 = .ok (.goto 5, 3) := by decide +kernel
theorem dX10_keyFor_73 : decode cX10_keyFor 73 = .ok (.iload 4, 2) := by decide +kernel
theorem dX10_keyFor_75 : decode cX10_keyFor 75 = .ok (.istore 4, 2) := by decide +kernel
theorem dX10_keyFor_77 : decode cX10_keyFor 77 = .ok (.iload 6, 2) := by decide +kernel
theorem dX10_keyFor_79 : decode cX10_keyFor 79 = .ok (.iload 5, 2) := by decide +kernel
theorem dX10_keyFor_81 : decode cX10_keyFor 81 = .ok (.ifCond .ne 7, 3) := by decide +kernel
theorem dX10_keyFor_84 : decode cX10_keyFor 84 = .ok (.iconst 1, 1) := by decide +kernel
theorem dX10_keyFor_85 : decode cX10_keyFor 85 = .ok (.goto 7, 3) := by decide +kernel
theorem dX10_keyFor_88 : decode cX10_keyFor 88 = .ok (.iconst 2, 1) := by decide +kernel
theorem dX10_keyFor_89 : decode cX10_keyFor 89 = .ok (.iload 5, 2) := by decide +kernel
theorem dX10_keyFor_91 : decode cX10_keyFor 91 = .ok (.imul, 1) := by decide +kernel
theorem dX10_keyFor_92 : decode cX10_keyFor 92 = .ok (.iadd, 1) := by decide +kernel
theorem dX10_keyFor_93 : decode cX10_keyFor 93 = .ok (.istore 6, 2) := by decide +kernel
theorem dX10_keyFor_95 : decode cX10_keyFor 95 = .ok (.goto (-77), 3) := by decide +kernel
theorem dX10_keyFor_98 : decode cX10_keyFor 98 = .ok (.iinc 5 (-1), 3) := by decide +kernel
theorem dX10_keyFor_101 : decode cX10_keyFor 101 = .ok (.goto (-93), 3) := by decide +kernel
theorem dX10_keyFor_104 : decode cX10_keyFor 104 = .ok (.iload 4, 2) := by decide +kernel
theorem dX10_keyFor_106 : decode cX10_keyFor 106 = .ok (.ireturn, 1) := by decide +kernel
set_option maxRecDepth 20000 in
theorem ggX10_isReady_X10_singersOf : GoodIn wsX10_isReady wsX10_singersOf := goodIn_r _ [5, 6, 7, 8, 4, 9, 10, 19, 20, 21, 22, 23, 24, 25, 26, 27, 28, 29, 30] (by decide +kernel) (by decide +kernel)
set_option maxRecDepth 20000 in
theorem gX10_isReady_X10_singersOf : GoodIn wsX10_isReady (wsV RX10 53 RX10 yX10_singersOf wsX10_singersOf) := goodIn_app (goodIn_of _ (by decide +kernel)) ggX10_isReady_X10_singersOf
set_option maxRecDepth 20000 in
theorem ggX10_isReady_X10_there : GoodIn wsX10_isReady wsX10_there := goodIn_r _ [14, 10, 15, 16, 17, 4, 18, 19, 20, 21, 22, 23, 24, 25, 26, 27, 28, 29, 30] (by decide +kernel) (by decide +kernel)
set_option maxRecDepth 20000 in
theorem gX10_isReady_X10_there : GoodIn wsX10_isReady (wsV RX10 57 RX10 yX10_there wsX10_there) := goodIn_app (goodIn_of _ (by decide +kernel)) ggX10_isReady_X10_there
theorem dX10_isReady_0 : decode cX10_isReady 0 = .ok (.aload_n 0, 1) := by decide +kernel
theorem dX10_isReady_1 : decode cX10_isReady 1 = .ok (.iload_n 1, 1) := by decide +kernel
theorem dX10_isReady_2 : decode cX10_isReady 2 = .ok (.invokevirtual 53, 3) := by decide +kernel
theorem dX10_isReady_5 : decode cX10_isReady 5 = .ok (.aload_n 0, 1) := by decide +kernel
theorem dX10_isReady_6 : decode cX10_isReady 6 = .ok (.invokevirtual 57, 3) := by decide +kernel
theorem dX10_isReady_9 : decode cX10_isReady 9 = .ok (.iconst (-1), 1) := by decide +kernel
theorem dX10_isReady_10 : decode cX10_isReady 10 = .ok (.ixor, 1) := by decide +kernel
theorem dX10_isReady_11 : decode cX10_isReady 11 = .ok (.iand, 1) := by decide +kernel
theorem dX10_isReady_12 : decode cX10_isReady 12 = .ok (.ifCond .ne 7, 3) := by decide +kernel
theorem dX10_isReady_15 : decode cX10_isReady 15 = .ok (.iconst 1, 1) := by decide +kernel
theorem dX10_isReady_16 : decode cX10_isReady 16 = .ok (.goto 4, 3) := by decide +kernel
theorem dX10_isReady_19 : decode cX10_isReady 19 = .ok (.iconst 0, 1) := by decide +kernel
theorem dX10_isReady_20 : decode cX10_isReady 20 = .ok (.ireturn, 1) := by decide +kernel
set_option maxRecDepth 20000 in
theorem ggX10_isFresh_X10_singersOf : GoodIn wsX10_isFresh wsX10_singersOf := goodIn_r _ [6, 7, 8, 9, 5, 10, 1, 11, 12, 13, 14, 15, 16, 17, 18, 19, 20, 21, 22] (by decide +kernel) (by decide +kernel)
set_option maxRecDepth 20000 in
theorem gX10_isFresh_X10_singersOf : GoodIn wsX10_isFresh (wsV RX10 53 RX10 yX10_singersOf wsX10_singersOf) := goodIn_app (goodIn_of _ (by decide +kernel)) ggX10_isFresh_X10_singersOf
theorem dX10_isFresh_0 : decode cX10_isFresh 0 = .ok (.aload_n 0, 1) := by decide +kernel
theorem dX10_isFresh_1 : decode cX10_isFresh 1 = .ok (.iload_n 1, 1) := by decide +kernel
theorem dX10_isFresh_2 : decode cX10_isFresh 2 = .ok (.invokevirtual 53, 3) := by decide +kernel
theorem dX10_isFresh_5 : decode cX10_isFresh 5 = .ok (.aload_n 0, 1) := by decide +kernel
theorem dX10_isFresh_6 : decode cX10_isFresh 6 = .ok (.getfield 7, 3) := by decide +kernel
theorem dX10_isFresh_9 : decode cX10_isFresh 9 = .ok (.iconst 3, 1) := by decide +kernel
theorem dX10_isFresh_10 : decode cX10_isFresh 10 = .ok (.iaload, 1) := by decide +kernel
theorem dX10_isFresh_11 : decode cX10_isFresh 11 = .ok (.iand, 1) := by decide +kernel
theorem dX10_isFresh_12 : decode cX10_isFresh 12 = .ok (.ifCond .ne 7, 3) := by decide +kernel
theorem dX10_isFresh_15 : decode cX10_isFresh 15 = .ok (.iconst 1, 1) := by decide +kernel
theorem dX10_isFresh_16 : decode cX10_isFresh 16 = .ok (.goto 4, 3) := by decide +kernel
theorem dX10_isFresh_19 : decode cX10_isFresh 19 = .ok (.iconst 0, 1) := by decide +kernel
theorem dX10_isFresh_20 : decode cX10_isFresh 20 = .ok (.ireturn, 1) := by decide +kernel
set_option maxRecDepth 20000 in
theorem ggX10_turnsFor_X10_wishPart : GoodIn wsX10_turnsFor wsX10_wishPart := goodIn_r _ [5, 6, 11, 12, 13, 14, 15, 16, 17, 18, 19, 20, 21, 22] (by decide +kernel) (by decide +kernel)
set_option maxRecDepth 20000 in
theorem gX10_turnsFor_X10_wishPart : GoodIn wsX10_turnsFor (wsV RX10 44 RX10 yX10_wishPart wsX10_wishPart) := goodIn_app (goodIn_of _ (by decide +kernel)) ggX10_turnsFor_X10_wishPart
set_option maxRecDepth 20000 in
theorem ggX10_turnsFor_X10_singerPart : GoodIn wsX10_turnsFor wsX10_singerPart := goodIn_r _ [10, 6, 11, 12, 13, 14, 15, 16, 17, 18, 19, 20, 21, 22] (by decide +kernel) (by decide +kernel)
set_option maxRecDepth 20000 in
theorem gX10_turnsFor_X10_singerPart : GoodIn wsX10_turnsFor (wsV RX10 40 RX10 yX10_singerPart wsX10_singerPart) := goodIn_app (goodIn_of _ (by decide +kernel)) ggX10_turnsFor_X10_singerPart
theorem dX10_turnsFor_0 : decode cX10_turnsFor 0 = .ok (.aload_n 0, 1) := by decide +kernel
theorem dX10_turnsFor_1 : decode cX10_turnsFor 1 = .ok (.aload_n 0, 1) := by decide +kernel
theorem dX10_turnsFor_2 : decode cX10_turnsFor 2 = .ok (.iload_n 1, 1) := by decide +kernel
theorem dX10_turnsFor_3 : decode cX10_turnsFor 3 = .ok (.iconst 0, 1) := by decide +kernel
theorem dX10_turnsFor_4 : decode cX10_turnsFor 4 = .ok (.invokevirtual 44, 3) := by decide +kernel
theorem dX10_turnsFor_7 : decode cX10_turnsFor 7 = .ok (.iconst 3, 1) := by decide +kernel
theorem dX10_turnsFor_8 : decode cX10_turnsFor 8 = .ok (.invokevirtual 40, 3) := by decide +kernel
theorem dX10_turnsFor_11 : decode cX10_turnsFor 11 = .ok (.istore_n 2, 1) := by decide +kernel
theorem dX10_turnsFor_12 : decode cX10_turnsFor 12 = .ok (.aload_n 0, 1) := by decide +kernel
theorem dX10_turnsFor_13 : decode cX10_turnsFor 13 = .ok (.iload_n 1, 1) := by decide +kernel
theorem dX10_turnsFor_14 : decode cX10_turnsFor 14 = .ok (.iconst 1, 1) := by decide +kernel
theorem dX10_turnsFor_15 : decode cX10_turnsFor 15 = .ok (.invokevirtual 44, 3) := by decide +kernel
theorem dX10_turnsFor_18 : decode cX10_turnsFor 18 = .ok (.bipush (-6), 2) := by decide +kernel
theorem dX10_turnsFor_20 : decode cX10_turnsFor 20 = .ok (.if_icmp .ne 7, 3) := by decide +kernel
theorem dX10_turnsFor_23 : decode cX10_turnsFor 23 = .ok (.iconst 0, 1) := by decide +kernel
theorem dX10_turnsFor_24 : decode cX10_turnsFor 24 = .ok (.goto 14, 3) := by decide +kernel
theorem dX10_turnsFor_27 : decode cX10_turnsFor 27 = .ok (.aload_n 0, 1) := by decide +kernel
theorem dX10_turnsFor_28 : decode cX10_turnsFor 28 = .ok (.aload_n 0, 1) := by decide +kernel
theorem dX10_turnsFor_29 : decode cX10_turnsFor 29 = .ok (.iload_n 1, 1) := by decide +kernel
theorem dX10_turnsFor_30 : decode cX10_turnsFor 30 = .ok (.iconst 1, 1) := by decide +kernel
theorem dX10_turnsFor_31 : decode cX10_turnsFor 31 = .ok (.invokevirtual 44, 3) := by decide +kernel
theorem dX10_turnsFor_34 : decode cX10_turnsFor 34 = .ok (.iconst 3, 1) := by decide +kernel
theorem dX10_turnsFor_35 : decode cX10_turnsFor 35 = .ok (.invokevirtual 40, 3) := by decide +kernel
theorem dX10_turnsFor_38 : decode cX10_turnsFor 38 = .ok (.istore_n 3, 1) := by decide +kernel
theorem dX10_turnsFor_39 : decode cX10_turnsFor 39 = .ok (.iload_n 2, 1) := by decide +kernel
theorem dX10_turnsFor_40 : decode cX10_turnsFor 40 = .ok (.iload_n 3, 1) := by decide +kernel
theorem dX10_turnsFor_41 : decode cX10_turnsFor 41 = .ok (.if_icmp .le 7, 3) := by decide +kernel
theorem dX10_turnsFor_44 : decode cX10_turnsFor 44 = .ok (.iload_n 2, 1) := by decide +kernel
theorem dX10_turnsFor_45 : decode cX10_turnsFor 45 = .ok (.goto 4, 3) := by decide +kernel
theorem dX10_turnsFor_48 : decode cX10_turnsFor 48 = .ok (.iload_n 3, 1) := by decide +kernel
theorem dX10_turnsFor_49 : decode cX10_turnsFor 49 = .ok (.ireturn, 1) := by decide +kernel
set_option maxRecDepth 20000 in
theorem ggX10_nextOf_X10_isReady : GoodIn wsX10_nextOf wsX10_isReady := goodIn_r _ [6, 7, 8, 9, 5, 10, 11, 12, 13, 14, 1, 15, 16, 17, 18, 19, 20, 21, 22, 31, 32, 33, 34, 35, 36, 37, 38, 39, 40, 41, 42] (by decide +kernel) (by decide +kernel)
set_option maxRecDepth 20000 in
theorem gX10_nextOf_X10_isReady : GoodIn wsX10_nextOf (wsV RX10 61 RX10 yX10_isReady wsX10_isReady) := goodIn_app (goodIn_of _ (by decide +kernel)) ggX10_nextOf_X10_isReady
set_option maxRecDepth 20000 in
theorem ggX10_nextOf_X10_isFresh : GoodIn wsX10_nextOf wsX10_isFresh := goodIn_r _ [26, 1, 7, 8, 9, 5, 10, 11, 12, 13, 14, 31, 32, 33, 34, 35, 36, 37, 38, 39, 40, 41, 42] (by decide +kernel) (by decide +kernel)
set_option maxRecDepth 20000 in
theorem gX10_nextOf_X10_isFresh : GoodIn wsX10_nextOf (wsV RX10 65 RX10 yX10_isFresh wsX10_isFresh) := goodIn_app (goodIn_of _ (by decide +kernel)) ggX10_nextOf_X10_isFresh
set_option maxRecDepth 20000 in
theorem ggX10_nextOf_X10_turnsFor : GoodIn wsX10_nextOf wsX10_turnsFor := goodIn_r _ [30, 11, 12, 13, 5, 14, 1, 19, 20, 21, 22, 31, 32, 33, 34, 35, 36, 37, 38, 39, 40, 41, 42] (by decide +kernel) (by decide +kernel)
set_option maxRecDepth 20000 in
theorem gX10_nextOf_X10_turnsFor : GoodIn wsX10_nextOf (wsV RX10 68 RX10 yX10_turnsFor wsX10_turnsFor) := goodIn_app (goodIn_of _ (by decide +kernel)) ggX10_nextOf_X10_turnsFor
theorem dX10_nextOf_0 : decode cX10_nextOf 0 = .ok (.bipush (-6), 2) := by decide +kernel
theorem dX10_nextOf_2 : decode cX10_nextOf 2 = .ok (.istore_n 2, 1) := by decide +kernel
theorem dX10_nextOf_3 : decode cX10_nextOf 3 = .ok (.iconst 0, 1) := by decide +kernel
theorem dX10_nextOf_4 : decode cX10_nextOf 4 = .ok (.istore_n 3, 1) := by decide +kernel
theorem dX10_nextOf_5 : decode cX10_nextOf 5 = .ok (.iload_n 3, 1) := by decide +kernel
theorem dX10_nextOf_6 : decode cX10_nextOf 6 = .ok (.aload_n 0, 1) := by decide +kernel
theorem dX10_nextOf_7 : decode cX10_nextOf 7 = .ok (.getfield 7, 3) := by decide +kernel
theorem dX10_nextOf_10 : decode cX10_nextOf 10 = .ok (.iconst 2, 1) := by decide +kernel
theorem dX10_nextOf_11 : decode cX10_nextOf 11 = .ok (.iaload, 1) := by decide +kernel
theorem dX10_nextOf_12 : decode cX10_nextOf 12 = .ok (.if_icmp .ge 66, 3) := by decide +kernel
theorem dX10_nextOf_15 : decode cX10_nextOf 15 = .ok (.aload_n 0, 1) := by decide +kernel
theorem dX10_nextOf_16 : decode cX10_nextOf 16 = .ok (.iload_n 3, 1) := by decide +kernel
theorem dX10_nextOf_17 : decode cX10_nextOf 17 = .ok (.invokevirtual 61, 3) := by decide +kernel
theorem dX10_nextOf_20 : decode cX10_nextOf 20 = .ok (.ifCond .eq 19, 3) := by decide +kernel
theorem dX10_nextOf_23 : decode cX10_nextOf 23 = .ok (.iload_n 1, 1) := by decide +kernel
theorem dX10_nextOf_24 : decode cX10_nextOf 24 = .ok (.ifCond .eq 11, 3) := by decide +kernel
theorem dX10_nextOf_27 : decode cX10_nextOf 27 = .ok (.aload_n 0, 1) := by decide +kernel
theorem dX10_nextOf_28 : decode cX10_nextOf 28 = .ok (.iload_n 3, 1) := by decide +kernel
theorem dX10_nextOf_29 : decode cX10_nextOf 29 = .ok (.invokevirtual 65, 3) := by decide +kernel
theorem dX10_nextOf_32 : decode cX10_nextOf 32 = .ok (.ifCond .eq 7, 3) := by decide +kernel
theorem dX10_nextOf_35 : decode cX10_nextOf 35 = .ok (.iconst 1, 1) := by decide +kernel
theorem dX10_nextOf_36 : decode cX10_nextOf 36 = .ok (.goto 4, 3) := by decide +kernel
theorem dX10_nextOf_39 : decode cX10_nextOf 39 = .ok (.iconst 0, 1) := by decide +kernel
theorem dX10_nextOf_40 : decode cX10_nextOf 40 = .ok (.istore 4, 2) := by decide +kernel
theorem dX10_nextOf_42 : decode cX10_nextOf 42 = .ok (.iload 4, 2) := by decide +kernel
theorem dX10_nextOf_44 : decode cX10_nextOf 44 = .ok (.ifCond .eq 26, 3) := by decide +kernel
theorem dX10_nextOf_47 : decode cX10_nextOf 47 = .ok (.iload_n 2, 1) := by decide +kernel
theorem dX10_nextOf_48 : decode cX10_nextOf 48 = .ok (.bipush (-6), 2) := by decide +kernel
theorem dX10_nextOf_50 : decode cX10_nextOf 50 = .ok (.if_icmp .eq 16, 3) := by decide +kernel
theorem dX10_nextOf_53 : decode cX10_nextOf 53 = .ok (.aload_n 0, 1) := by decide +kernel
theorem dX10_nextOf_54 : decode cX10_nextOf 54 = .ok (.iload_n 3, 1) := by decide +kernel
theorem dX10_nextOf_55 : decode cX10_nextOf 55 = .ok (.invokevirtual 68, 3) := by decide +kernel
theorem dX10_nextOf_58 : decode cX10_nextOf 58 = .ok (.aload_n 0, 1) := by decide +kernel
theorem dX10_nextOf_59 : decode cX10_nextOf 59 = .ok (.iload_n 2, 1) := by decide +kernel
theorem dX10_nextOf_60 : decode cX10_nextOf 60 = .ok (.invokevirtual 68, 3) := by decide +kernel
theorem dX10_nextOf_63 : decode cX10_nextOf 63 = .ok (.if_icmp .ge 7, 3) := by decide +kernel
theorem dX10_nextOf_66 : decode cX10_nextOf 66 = .ok (.iload_n 3, 1) := by decide +kernel
theorem dX10_nextOf_67 : decode cX10_nextOf 67 = .ok (.goto 4, 3) := by decide +kernel
theorem dX10_nextOf_70 : decode cX10_nextOf 70 = .ok (.iload_n 2, 1) := by decide +kernel
theorem dX10_nextOf_71 : decode cX10_nextOf 71 = .ok (.istore_n 2, 1) := by decide +kernel
theorem dX10_nextOf_72 : decode cX10_nextOf 72 = .ok (.iinc 3 1, 3) := by decide +kernel
theorem dX10_nextOf_75 : decode cX10_nextOf 75 = .ok (.goto (-70), 3) := by decide +kernel
theorem dX10_nextOf_78 : decode cX10_nextOf 78 = .ok (.iload_n 2, 1) := by decide +kernel
theorem dX10_nextOf_79 : decode cX10_nextOf 79 = .ok (.ireturn, 1) := by decide +kernel
set_option maxRecDepth 20000 in
theorem ggX10_nextWish_X10_nextOf : GoodIn wsX10_nextWish wsX10_nextOf := goodIn_r _ [5, 6, 7, 8, 9, 4, 10, 11, 12, 13, 14, 15, 16, 17, 18, 19, 20, 21, 22, 23, 24, 25, 26, 27, 28, 29, 30, 31, 32, 33, 34, 35, 36, 37, 38, 39, 40, 41, 42, 43, 44, 45, 46] (by decide +kernel) (by decide +kernel)
set_option maxRecDepth 20000 in
theorem gX10_nextWish_X10_nextOf : GoodIn wsX10_nextWish (wsV RX10 71 RX10 yX10_nextOf wsX10_nextOf) := goodIn_app (goodIn_of _ (by decide +kernel)) ggX10_nextWish_X10_nextOf
theorem dX10_nextWish_0 : decode cX10_nextWish 0 = .ok (.aload_n 0, 1) := by decide +kernel
theorem dX10_nextWish_1 : decode cX10_nextWish 1 = .ok (.iconst 1, 1) := by decide +kernel
theorem dX10_nextWish_2 : decode cX10_nextWish 2 = .ok (.invokevirtual 71, 3) := by decide +kernel
theorem dX10_nextWish_5 : decode cX10_nextWish 5 = .ok (.istore_n 1, 1) := by decide +kernel
theorem dX10_nextWish_6 : decode cX10_nextWish 6 = .ok (.iload_n 1, 1) := by decide +kernel
theorem dX10_nextWish_7 : decode cX10_nextWish 7 = .ok (.bipush (-6), 2) := by decide +kernel
theorem dX10_nextWish_9 : decode cX10_nextWish 9 = .ok (.if_icmp .ne 11, 3) := by decide +kernel
theorem dX10_nextWish_12 : decode cX10_nextWish 12 = .ok (.aload_n 0, 1) := by decide +kernel
theorem dX10_nextWish_13 : decode cX10_nextWish 13 = .ok (.iconst 0, 1) := by decide +kernel
theorem dX10_nextWish_14 : decode cX10_nextWish 14 = .ok (.invokevirtual 71, 3) := by decide +kernel
theorem dX10_nextWish_17 : decode cX10_nextWish 17 = .ok (.goto 4, 3) := by decide +kernel
theorem dX10_nextWish_20 : decode cX10_nextWish 20 = .ok (.iload_n 1, 1) := by decide +kernel
theorem dX10_nextWish_21 : decode cX10_nextWish 21 = .ok (.ireturn, 1) := by decide +kernel
theorem dX10_remove_0 : decode cX10_remove 0 = .ok (.sipush 131, 3) := by decide +kernel
theorem dX10_remove_3 : decode cX10_remove 3 = .ok (.iconst 3, 1) := by decide +kernel
theorem dX10_remove_4 : decode cX10_remove 4 = .ok (.iload_n 1, 1) := by decide +kernel
theorem dX10_remove_5 : decode cX10_remove 5 = .ok (.imul, 1) := by decide +kernel
theorem dX10_remove_6 : decode cX10_remove 6 = .ok (.iadd, 1) := by decide +kernel
theorem dX10_remove_7 : decode cX10_remove 7 = .ok (.istore_n 2, 1) := by decide +kernel
theorem dX10_remove_8 : decode cX10_remove 8 = .ok (.iload_n 2, 1) := by decide +kernel
theorem dX10_remove_9 : decode cX10_remove 9 = .ok (.sipush 131, 3) := by decide +kernel
theorem dX10_remove_12 : decode cX10_remove 12 = .ok (.iconst 3, 1) := by decide +kernel
theorem dX10_remove_13 : decode cX10_remove 13 = .ok (.aload_n 0, 1) := by decide +kernel
theorem dX10_remove_14 : decode cX10_remove 14 = .ok (.getfield 7, 3) := by decide +kernel
theorem dX10_remove_17 : decode cX10_remove 17 = .ok (.iconst 2, 1) := by decide +kernel
theorem dX10_remove_18 : decode cX10_remove 18 = .ok (.iaload, 1) := by decide +kernel
theorem dX10_remove_19 : decode cX10_remove 19 = .ok (.iconst 1, 1) := by decide +kernel
theorem dX10_remove_20 : decode cX10_remove 20 = .ok (.isub, 1) := by decide +kernel
theorem dX10_remove_21 : decode cX10_remove 21 = .ok (.imul, 1) := by decide +kernel
theorem dX10_remove_22 : decode cX10_remove 22 = .ok (.iadd, 1) := by decide +kernel
theorem dX10_remove_23 : decode cX10_remove 23 = .ok (.if_icmp .ge 23, 3) := by decide +kernel
theorem dX10_remove_26 : decode cX10_remove 26 = .ok (.aload_n 0, 1) := by decide +kernel
theorem dX10_remove_27 : decode cX10_remove 27 = .ok (.getfield 7, 3) := by decide +kernel
theorem dX10_remove_30 : decode cX10_remove 30 = .ok (.iload_n 2, 1) := by decide +kernel
theorem dX10_remove_31 : decode cX10_remove 31 = .ok (.aload_n 0, 1) := by decide +kernel
theorem dX10_remove_32 : decode cX10_remove 32 = .ok (.getfield 7, 3) := by decide +kernel
theorem dX10_remove_35 : decode cX10_remove 35 = .ok (.iload_n 2, 1) := by decide +kernel
theorem dX10_remove_36 : decode cX10_remove 36 = .ok (.iconst 3, 1) := by decide +kernel
theorem dX10_remove_37 : decode cX10_remove 37 = .ok (.iadd, 1) := by decide +kernel
theorem dX10_remove_38 : decode cX10_remove 38 = .ok (.iaload, 1) := by decide +kernel
theorem dX10_remove_39 : decode cX10_remove 39 = .ok (.iastore, 1) := by decide +kernel
theorem dX10_remove_40 : decode cX10_remove 40 = .ok (.iinc 2 1, 3) := by decide +kernel
theorem dX10_remove_43 : decode cX10_remove 43 = .ok (.goto (-35), 3) := by decide +kernel
theorem dX10_remove_46 : decode cX10_remove 46 = .ok (.aload_n 0, 1) := by decide +kernel
theorem dX10_remove_47 : decode cX10_remove 47 = .ok (.getfield 7, 3) := by decide +kernel
theorem dX10_remove_50 : decode cX10_remove 50 = .ok (.iconst 2, 1) := by decide +kernel
theorem dX10_remove_51 : decode cX10_remove 51 = .ok (.dup2, 1) := by decide +kernel
theorem dX10_remove_52 : decode cX10_remove 52 = .ok (.iaload, 1) := by decide +kernel
theorem dX10_remove_53 : decode cX10_remove 53 = .ok (.iconst 1, 1) := by decide +kernel
theorem dX10_remove_54 : decode cX10_remove 54 = .ok (.isub, 1) := by decide +kernel
theorem dX10_remove_55 : decode cX10_remove 55 = .ok (.iastore, 1) := by decide +kernel
theorem dX10_remove_56 : decode cX10_remove 56 = .ok (.return_, 1) := by decide +kernel
set_option maxRecDepth 20000 in
theorem ggX10_remember_X10_wishPart : GoodIn wsX10_remember wsX10_wishPart := goodIn_r _ [6, 1, 7, 8, 9, 10, 11, 12, 13, 14, 15, 16, 17, 18] (by decide +kernel) (by decide +kernel)
set_option maxRecDepth 20000 in
theorem gX10_remember_X10_wishPart : GoodIn wsX10_remember (wsV RX10 44 RX10 yX10_wishPart wsX10_wishPart) := goodIn_app (goodIn_of _ (by decide +kernel)) ggX10_remember_X10_wishPart
theorem dX10_remember_0 : decode cX10_remember 0 = .ok (.sipush 238, 3) := by decide +kernel
theorem dX10_remember_3 : decode cX10_remember 3 = .ok (.istore_n 2, 1) := by decide +kernel
theorem dX10_remember_4 : decode cX10_remember 4 = .ok (.iload_n 2, 1) := by decide +kernel
theorem dX10_remember_5 : decode cX10_remember 5 = .ok (.sipush 195, 3) := by decide +kernel
theorem dX10_remember_8 : decode cX10_remember 8 = .ok (.if_icmp .lt 23, 3) := by decide +kernel
theorem dX10_remember_11 : decode cX10_remember 11 = .ok (.aload_n 0, 1) := by decide +kernel
theorem dX10_remember_12 : decode cX10_remember 12 = .ok (.getfield 7, 3) := by decide +kernel
theorem dX10_remember_15 : decode cX10_remember 15 = .ok (.iload_n 2, 1) := by decide +kernel
theorem dX10_remember_16 : decode cX10_remember 16 = .ok (.aload_n 0, 1) := by decide +kernel
theorem dX10_remember_17 : decode cX10_remember 17 = .ok (.getfield 7, 3) := by decide +kernel
theorem dX10_remember_20 : decode cX10_remember 20 = .ok (.iload_n 2, 1) := by decide +kernel
theorem dX10_remember_21 : decode cX10_remember 21 = .ok (.iconst 4, 1) := by decide +kernel
theorem dX10_remember_22 : decode cX10_remember 22 = .ok (.isub, 1) := by decide +kernel
theorem dX10_remember_23 : decode cX10_remember 23 = .ok (.iaload, 1) := by decide +kernel
theorem dX10_remember_24 : decode cX10_remember 24 = .ok (.iastore, 1) := by decide +kernel
theorem dX10_remember_25 : decode cX10_remember 25 = .ok (.iinc 2 (-1), 3) := by decide +kernel
theorem dX10_remember_28 : decode cX10_remember 28 = .ok (.goto (-24), 3) := by decide +kernel
theorem dX10_remember_31 : decode cX10_remember 31 = .ok (.aload_n 0, 1) := by decide +kernel
theorem dX10_remember_32 : decode cX10_remember 32 = .ok (.getfield 7, 3) := by decide +kernel
theorem dX10_remember_35 : decode cX10_remember 35 = .ok (.sipush 191, 3) := by decide +kernel
theorem dX10_remember_38 : decode cX10_remember 38 = .ok (.aload_n 0, 1) := by decide +kernel
theorem dX10_remember_39 : decode cX10_remember 39 = .ok (.iload_n 1, 1) := by decide +kernel
theorem dX10_remember_40 : decode cX10_remember 40 = .ok (.iconst 0, 1) := by decide +kernel
theorem dX10_remember_41 : decode cX10_remember 41 = .ok (.invokevirtual 44, 3) := by decide +kernel
theorem dX10_remember_44 : decode cX10_remember 44 = .ok (.iastore, 1) := by decide +kernel
theorem dX10_remember_45 : decode cX10_remember 45 = .ok (.aload_n 0, 1) := by decide +kernel
theorem dX10_remember_46 : decode cX10_remember 46 = .ok (.getfield 7, 3) := by decide +kernel
theorem dX10_remember_49 : decode cX10_remember 49 = .ok (.sipush 192, 3) := by decide +kernel
theorem dX10_remember_52 : decode cX10_remember 52 = .ok (.aload_n 0, 1) := by decide +kernel
theorem dX10_remember_53 : decode cX10_remember 53 = .ok (.iload_n 1, 1) := by decide +kernel
theorem dX10_remember_54 : decode cX10_remember 54 = .ok (.iconst 1, 1) := by decide +kernel
theorem dX10_remember_55 : decode cX10_remember 55 = .ok (.invokevirtual 44, 3) := by decide +kernel
theorem dX10_remember_58 : decode cX10_remember 58 = .ok (.iastore, 1) := by decide +kernel
theorem dX10_remember_59 : decode cX10_remember 59 = .ok (.aload_n 0, 1) := by decide +kernel
theorem dX10_remember_60 : decode cX10_remember 60 = .ok (.getfield 7, 3) := by decide +kernel
theorem dX10_remember_63 : decode cX10_remember 63 = .ok (.sipush 193, 3) := by decide +kernel
theorem dX10_remember_66 : decode cX10_remember 66 = .ok (.aload_n 0, 1) := by decide +kernel
theorem dX10_remember_67 : decode cX10_remember 67 = .ok (.iload_n 1, 1) := by decide +kernel
theorem dX10_remember_68 : decode cX10_remember 68 = .ok (.iconst 2, 1) := by decide +kernel
theorem dX10_remember_69 : decode cX10_remember 69 = .ok (.invokevirtual 44, 3) := by decide +kernel
theorem dX10_remember_72 : decode cX10_remember 72 = .ok (.iastore, 1) := by decide +kernel
theorem dX10_remember_73 : decode cX10_remember 73 = .ok (.aload_n 0, 1) := by decide +kernel
theorem dX10_remember_74 : decode cX10_remember 74 = .ok (.getfield 7, 3) := by decide +kernel
theorem dX10_remember_77 : decode cX10_remember 77 = .ok (.sipush 194, 3) := by decide +kernel
theorem dX10_remember_80 : decode cX10_remember 80 = .ok (.aload_n 0, 1) := by decide +kernel
theorem dX10_remember_81 : decode cX10_remember 81 = .ok (.getfield 7, 3) := by decide +kernel
theorem dX10_remember_84 : decode cX10_remember 84 = .ok (.iconst 4, 1) := by decide +kernel
theorem dX10_remember_85 : decode cX10_remember 85 = .ok (.iaload, 1) := by decide +kernel
theorem dX10_remember_86 : decode cX10_remember 86 = .ok (.iastore, 1) := by decide +kernel
theorem dX10_remember_87 : decode cX10_remember 87 = .ok (.aload_n 0, 1) := by decide +kernel
theorem dX10_remember_88 : decode cX10_remember 88 = .ok (.getfield 7, 3) := by decide +kernel
theorem dX10_remember_91 : decode cX10_remember 91 = .ok (.bipush 6, 2) := by decide +kernel
theorem dX10_remember_93 : decode cX10_remember 93 = .ok (.dup2, 1) := by decide +kernel
theorem dX10_remember_94 : decode cX10_remember 94 = .ok (.iaload, 1) := by decide +kernel
theorem dX10_remember_95 : decode cX10_remember 95 = .ok (.aload_n 0, 1) := by decide +kernel
theorem dX10_remember_96 : decode cX10_remember 96 = .ok (.getfield 7, 3) := by decide +kernel
theorem dX10_remember_99 : decode cX10_remember 99 = .ok (.bipush 6, 2) := by decide +kernel
theorem dX10_remember_101 : decode cX10_remember 101 = .ok (.iaload, 1) := by decide +kernel
theorem dX10_remember_102 : decode cX10_remember 102 = .ok (.bipush 12, 2) := by decide +kernel
theorem dX10_remember_104 : decode cX10_remember 104 = .ok (.if_icmp .ge 7, 3) := by decide +kernel
theorem dX10_remember_107 : decode cX10_remember 107 = .ok (.iconst 1, 1) := by decide +kernel
theorem dX10_remember_108 : decode cX10_remember 108 = .ok (.goto 4, 3) := by decide +kernel
theorem dX10_remember_111 : decode cX10_remember 111 = .ok (.iconst 0, 1) := by decide +kernel
theorem dX10_remember_112 : decode cX10_remember 112 = .ok (.iadd, 1) := by decide +kernel
theorem dX10_remember_113 : decode cX10_remember 113 = .ok (.iastore, 1) := by decide +kernel
theorem dX10_remember_114 : decode cX10_remember 114 = .ok (.return_, 1) := by decide +kernel
set_option maxRecDepth 20000 in
theorem ggX10_singWish_X10_singersOf : GoodIn wsX10_singWish wsX10_singersOf := goodIn_r _ [6, 7, 8, 9, 5, 10, 1, 31, 32, 33, 34, 35, 36, 37, 38, 39, 40, 41, 42] (by decide +kernel) (by decide +kernel)
set_option maxRecDepth 20000 in
theorem gX10_singWish_X10_singersOf : GoodIn wsX10_singWish (wsV RX10 53 RX10 yX10_singersOf wsX10_singersOf) := goodIn_app (goodIn_of _ (by decide +kernel)) ggX10_singWish_X10_singersOf
set_option maxRecDepth 20000 in
theorem ggX10_singWish_X10_wishPart : GoodIn wsX10_singWish wsX10_wishPart := goodIn_r _ [10, 1, 31, 32, 33, 34, 35, 36, 37, 38, 39, 40, 41, 42] (by decide +kernel) (by decide +kernel)
set_option maxRecDepth 20000 in
theorem gX10_singWish_X10_wishPart : GoodIn wsX10_singWish (wsV RX10 44 RX10 yX10_wishPart wsX10_wishPart) := goodIn_app (goodIn_of _ (by decide +kernel)) ggX10_singWish_X10_wishPart
set_option maxRecDepth 20000 in
theorem ggX10_singWish_X10_songPart : GoodIn wsX10_singWish wsX10_songPart := goodIn_r _ [14, 1, 31, 32, 33, 34, 35, 36, 37, 38, 39, 40, 41, 42] (by decide +kernel) (by decide +kernel)
set_option maxRecDepth 20000 in
theorem gX10_singWish_X10_songPart : GoodIn wsX10_singWish (wsV RX10 47 RX10 yX10_songPart wsX10_songPart) := goodIn_app (goodIn_of _ (by decide +kernel)) ggX10_singWish_X10_songPart
set_option maxRecDepth 20000 in
theorem ggX10_singWish_X10_remember : GoodIn wsX10_singWish wsX10_remember := goodIn_r _ [18, 1, 7, 8, 9, 5, 10, 31, 32, 33, 34, 35, 36, 37, 38, 39, 40, 41, 42] (by decide +kernel) (by decide +kernel)
set_option maxRecDepth 20000 in
theorem gX10_singWish_X10_remember : GoodIn wsX10_singWish (wsV RX10 75 RX10 yX10_remember wsX10_remember) := goodIn_app (goodIn_of _ (by decide +kernel)) ggX10_singWish_X10_remember
set_option maxRecDepth 20000 in
theorem ggX10_singWish_X10_singerPart : GoodIn wsX10_singWish wsX10_singerPart := goodIn_r _ [22, 1, 31, 32, 33, 34, 35, 36, 37, 38, 39, 40, 41, 42] (by decide +kernel) (by decide +kernel)
set_option maxRecDepth 20000 in
theorem gX10_singWish_X10_singerPart : GoodIn wsX10_singWish (wsV RX10 40 RX10 yX10_singerPart wsX10_singerPart) := goodIn_app (goodIn_of _ (by decide +kernel)) ggX10_singWish_X10_singerPart
set_option maxRecDepth 20000 in
theorem ggX10_singWish_X10_setSinger : GoodIn wsX10_singWish wsX10_setSinger := goodIn_r _ [26, 1, 31, 32, 33, 34, 35, 36, 37, 38, 39, 40, 41, 42] (by decide +kernel) (by decide +kernel)
set_option maxRecDepth 20000 in
theorem gX10_singWish_X10_setSinger : GoodIn wsX10_singWish (wsV RX10 79 RX10 yX10_setSinger wsX10_setSinger) := goodIn_app (goodIn_of _ (by decide +kernel)) ggX10_singWish_X10_setSinger
set_option maxRecDepth 20000 in
theorem ggX10_singWish_X10_remove : GoodIn wsX10_singWish wsX10_remove := goodIn_r _ [30, 1, 31, 32, 33, 34, 35, 36, 37, 38, 39, 40, 41, 42] (by decide +kernel) (by decide +kernel)
set_option maxRecDepth 20000 in
theorem gX10_singWish_X10_remove : GoodIn wsX10_singWish (wsV RX10 83 RX10 yX10_remove wsX10_remove) := goodIn_app (goodIn_of _ (by decide +kernel)) ggX10_singWish_X10_remove
theorem dX10_singWish_0 : decode cX10_singWish 0 = .ok (.aload_n 0, 1) := by decide +kernel
theorem dX10_singWish_1 : decode cX10_singWish 1 = .ok (.iload_n 1, 1) := by decide +kernel
theorem dX10_singWish_2 : decode cX10_singWish 2 = .ok (.invokevirtual 53, 3) := by decide +kernel
theorem dX10_singWish_5 : decode cX10_singWish 5 = .ok (.istore_n 2, 1) := by decide +kernel
theorem dX10_singWish_6 : decode cX10_singWish 6 = .ok (.aload_n 0, 1) := by decide +kernel
theorem dX10_singWish_7 : decode cX10_singWish 7 = .ok (.iload_n 1, 1) := by decide +kernel
theorem dX10_singWish_8 : decode cX10_singWish 8 = .ok (.iconst 2, 1) := by decide +kernel
theorem dX10_singWish_9 : decode cX10_singWish 9 = .ok (.invokevirtual 44, 3) := by decide +kernel
theorem dX10_singWish_12 : decode cX10_singWish 12 = .ok (.istore_n 3, 1) := by decide +kernel
theorem dX10_singWish_13 : decode cX10_singWish 13 = .ok (.aload_n 0, 1) := by decide +kernel
theorem dX10_singWish_14 : decode cX10_singWish 14 = .ok (.iload_n 3, 1) := by decide +kernel
theorem dX10_singWish_15 : decode cX10_singWish 15 = .ok (.iconst 2, 1) := by decide +kernel
theorem dX10_singWish_16 : decode cX10_singWish 16 = .ok (.invokevirtual 47, 3) := by decide +kernel
theorem dX10_singWish_19 : decode cX10_singWish 19 = .ok (.istore 4, 2) := by decide +kernel
theorem dX10_singWish_21 : decode cX10_singWish 21 = .ok (.aload_n 0, 1) := by decide +kernel
theorem dX10_singWish_22 : decode cX10_singWish 22 = .ok (.iload_n 1, 1) := by decide +kernel
theorem dX10_singWish_23 : decode cX10_singWish 23 = .ok (.invokevirtual 75, 3) := by decide +kernel
theorem dX10_singWish_26 : decode cX10_singWish 26 = .ok (.iconst 0, 1) := by decide +kernel
theorem dX10_singWish_27 : decode cX10_singWish 27 = .ok (.istore 5, 2) := by decide +kernel
theorem dX10_singWish_29 : decode cX10_singWish 29 = .ok (.iload 5, 2) := by decide +kernel
theorem dX10_singWish_31 : decode cX10_singWish 31 = .ok (.aload_n 0, 1) := by decide +kernel
theorem dX10_singWish_32 : decode cX10_singWish 32 = .ok (.getfield 7, 3) := by decide +kernel
theorem dX10_singWish_35 : decode cX10_singWish 35 = .ok (.iconst 0, 1) := by decide +kernel
theorem dX10_singWish_36 : decode cX10_singWish 36 = .ok (.iaload, 1) := by decide +kernel
theorem dX10_singWish_37 : decode cX10_singWish 37 = .ok (.if_icmp .ge 52, 3) := by decide +kernel
theorem dX10_singWish_40 : decode cX10_singWish 40 = .ok (.iload_n 2, 1) := by decide +kernel
theorem dX10_singWish_41 : decode cX10_singWish 41 = .ok (.iload 5, 2) := by decide +kernel
theorem dX10_singWish_43 : decode cX10_singWish 43 = .ok (.ishr, 1) := by decide +kernel
theorem dX10_singWish_44 : decode cX10_singWish 44 = .ok (.iconst 1, 1) := by decide +kernel
theorem dX10_singWish_45 : decode cX10_singWish 45 = .ok (.iand, 1) := by decide +kernel
theorem dX10_singWish_46 : decode cX10_singWish 46 = .ok (.iconst 1, 1) := by decide +kernel
theorem dX10_singWish_47 : decode cX10_singWish 47 = .ok (.if_icmp .ne 36, 3) := by decide +kernel
theorem dX10_singWish_50 : decode cX10_singWish 50 = .ok (.aload_n 0, 1) := by decide +kernel
theorem dX10_singWish_51 : decode cX10_singWish 51 = .ok (.iload 5, 2) := by decide +kernel
theorem dX10_singWish_53 : decode cX10_singWish 53 = .ok (.iconst 3, 1) := by decide +kernel
theorem dX10_singWish_54 : decode cX10_singWish 54 = .ok (.aload_n 0, 1) := by decide +kernel
theorem dX10_singWish_55 : decode cX10_singWish 55 = .ok (.iload 5, 2) := by decide +kernel
theorem dX10_singWish_57 : decode cX10_singWish 57 = .ok (.iconst 3, 1) := by decide +kernel
theorem dX10_singWish_58 : decode cX10_singWish 58 = .ok (.invokevirtual 40, 3) := by decide +kernel
theorem dX10_singWish_61 : decode cX10_singWish 61 = .ok (.iconst 1, 1) := by decide +kernel
theorem dX10_singWish_62 : decode cX10_singWish 62 = .ok (.iadd, 1) := by decide +kernel
theorem dX10_singWish_63 : decode cX10_singWish 63 = .ok (.invokevirtual 79, 3) := by decide +kernel
theorem dX10_singWish_66 : decode cX10_singWish 66 = .ok (.aload_n 0, 1) := by decide +kernel
theorem dX10_singWish_67 : decode cX10_singWish 67 = .ok (.iload 5, 2) := by decide +kernel
theorem dX10_singWish_69 : decode cX10_singWish 69 = .ok (.iconst 4, 1) := by decide +kernel
theorem dX10_singWish_70 : decode cX10_singWish 70 = .ok (.aload_n 0, 1) := by decide +kernel
theorem dX10_singWish_71 : decode cX10_singWish 71 = .ok (.iload 5, 2) := by decide +kernel
theorem dX10_singWish_73 : decode cX10_singWish 73 = .ok (.iconst 4, 1) := by decide +kernel
theorem dX10_singWish_74 : decode cX10_singWish 74 = .ok (.invokevirtual 40, 3) := by decide +kernel
theorem dX10_singWish_77 : decode cX10_singWish 77 = .ok (.iload 4, 2) := by decide +kernel
theorem dX10_singWish_79 : decode cX10_singWish 79 = .ok (.iadd, 1) := by decide +kernel
theorem dX10_singWish_80 : decode cX10_singWish 80 = .ok (.invokevirtual 79, 3) := by decide +kernel
theorem dX10_singWish_83 : decode cX10_singWish 83 = .ok (.iinc 5 1, 3) := by decide +kernel
theorem dX10_singWish_86 : decode cX10_singWish 86 = .ok (.goto (-57), 3) := by decide +kernel
theorem dX10_singWish_89 : decode cX10_singWish 89 = .ok (.aload_n 0, 1) := by decide +kernel
theorem dX10_singWish_90 : decode cX10_singWish 90 = .ok (.getfield 7, 3) := by decide +kernel
theorem dX10_singWish_93 : decode cX10_singWish 93 = .ok (.bipush 67, 2) := by decide +kernel
theorem dX10_singWish_95 : decode cX10_singWish 95 = .ok (.iconst 4, 1) := by decide +kernel
theorem dX10_singWish_96 : decode cX10_singWish 96 = .ok (.iload_n 3, 1) := by decide +kernel
theorem dX10_singWish_97 : decode cX10_singWish 97 = .ok (.imul, 1) := by decide +kernel
theorem dX10_singWish_98 : decode cX10_singWish 98 = .ok (.iadd, 1) := by decide +kernel
theorem dX10_singWish_99 : decode cX10_singWish 99 = .ok (.iconst 3, 1) := by decide +kernel
theorem dX10_singWish_100 : decode cX10_singWish 100 = .ok (.iadd, 1) := by decide +kernel
theorem dX10_singWish_101 : decode cX10_singWish 101 = .ok (.dup2, 1) := by decide +kernel
theorem dX10_singWish_102 : decode cX10_singWish 102 = .ok (.iaload, 1) := by decide +kernel
theorem dX10_singWish_103 : decode cX10_singWish 103 = .ok (.iconst 1, 1) := by decide +kernel
theorem dX10_singWish_104 : decode cX10_singWish 104 = .ok (.iadd, 1) := by decide +kernel
theorem dX10_singWish_105 : decode cX10_singWish 105 = .ok (.iastore, 1) := by decide +kernel
theorem dX10_singWish_106 : decode cX10_singWish 106 = .ok (.aload_n 0, 1) := by decide +kernel
theorem dX10_singWish_107 : decode cX10_singWish 107 = .ok (.getfield 7, 3) := by decide +kernel
theorem dX10_singWish_110 : decode cX10_singWish 110 = .ok (.iconst 3, 1) := by decide +kernel
theorem dX10_singWish_111 : decode cX10_singWish 111 = .ok (.iload_n 2, 1) := by decide +kernel
theorem dX10_singWish_112 : decode cX10_singWish 112 = .ok (.iastore, 1) := by decide +kernel
theorem dX10_singWish_113 : decode cX10_singWish 113 = .ok (.aload_n 0, 1) := by decide +kernel
theorem dX10_singWish_114 : decode cX10_singWish 114 = .ok (.getfield 7, 3) := by decide +kernel
theorem dX10_singWish_117 : decode cX10_singWish 117 = .ok (.iconst 4, 1) := by decide +kernel
theorem dX10_singWish_118 : decode cX10_singWish 118 = .ok (.dup2, 1) := by decide +kernel
theorem dX10_singWish_119 : decode cX10_singWish 119 = .ok (.iaload, 1) := by decide +kernel
theorem dX10_singWish_120 : decode cX10_singWish 120 = .ok (.iload 4, 2) := by decide +kernel
theorem dX10_singWish_122 : decode cX10_singWish 122 = .ok (.iadd, 1) := by decide +kernel
theorem dX10_singWish_123 : decode cX10_singWish 123 = .ok (.iastore, 1) := by decide +kernel
theorem dX10_singWish_124 : decode cX10_singWish 124 = .ok (.aload_n 0, 1) := by decide +kernel
theorem dX10_singWish_125 : decode cX10_singWish 125 = .ok (.getfield 7, 3) := by decide +kernel
theorem dX10_singWish_128 : decode cX10_singWish 128 = .ok (.iconst 5, 1) := by decide +kernel
theorem dX10_singWish_129 : decode cX10_singWish 129 = .ok (.dup2, 1) := by decide +kernel
theorem dX10_singWish_130 : decode cX10_singWish 130 = .ok (.iaload, 1) := by decide +kernel
theorem dX10_singWish_131 : decode cX10_singWish 131 = .ok (.iconst 1, 1) := by decide +kernel
theorem dX10_singWish_132 : decode cX10_singWish 132 = .ok (.iadd, 1) := by decide +kernel
theorem dX10_singWish_133 : decode cX10_singWish 133 = .ok (.iastore, 1) := by decide +kernel
theorem dX10_singWish_134 : decode cX10_singWish 134 = .ok (.aload_n 0, 1) := by decide +kernel
theorem dX10_singWish_135 : decode cX10_singWish 135 = .ok (.iload_n 1, 1) := by decide +kernel
theorem dX10_singWish_136 : decode cX10_singWish 136 = .ok (.invokevirtual 83, 3) := by decide +kernel
theorem dX10_singWish_139 : decode cX10_singWish 139 = .ok (.return_, 1) := by decide +kernel
set_option maxRecDepth 20000 in
theorem ggX10_singer_X10_within : GoodIn wsX10_singer wsX10_within := goodIn_r _ [5] (by decide +kernel) (by decide +kernel)
set_option maxRecDepth 20000 in
theorem gX10_singer_X10_within : GoodIn wsX10_singer (va_wsS RX10 36 yX10_within wsX10_within) := goodIn_app (goodIn_of _ (by decide +kernel)) ggX10_singer_X10_within
set_option maxRecDepth 20000 in
theorem ggX10_singer_X10_record : GoodIn wsX10_singer wsX10_record := goodIn_r _ [9, 10, 11, 1, 12, 13, 4, 14, 19, 20, 21, 22, 23, 24, 25, 26, 27, 28, 29, 30] (by decide +kernel) (by decide +kernel)
set_option maxRecDepth 20000 in
theorem gX10_singer_X10_record : GoodIn wsX10_singer (wsV RX10 86 RX10 yX10_record wsX10_record) := goodIn_app (goodIn_of _ (by decide +kernel)) ggX10_singer_X10_record
set_option maxRecDepth 20000 in
theorem ggX10_singer_X10_setSinger : GoodIn wsX10_singer wsX10_setSinger := goodIn_r _ [18, 1, 19, 20, 21, 22, 23, 24, 25, 26, 27, 28, 29, 30] (by decide +kernel) (by decide +kernel)
set_option maxRecDepth 20000 in
theorem gX10_singer_X10_setSinger : GoodIn wsX10_singer (wsV RX10 79 RX10 yX10_setSinger wsX10_setSinger) := goodIn_app (goodIn_of _ (by decide +kernel)) ggX10_singer_X10_setSinger
theorem dX10_singer_0 : decode cX10_singer 0 = .ok (.iload_n 1, 1) := by decide +kernel
theorem dX10_singer_1 : decode cX10_singer 1 = .ok (.iconst 0, 1) := by decide +kernel
theorem dX10_singer_2 : decode cX10_singer 2 = .ok (.bipush 60, 2) := by decide +kernel
theorem dX10_singer_4 : decode cX10_singer 4 = .ok (.invokestatic 36, 3) := by decide +kernel
theorem dX10_singer_7 : decode cX10_singer 7 = .ok (.ifCond .eq 13, 3) := by decide +kernel
theorem dX10_singer_10 : decode cX10_singer 10 = .ok (.iload_n 2, 1) := by decide +kernel
theorem dX10_singer_11 : decode cX10_singer 11 = .ok (.iload_n 1, 1) := by decide +kernel
theorem dX10_singer_12 : decode cX10_singer 12 = .ok (.bipush 60, 2) := by decide +kernel
theorem dX10_singer_14 : decode cX10_singer 14 = .ok (.invokestatic 36, 3) := by decide +kernel
theorem dX10_singer_17 : decode cX10_singer 17 = .ok (.ifCond .ne 6, 3) := by decide +kernel
theorem dX10_singer_20 : decode cX10_singer 20 = .ok (.bipush (-2), 2) := by decide +kernel
theorem dX10_singer_22 : decode cX10_singer 22 = .ok (.ireturn, 1) := by decide +kernel
theorem dX10_singer_23 : decode cX10_singer 23 = .ok (.aload_n 0, 1) := by decide +kernel
theorem dX10_singer_24 : decode cX10_singer 24 = .ok (.getfield 7, 3) := by decide +kernel
theorem dX10_singer_27 : decode cX10_singer 27 = .ok (.iconst 0, 1) := by decide +kernel
theorem dX10_singer_28 : decode cX10_singer 28 = .ok (.iaload, 1) := by decide +kernel
theorem dX10_singer_29 : decode cX10_singer 29 = .ok (.bipush 12, 2) := by decide +kernel
theorem dX10_singer_31 : decode cX10_singer 31 = .ok (.if_icmp .ne 6, 3) := by decide +kernel
theorem dX10_singer_34 : decode cX10_singer 34 = .ok (.bipush (-4), 2) := by decide +kernel
theorem dX10_singer_36 : decode cX10_singer 36 = .ok (.ireturn, 1) := by decide +kernel
theorem dX10_singer_37 : decode cX10_singer 37 = .ok (.aload_n 0, 1) := by decide +kernel
theorem dX10_singer_38 : decode cX10_singer 38 = .ok (.invokevirtual 86, 3) := by decide +kernel
theorem dX10_singer_41 : decode cX10_singer 41 = .ok (.aload_n 0, 1) := by decide +kernel
theorem dX10_singer_42 : decode cX10_singer 42 = .ok (.getfield 7, 3) := by decide +kernel
theorem dX10_singer_45 : decode cX10_singer 45 = .ok (.iconst 0, 1) := by decide +kernel
theorem dX10_singer_46 : decode cX10_singer 46 = .ok (.iaload, 1) := by decide +kernel
theorem dX10_singer_47 : decode cX10_singer 47 = .ok (.istore_n 3, 1) := by decide +kernel
theorem dX10_singer_48 : decode cX10_singer 48 = .ok (.aload_n 0, 1) := by decide +kernel
theorem dX10_singer_49 : decode cX10_singer 49 = .ok (.iload_n 3, 1) := by decide +kernel
theorem dX10_singer_50 : decode cX10_singer 50 = .ok (.iconst 0, 1) := by decide +kernel
theorem dX10_singer_51 : decode cX10_singer 51 = .ok (.iload_n 1, 1) := by decide +kernel
theorem dX10_singer_52 : decode cX10_singer 52 = .ok (.invokevirtual 79, 3) := by decide +kernel
theorem dX10_singer_55 : decode cX10_singer 55 = .ok (.aload_n 0, 1) := by decide +kernel
theorem dX10_singer_56 : decode cX10_singer 56 = .ok (.iload_n 3, 1) := by decide +kernel
theorem dX10_singer_57 : decode cX10_singer 57 = .ok (.iconst 1, 1) := by decide +kernel
theorem dX10_singer_58 : decode cX10_singer 58 = .ok (.iload_n 2, 1) := by decide +kernel
theorem dX10_singer_59 : decode cX10_singer 59 = .ok (.invokevirtual 79, 3) := by decide +kernel
theorem dX10_singer_62 : decode cX10_singer 62 = .ok (.aload_n 0, 1) := by decide +kernel
theorem dX10_singer_63 : decode cX10_singer 63 = .ok (.iload_n 3, 1) := by decide +kernel
theorem dX10_singer_64 : decode cX10_singer 64 = .ok (.iconst 2, 1) := by decide +kernel
theorem dX10_singer_65 : decode cX10_singer 65 = .ok (.iconst 1, 1) := by decide +kernel
theorem dX10_singer_66 : decode cX10_singer 66 = .ok (.invokevirtual 79, 3) := by decide +kernel
theorem dX10_singer_69 : decode cX10_singer 69 = .ok (.aload_n 0, 1) := by decide +kernel
theorem dX10_singer_70 : decode cX10_singer 70 = .ok (.getfield 7, 3) := by decide +kernel
theorem dX10_singer_73 : decode cX10_singer 73 = .ok (.iconst 0, 1) := by decide +kernel
theorem dX10_singer_74 : decode cX10_singer 74 = .ok (.dup2, 1) := by decide +kernel
theorem dX10_singer_75 : decode cX10_singer 75 = .ok (.iaload, 1) := by decide +kernel
theorem dX10_singer_76 : decode cX10_singer 76 = .ok (.iconst 1, 1) := by decide +kernel
theorem dX10_singer_77 : decode cX10_singer 77 = .ok (.iadd, 1) := by decide +kernel
theorem dX10_singer_78 : decode cX10_singer 78 = .ok (.iastore, 1) := by decide +kernel
theorem dX10_singer_79 : decode cX10_singer 79 = .ok (.iload_n 3, 1) := by decide +kernel
theorem dX10_singer_80 : decode cX10_singer 80 = .ok (.ireturn, 1) := by decide +kernel
set_option maxRecDepth 20000 in
theorem ggX10_song_X10_within : GoodIn wsX10_song wsX10_within := goodIn_r _ [5] (by decide +kernel) (by decide +kernel)
set_option maxRecDepth 20000 in
theorem gX10_song_X10_within : GoodIn wsX10_song (va_wsS RX10 36 yX10_within wsX10_within) := goodIn_app (goodIn_of _ (by decide +kernel)) ggX10_song_X10_within
set_option maxRecDepth 20000 in
theorem ggX10_song_X10_record : GoodIn wsX10_song wsX10_record := goodIn_r _ [9, 10, 11, 1, 12, 13, 4, 14, 15, 16, 17, 18, 19, 20, 21, 22, 23, 24, 25, 26] (by decide +kernel) (by decide +kernel)
set_option maxRecDepth 20000 in
theorem gX10_song_X10_record : GoodIn wsX10_song (wsV RX10 86 RX10 yX10_record wsX10_record) := goodIn_app (goodIn_of _ (by decide +kernel)) ggX10_song_X10_record
theorem dX10_song_0 : decode cX10_song 0 = .ok (.iload_n 1, 1) := by decide +kernel
theorem dX10_song_1 : decode cX10_song 1 = .ok (.iconst 0, 1) := by decide +kernel
theorem dX10_song_2 : decode cX10_song 2 = .ok (.bipush 60, 2) := by decide +kernel
theorem dX10_song_4 : decode cX10_song 4 = .ok (.invokestatic 36, 3) := by decide +kernel
theorem dX10_song_7 : decode cX10_song 7 = .ok (.ifCond .eq 23, 3) := by decide +kernel
theorem dX10_song_10 : decode cX10_song 10 = .ok (.iload_n 2, 1) := by decide +kernel
theorem dX10_song_11 : decode cX10_song 11 = .ok (.iload_n 1, 1) := by decide +kernel
theorem dX10_song_12 : decode cX10_song 12 = .ok (.bipush 60, 2) := by decide +kernel
theorem dX10_song_14 : decode cX10_song 14 = .ok (.invokestatic 36, 3) := by decide +kernel
theorem dX10_song_17 : decode cX10_song 17 = .ok (.ifCond .eq 13, 3) := by decide +kernel
theorem dX10_song_20 : decode cX10_song 20 = .ok (.iload_n 3, 1) := by decide +kernel
theorem dX10_song_21 : decode cX10_song 21 = .ok (.iconst 1, 1) := by decide +kernel
theorem dX10_song_22 : decode cX10_song 22 = .ok (.bipush 9, 2) := by decide +kernel
theorem dX10_song_24 : decode cX10_song 24 = .ok (.invokestatic 36, 3) := by decide +kernel
theorem dX10_song_27 : decode cX10_song 27 = .ok (.ifCond .ne 6, 3) := by decide +kernel
theorem dX10_song_30 : decode cX10_song 30 = .ok (.bipush (-2), 2) := by decide +kernel
theorem dX10_song_32 : decode cX10_song 32 = .ok (.ireturn, 1) := by decide +kernel
theorem dX10_song_33 : decode cX10_song 33 = .ok (.aload_n 0, 1) := by decide +kernel
theorem dX10_song_34 : decode cX10_song 34 = .ok (.getfield 7, 3) := by decide +kernel
theorem dX10_song_37 : decode cX10_song 37 = .ok (.iconst 1, 1) := by decide +kernel
theorem dX10_song_38 : decode cX10_song 38 = .ok (.iaload, 1) := by decide +kernel
theorem dX10_song_39 : decode cX10_song 39 = .ok (.bipush 16, 2) := by decide +kernel
theorem dX10_song_41 : decode cX10_song 41 = .ok (.if_icmp .ne 6, 3) := by decide +kernel
theorem dX10_song_44 : decode cX10_song 44 = .ok (.bipush (-4), 2) := by decide +kernel
theorem dX10_song_46 : decode cX10_song 46 = .ok (.ireturn, 1) := by decide +kernel
theorem dX10_song_47 : decode cX10_song 47 = .ok (.aload_n 0, 1) := by decide +kernel
theorem dX10_song_48 : decode cX10_song 48 = .ok (.invokevirtual 86, 3) := by decide +kernel
theorem dX10_song_51 : decode cX10_song 51 = .ok (.aload_n 0, 1) := by decide +kernel
theorem dX10_song_52 : decode cX10_song 52 = .ok (.getfield 7, 3) := by decide +kernel
theorem dX10_song_55 : decode cX10_song 55 = .ok (.iconst 1, 1) := by decide +kernel
theorem dX10_song_56 : decode cX10_song 56 = .ok (.iaload, 1) := by decide +kernel
theorem dX10_song_57 : decode cX10_song 57 = .ok (.istore 4, 2) := by decide +kernel
theorem dX10_song_59 : decode cX10_song 59 = .ok (.aload_n 0, 1) := by decide +kernel
theorem dX10_song_60 : decode cX10_song 60 = .ok (.getfield 7, 3) := by decide +kernel
theorem dX10_song_63 : decode cX10_song 63 = .ok (.bipush 67, 2) := by decide +kernel
theorem dX10_song_65 : decode cX10_song 65 = .ok (.iconst 4, 1) := by decide +kernel
theorem dX10_song_66 : decode cX10_song 66 = .ok (.iload 4, 2) := by decide +kernel
theorem dX10_song_68 : decode cX10_song 68 = .ok (.imul, 1) := by decide +kernel
theorem dX10_song_69 : decode cX10_song 69 = .ok (.iadd, 1) := by decide +kernel
theorem dX10_song_70 : decode cX10_song 70 = .ok (.iconst 0, 1) := by decide +kernel
theorem dX10_song_71 : decode cX10_song 71 = .ok (.iadd, 1) := by decide +kernel
theorem dX10_song_72 : decode cX10_song 72 = .ok (.iload_n 1, 1) := by decide +kernel
theorem dX10_song_73 : decode cX10_song 73 = .ok (.iastore, 1) := by decide +kernel
theorem dX10_song_74 : decode cX10_song 74 = .ok (.aload_n 0, 1) := by decide +kernel
theorem dX10_song_75 : decode cX10_song 75 = .ok (.getfield 7, 3) := by decide +kernel
theorem dX10_song_78 : decode cX10_song 78 = .ok (.bipush 67, 2) := by decide +kernel
theorem dX10_song_80 : decode cX10_song 80 = .ok (.iconst 4, 1) := by decide +kernel
theorem dX10_song_81 : decode cX10_song 81 = .ok (.iload 4, 2) := by decide +kernel
theorem dX10_song_83 : decode cX10_song 83 = .ok (.imul, 1) := by decide +kernel
theorem dX10_song_84 : decode cX10_song 84 = .ok (.iadd, 1) := by decide +kernel
theorem dX10_song_85 : decode cX10_song 85 = .ok (.iconst 1, 1) := by decide +kernel
theorem dX10_song_86 : decode cX10_song 86 = .ok (.iadd, 1) := by decide +kernel
theorem dX10_song_87 : decode cX10_song 87 = .ok (.iload_n 2, 1) := by decide +kernel
theorem dX10_song_88 : decode cX10_song 88 = .ok (.iastore, 1) := by decide +kernel
theorem dX10_song_89 : decode cX10_song 89 = .ok (.aload_n 0, 1) := by decide +kernel
theorem dX10_song_90 : decode cX10_song 90 = .ok (.getfield 7, 3) := by decide +kernel
theorem dX10_song_93 : decode cX10_song 93 = .ok (.bipush 67, 2) := by decide +kernel
theorem dX10_song_95 : decode cX10_song 95 = .ok (.iconst 4, 1) := by decide +kernel
theorem dX10_song_96 : decode cX10_song 96 = .ok (.iload 4, 2) := by decide +kernel
theorem dX10_song_98 : decode cX10_song 98 = .ok (.imul, 1) := by decide +kernel
theorem dX10_song_99 : decode cX10_song 99 = .ok (.iadd, 1) := by decide +kernel
theorem dX10_song_100 : decode cX10_song 100 = .ok (.iconst 2, 1) := by decide +kernel
theorem dX10_song_101 : decode cX10_song 101 = .ok (.iadd, 1) := by decide +kernel
theorem dX10_song_102 : decode cX10_song 102 = .ok (.iload_n 3, 1) := by decide +kernel
theorem dX10_song_103 : decode cX10_song 103 = .ok (.iastore, 1) := by decide +kernel
theorem dX10_song_104 : decode cX10_song 104 = .ok (.aload_n 0, 1) := by decide +kernel
theorem dX10_song_105 : decode cX10_song 105 = .ok (.getfield 7, 3) := by decide +kernel
theorem dX10_song_108 : decode cX10_song 108 = .ok (.iconst 1, 1) := by decide +kernel
theorem dX10_song_109 : decode cX10_song 109 = .ok (.dup2, 1) := by decide +kernel
theorem dX10_song_110 : decode cX10_song 110 = .ok (.iaload, 1) := by decide +kernel
theorem dX10_song_111 : decode cX10_song 111 = .ok (.iconst 1, 1) := by decide +kernel
theorem dX10_song_112 : decode cX10_song 112 = .ok (.iadd, 1) := by decide +kernel
theorem dX10_song_113 : decode cX10_song 113 = .ok (.iastore, 1) := by decide +kernel
theorem dX10_song_114 : decode cX10_song 114 = .ok (.iload 4, 2) := by decide +kernel
theorem dX10_song_116 : decode cX10_song 116 = .ok (.ireturn, 1) := by decide +kernel
set_option maxRecDepth 20000 in
theorem ggX10_leave_X10_isSinger : GoodIn wsX10_leave wsX10_isSinger := goodIn_r _ [5, 6, 7, 8, 4, 9, 34, 35, 36, 37, 38, 39, 40, 41, 42, 43, 44, 45] (by decide +kernel) (by decide +kernel)
set_option maxRecDepth 20000 in
theorem gX10_leave_X10_isSinger : GoodIn wsX10_leave (wsV RX10 89 RX10 yX10_isSinger wsX10_isSinger) := goodIn_app (goodIn_of _ (by decide +kernel)) ggX10_leave_X10_isSinger
set_option maxRecDepth 20000 in
theorem ggX10_leave_X10_singerPart : GoodIn wsX10_leave wsX10_singerPart := goodIn_r _ [13, 6, 34, 35, 36, 37, 38, 39, 40, 41, 42, 43, 44, 45] (by decide +kernel) (by decide +kernel)
set_option maxRecDepth 20000 in
theorem gX10_leave_X10_singerPart : GoodIn wsX10_leave (wsV RX10 40 RX10 yX10_singerPart wsX10_singerPart) := goodIn_app (goodIn_of _ (by decide +kernel)) ggX10_leave_X10_singerPart
set_option maxRecDepth 20000 in
theorem ggX10_leave_X10_record : GoodIn wsX10_leave wsX10_record := goodIn_r _ [17, 18, 19, 6, 20, 21, 4, 22, 34, 35, 36, 37, 38, 39, 40, 41, 42, 43, 44, 45] (by decide +kernel) (by decide +kernel)
set_option maxRecDepth 20000 in
theorem gX10_leave_X10_record : GoodIn wsX10_leave (wsV RX10 86 RX10 yX10_record wsX10_record) := goodIn_app (goodIn_of _ (by decide +kernel)) ggX10_leave_X10_record
set_option maxRecDepth 20000 in
theorem ggX10_leave_X10_setSinger : GoodIn wsX10_leave wsX10_setSinger := goodIn_r _ [26, 6, 34, 35, 36, 37, 38, 39, 40, 41, 42, 43, 44, 45] (by decide +kernel) (by decide +kernel)
set_option maxRecDepth 20000 in
theorem gX10_leave_X10_setSinger : GoodIn wsX10_leave (wsV RX10 79 RX10 yX10_setSinger wsX10_setSinger) := goodIn_app (goodIn_of _ (by decide +kernel)) ggX10_leave_X10_setSinger
set_option maxRecDepth 20000 in
theorem ggX10_leave_X10_there : GoodIn wsX10_leave wsX10_there := goodIn_r _ [30, 6, 10, 11, 12, 4, 13, 34, 35, 36, 37, 38, 39, 40, 41, 42, 43, 44, 45] (by decide +kernel) (by decide +kernel)
set_option maxRecDepth 20000 in
theorem gX10_leave_X10_there : GoodIn wsX10_leave (wsV RX10 57 RX10 yX10_there wsX10_there) := goodIn_app (goodIn_of _ (by decide +kernel)) ggX10_leave_X10_there
set_option maxRecDepth 20000 in
theorem ggX10_leave_X10_bits : GoodIn wsX10_leave wsX10_bits := goodIn_r _ [33] (by decide +kernel) (by decide +kernel)
set_option maxRecDepth 20000 in
theorem gX10_leave_X10_bits : GoodIn wsX10_leave (va_wsS RX10 92 yX10_bits wsX10_bits) := goodIn_app (goodIn_of _ (by decide +kernel)) ggX10_leave_X10_bits
theorem dX10_leave_0 : decode cX10_leave 0 = .ok (.aload_n 0, 1) := by decide +kernel
theorem dX10_leave_1 : decode cX10_leave 1 = .ok (.iload_n 1, 1) := by decide +kernel
theorem dX10_leave_2 : decode cX10_leave 2 = .ok (.invokevirtual 89, 3) := by decide +kernel
theorem dX10_leave_5 : decode cX10_leave 5 = .ok (.ifCond .ne 5, 3) := by decide +kernel
theorem dX10_leave_8 : decode cX10_leave 8 = .ok (.iconst (-1), 1) := by decide +kernel
theorem dX10_leave_9 : decode cX10_leave 9 = .ok (.ireturn, 1) := by decide +kernel
theorem dX10_leave_10 : decode cX10_leave 10 = .ok (.iload_n 2, 1) := by decide +kernel
theorem dX10_leave_11 : decode cX10_leave 11 = .ok (.ifCond .eq 7, 3) := by decide +kernel
theorem dX10_leave_14 : decode cX10_leave 14 = .ok (.iconst 0, 1) := by decide +kernel
theorem dX10_leave_15 : decode cX10_leave 15 = .ok (.goto 4, 3) := by decide +kernel
theorem dX10_leave_18 : decode cX10_leave 18 = .ok (.iconst 1, 1) := by decide +kernel
theorem dX10_leave_19 : decode cX10_leave 19 = .ok (.istore_n 3, 1) := by decide +kernel
theorem dX10_leave_20 : decode cX10_leave 20 = .ok (.aload_n 0, 1) := by decide +kernel
theorem dX10_leave_21 : decode cX10_leave 21 = .ok (.iload_n 1, 1) := by decide +kernel
theorem dX10_leave_22 : decode cX10_leave 22 = .ok (.iconst 2, 1) := by decide +kernel
theorem dX10_leave_23 : decode cX10_leave 23 = .ok (.invokevirtual 40, 3) := by decide +kernel
theorem dX10_leave_26 : decode cX10_leave 26 = .ok (.iload_n 3, 1) := by decide +kernel
theorem dX10_leave_27 : decode cX10_leave 27 = .ok (.if_icmp .ne 6, 3) := by decide +kernel
theorem dX10_leave_30 : decode cX10_leave 30 = .ok (.bipush (-5), 2) := by decide +kernel
theorem dX10_leave_32 : decode cX10_leave 32 = .ok (.ireturn, 1) := by decide +kernel
theorem dX10_leave_33 : decode cX10_leave 33 = .ok (.aload_n 0, 1) := by decide +kernel
theorem dX10_leave_34 : decode cX10_leave 34 = .ok (.invokevirtual 86, 3) := by decide +kernel
theorem dX10_leave_37 : decode cX10_leave 37 = .ok (.aload_n 0, 1) := by decide +kernel
theorem dX10_leave_38 : decode cX10_leave 38 = .ok (.iload_n 1, 1) := by decide +kernel
theorem dX10_leave_39 : decode cX10_leave 39 = .ok (.iconst 2, 1) := by decide +kernel
theorem dX10_leave_40 : decode cX10_leave 40 = .ok (.iload_n 3, 1) := by decide +kernel
theorem dX10_leave_41 : decode cX10_leave 41 = .ok (.invokevirtual 79, 3) := by decide +kernel
theorem dX10_leave_44 : decode cX10_leave 44 = .ok (.aload_n 0, 1) := by decide +kernel
theorem dX10_leave_45 : decode cX10_leave 45 = .ok (.invokevirtual 57, 3) := by decide +kernel
theorem dX10_leave_48 : decode cX10_leave 48 = .ok (.invokestatic 92, 3) := by decide +kernel
theorem dX10_leave_51 : decode cX10_leave 51 = .ok (.ireturn, 1) := by decide +kernel
set_option maxRecDepth 20000 in
theorem ggX10_areSingers_X10_isSinger : GoodIn wsX10_areSingers wsX10_isSinger := goodIn_r _ [5, 6, 7, 8, 4, 9, 10, 11, 12, 13, 14, 15, 16, 17, 18, 19, 20, 21] (by decide +kernel) (by decide +kernel)
set_option maxRecDepth 20000 in
theorem gX10_areSingers_X10_isSinger : GoodIn wsX10_areSingers (wsV RX10 89 RX10 yX10_isSinger wsX10_isSinger) := goodIn_app (goodIn_of _ (by decide +kernel)) ggX10_areSingers_X10_isSinger
theorem dX10_areSingers_0 : decode cX10_areSingers 0 = .ok (.aload_n 0, 1) := by decide +kernel
theorem dX10_areSingers_1 : decode cX10_areSingers 1 = .ok (.iload_n 1, 1) := by decide +kernel
theorem dX10_areSingers_2 : decode cX10_areSingers 2 = .ok (.invokevirtual 89, 3) := by decide +kernel
theorem dX10_areSingers_5 : decode cX10_areSingers 5 = .ok (.ifCond .eq 21, 3) := by decide +kernel
theorem dX10_areSingers_8 : decode cX10_areSingers 8 = .ok (.iload_n 2, 1) := by decide +kernel
theorem dX10_areSingers_9 : decode cX10_areSingers 9 = .ok (.bipush (-6), 2) := by decide +kernel
theorem dX10_areSingers_11 : decode cX10_areSingers 11 = .ok (.if_icmp .eq 11, 3) := by decide +kernel
theorem dX10_areSingers_14 : decode cX10_areSingers 14 = .ok (.aload_n 0, 1) := by decide +kernel
theorem dX10_areSingers_15 : decode cX10_areSingers 15 = .ok (.iload_n 2, 1) := by decide +kernel
theorem dX10_areSingers_16 : decode cX10_areSingers 16 = .ok (.invokevirtual 89, 3) := by decide +kernel
theorem dX10_areSingers_19 : decode cX10_areSingers 19 = .ok (.ifCond .eq 7, 3) := by decide +kernel
theorem dX10_areSingers_22 : decode cX10_areSingers 22 = .ok (.iconst 1, 1) := by decide +kernel
theorem dX10_areSingers_23 : decode cX10_areSingers 23 = .ok (.goto 4, 3) := by decide +kernel
theorem dX10_areSingers_26 : decode cX10_areSingers 26 = .ok (.iconst 0, 1) := by decide +kernel
theorem dX10_areSingers_27 : decode cX10_areSingers 27 = .ok (.ireturn, 1) := by decide +kernel
set_option maxRecDepth 20000 in
theorem ggX10_whyNotWished_X10_areSingers : GoodIn wsX10_whyNotWished wsX10_areSingers := goodIn_r _ [6, 7, 8, 9, 5, 10, 1, 11, 12, 13, 34, 35, 36, 37, 38, 39, 40, 41, 42, 43, 44, 45] (by decide +kernel) (by decide +kernel)
set_option maxRecDepth 20000 in
theorem gX10_whyNotWished_X10_areSingers : GoodIn wsX10_whyNotWished (wsV RX10 95 RX10 yX10_areSingers wsX10_areSingers) := goodIn_app (goodIn_of _ (by decide +kernel)) ggX10_whyNotWished_X10_areSingers
set_option maxRecDepth 20000 in
theorem ggX10_whyNotWished_X10_isSong : GoodIn wsX10_whyNotWished wsX10_isSong := goodIn_r _ [17, 1, 11, 12, 5, 13, 34, 35, 36, 37, 38, 39, 40, 41, 42, 43, 44, 45] (by decide +kernel) (by decide +kernel)
set_option maxRecDepth 20000 in
theorem gX10_whyNotWished_X10_isSong : GoodIn wsX10_whyNotWished (wsV RX10 99 RX10 yX10_isSong wsX10_isSong) := goodIn_app (goodIn_of _ (by decide +kernel)) ggX10_whyNotWished_X10_isSong
set_option maxRecDepth 20000 in
theorem ggX10_whyNotWished_X10_keyFor : GoodIn wsX10_whyNotWished wsX10_keyFor := goodIn_r _ [21, 22, 23, 24, 5, 25, 26, 27, 28, 29, 1, 30, 31, 32, 33, 34, 35, 36, 37, 38, 39, 40, 41, 42, 43, 44, 45] (by decide +kernel) (by decide +kernel)
set_option maxRecDepth 20000 in
theorem gX10_whyNotWished_X10_keyFor : GoodIn wsX10_whyNotWished (wsV RX10 102 RX10 yX10_keyFor wsX10_keyFor) := goodIn_app (goodIn_of _ (by decide +kernel)) ggX10_whyNotWished_X10_keyFor
theorem dX10_whyNotWished_0 : decode cX10_whyNotWished 0 = .ok (.aload_n 0, 1) := by decide +kernel
theorem dX10_whyNotWished_1 : decode cX10_whyNotWished 1 = .ok (.iload_n 1, 1) := by decide +kernel
theorem dX10_whyNotWished_2 : decode cX10_whyNotWished 2 = .ok (.iload_n 2, 1) := by decide +kernel
theorem dX10_whyNotWished_3 : decode cX10_whyNotWished 3 = .ok (.invokevirtual 95, 3) := by decide +kernel
theorem dX10_whyNotWished_6 : decode cX10_whyNotWished 6 = .ok (.ifCond .eq 11, 3) := by decide +kernel
theorem dX10_whyNotWished_9 : decode cX10_whyNotWished 9 = .ok (.aload_n 0, 1) := by decide +kernel
theorem dX10_whyNotWished_10 : decode cX10_whyNotWished 10 = .ok (.iload_n 3, 1) := by decide +kernel
theorem dX10_whyNotWished_11 : decode cX10_whyNotWished 11 = .ok (.invokevirtual 99, 3) := by decide +kernel
theorem dX10_whyNotWished_14 : decode cX10_whyNotWished 14 = .ok (.ifCond .ne 5, 3) := by decide +kernel
theorem dX10_whyNotWished_17 : decode cX10_whyNotWished 17 = .ok (.iconst (-1), 1) := by decide +kernel
theorem dX10_whyNotWished_18 : decode cX10_whyNotWished 18 = .ok (.ireturn, 1) := by decide +kernel
theorem dX10_whyNotWished_19 : decode cX10_whyNotWished 19 = .ok (.iload_n 1, 1) := by decide +kernel
theorem dX10_whyNotWished_20 : decode cX10_whyNotWished 20 = .ok (.iload_n 2, 1) := by decide +kernel
theorem dX10_whyNotWished_21 : decode cX10_whyNotWished 21 = .ok (.if_icmp .ne 6, 3) := by decide +kernel
theorem dX10_whyNotWished_24 : decode cX10_whyNotWished 24 = .ok (.bipush (-2), 2) := by decide +kernel
theorem dX10_whyNotWished_26 : decode cX10_whyNotWished 26 = .ok (.ireturn, 1) := by decide +kernel
theorem dX10_whyNotWished_27 : decode cX10_whyNotWished 27 = .ok (.aload_n 0, 1) := by decide +kernel
theorem dX10_whyNotWished_28 : decode cX10_whyNotWished 28 = .ok (.getfield 7, 3) := by decide +kernel
theorem dX10_whyNotWished_31 : decode cX10_whyNotWished 31 = .ok (.iconst 2, 1) := by decide +kernel
theorem dX10_whyNotWished_32 : decode cX10_whyNotWished 32 = .ok (.iaload, 1) := by decide +kernel
theorem dX10_whyNotWished_33 : decode cX10_whyNotWished 33 = .ok (.bipush 20, 2) := by decide +kernel
theorem dX10_whyNotWished_35 : decode cX10_whyNotWished 35 = .ok (.if_icmp .ne 8, 3) := by decide +kernel
theorem dX10_whyNotWished_38 : decode cX10_whyNotWished 38 = .ok (.bipush (-4), 2) := by decide +kernel
theorem dX10_whyNotWished_40 : decode cX10_whyNotWished 40 = .ok (.goto 21, 3) := by decide +kernel
theorem dX10_whyNotWished_43 : decode cX10_whyNotWished 43 = .ok (.aload_n 0, 1) := by decide +kernel
theorem dX10_whyNotWished_44 : decode cX10_whyNotWished 44 = .ok (.iload_n 1, 1) := by decide +kernel
theorem dX10_whyNotWished_45 : decode cX10_whyNotWished 45 = .ok (.iload_n 2, 1) := by decide +kernel
theorem dX10_whyNotWished_46 : decode cX10_whyNotWished 46 = .ok (.iload_n 3, 1) := by decide +kernel
theorem dX10_whyNotWished_47 : decode cX10_whyNotWished 47 = .ok (.invokevirtual 102, 3) := by decide +kernel
theorem dX10_whyNotWished_50 : decode cX10_whyNotWished 50 = .ok (.bipush (-6), 2) := by decide +kernel
theorem dX10_whyNotWished_52 : decode cX10_whyNotWished 52 = .ok (.if_icmp .ne 8, 3) := by decide +kernel
theorem dX10_whyNotWished_55 : decode cX10_whyNotWished 55 = .ok (.bipush (-5), 2) := by decide +kernel
theorem dX10_whyNotWished_57 : decode cX10_whyNotWished 57 = .ok (.goto 4, 3) := by decide +kernel
theorem dX10_whyNotWished_60 : decode cX10_whyNotWished 60 = .ok (.iconst 0, 1) := by decide +kernel
theorem dX10_whyNotWished_61 : decode cX10_whyNotWished 61 = .ok (.ireturn, 1) := by decide +kernel
theorem dX10_wished_0 : decode cX10_wished 0 = .ok (.aload_n 0, 1) := by decide +kernel
theorem dX10_wished_1 : decode cX10_wished 1 = .ok (.getfield 7, 3) := by decide +kernel
theorem dX10_wished_4 : decode cX10_wished 4 = .ok (.iconst 2, 1) := by decide +kernel
theorem dX10_wished_5 : decode cX10_wished 5 = .ok (.iaload, 1) := by decide +kernel
theorem dX10_wished_6 : decode cX10_wished 6 = .ok (.istore 4, 2) := by decide +kernel
theorem dX10_wished_8 : decode cX10_wished 8 = .ok (.aload_n 0, 1) := by decide +kernel
theorem dX10_wished_9 : decode cX10_wished 9 = .ok (.getfield 7, 3) := by decide +kernel
theorem dX10_wished_12 : decode cX10_wished 12 = .ok (.sipush 131, 3) := by decide +kernel
theorem dX10_wished_15 : decode cX10_wished 15 = .ok (.iconst 3, 1) := by decide +kernel
theorem dX10_wished_16 : decode cX10_wished 16 = .ok (.iload 4, 2) := by decide +kernel
theorem dX10_wished_18 : decode cX10_wished 18 = .ok (.imul, 1) := by decide +kernel
theorem dX10_wished_19 : decode cX10_wished 19 = .ok (.iadd, 1) := by decide +kernel
theorem dX10_wished_20 : decode cX10_wished 20 = .ok (.iconst 0, 1) := by decide +kernel
theorem dX10_wished_21 : decode cX10_wished 21 = .ok (.iadd, 1) := by decide +kernel
theorem dX10_wished_22 : decode cX10_wished 22 = .ok (.iload_n 1, 1) := by decide +kernel
theorem dX10_wished_23 : decode cX10_wished 23 = .ok (.iastore, 1) := by decide +kernel
theorem dX10_wished_24 : decode cX10_wished 24 = .ok (.aload_n 0, 1) := by decide +kernel
theorem dX10_wished_25 : decode cX10_wished 25 = .ok (.getfield 7, 3) := by decide +kernel
theorem dX10_wished_28 : decode cX10_wished 28 = .ok (.sipush 131, 3) := by decide +kernel
theorem dX10_wished_31 : decode cX10_wished 31 = .ok (.iconst 3, 1) := by decide +kernel
theorem dX10_wished_32 : decode cX10_wished 32 = .ok (.iload 4, 2) := by decide +kernel
theorem dX10_wished_34 : decode cX10_wished 34 = .ok (.imul, 1) := by decide +kernel
theorem dX10_wished_35 : decode cX10_wished 35 = .ok (.iadd, 1) := by decide +kernel
theorem dX10_wished_36 : decode cX10_wished 36 = .ok (.iconst 1, 1) := by decide +kernel
theorem dX10_wished_37 : decode cX10_wished 37 = .ok (.iadd, 1) := by decide +kernel
theorem dX10_wished_38 : decode cX10_wished 38 = .ok (.iload_n 2, 1) := by decide +kernel
theorem dX10_wished_39 : decode cX10_wished 39 = .ok (.iastore, 1) := by decide +kernel
theorem dX10_wished_40 : decode cX10_wished 40 = .ok (.aload_n 0, 1) := by decide +kernel
theorem dX10_wished_41 : decode cX10_wished 41 = .ok (.getfield 7, 3) := by decide +kernel
theorem dX10_wished_44 : decode cX10_wished 44 = .ok (.sipush 131, 3) := by decide +kernel
theorem dX10_wished_47 : decode cX10_wished 47 = .ok (.iconst 3, 1) := by decide +kernel
theorem dX10_wished_48 : decode cX10_wished 48 = .ok (.iload 4, 2) := by decide +kernel
theorem dX10_wished_50 : decode cX10_wished 50 = .ok (.imul, 1) := by decide +kernel
theorem dX10_wished_51 : decode cX10_wished 51 = .ok (.iadd, 1) := by decide +kernel
theorem dX10_wished_52 : decode cX10_wished 52 = .ok (.iconst 2, 1) := by decide +kernel
theorem dX10_wished_53 : decode cX10_wished 53 = .ok (.iadd, 1) := by decide +kernel
theorem dX10_wished_54 : decode cX10_wished 54 = .ok (.iload_n 3, 1) := by decide +kernel
theorem dX10_wished_55 : decode cX10_wished 55 = .ok (.iastore, 1) := by decide +kernel
theorem dX10_wished_56 : decode cX10_wished 56 = .ok (.aload_n 0, 1) := by decide +kernel
theorem dX10_wished_57 : decode cX10_wished 57 = .ok (.getfield 7, 3) := by decide +kernel
theorem dX10_wished_60 : decode cX10_wished 60 = .ok (.iconst 2, 1) := by decide +kernel
theorem dX10_wished_61 : decode cX10_wished 61 = .ok (.dup2, 1) := by decide +kernel
theorem dX10_wished_62 : decode cX10_wished 62 = .ok (.iaload, 1) := by decide +kernel
theorem dX10_wished_63 : decode cX10_wished 63 = .ok (.iconst 1, 1) := by decide +kernel
theorem dX10_wished_64 : decode cX10_wished 64 = .ok (.iadd, 1) := by decide +kernel
theorem dX10_wished_65 : decode cX10_wished 65 = .ok (.iastore, 1) := by decide +kernel
theorem dX10_wished_66 : decode cX10_wished 66 = .ok (.iload 4, 2) := by decide +kernel
theorem dX10_wished_68 : decode cX10_wished 68 = .ok (.ireturn, 1) := by decide +kernel
set_option maxRecDepth 20000 in
theorem ggX10_wish_X10_whyNotWished : GoodIn wsX10_wish wsX10_whyNotWished := goodIn_r _ [5, 6, 7, 8, 9, 4, 10, 11, 12, 13, 14, 15, 16, 17, 18, 19, 20, 21, 22, 23, 24, 25, 26, 27, 28, 29, 30, 31, 32, 33, 34, 35, 36, 37, 51, 52, 53, 54, 55, 56, 57, 58, 59, 60, 61, 62] (by decide +kernel) (by decide +kernel)
set_option maxRecDepth 20000 in
theorem gX10_wish_X10_whyNotWished : GoodIn wsX10_wish (wsV RX10 106 RX10 yX10_whyNotWished wsX10_whyNotWished) := goodIn_app (goodIn_of _ (by decide +kernel)) ggX10_wish_X10_whyNotWished
set_option maxRecDepth 20000 in
theorem ggX10_wish_X10_record : GoodIn wsX10_wish wsX10_record := goodIn_r _ [41, 42, 43, 6, 44, 45, 4, 46, 51, 52, 53, 54, 55, 56, 57, 58, 59, 60, 61, 62] (by decide +kernel) (by decide +kernel)
set_option maxRecDepth 20000 in
theorem gX10_wish_X10_record : GoodIn wsX10_wish (wsV RX10 86 RX10 yX10_record wsX10_record) := goodIn_app (goodIn_of _ (by decide +kernel)) ggX10_wish_X10_record
set_option maxRecDepth 20000 in
theorem ggX10_wish_X10_wished : GoodIn wsX10_wish wsX10_wished := goodIn_r _ [50, 6, 51, 52, 53, 54, 55, 56, 57, 58, 59, 60, 61, 62] (by decide +kernel) (by decide +kernel)
set_option maxRecDepth 20000 in
theorem gX10_wish_X10_wished : GoodIn wsX10_wish (wsV RX10 109 RX10 yX10_wished wsX10_wished) := goodIn_app (goodIn_of _ (by decide +kernel)) ggX10_wish_X10_wished
theorem dX10_wish_0 : decode cX10_wish 0 = .ok (.aload_n 0, 1) := by decide +kernel
theorem dX10_wish_1 : decode cX10_wish 1 = .ok (.iload_n 1, 1) := by decide +kernel
theorem dX10_wish_2 : decode cX10_wish 2 = .ok (.iload_n 2, 1) := by decide +kernel
theorem dX10_wish_3 : decode cX10_wish 3 = .ok (.iload_n 3, 1) := by decide +kernel
theorem dX10_wish_4 : decode cX10_wish 4 = .ok (.invokevirtual 106, 3) := by decide +kernel
theorem dX10_wish_7 : decode cX10_wish 7 = .ok (.istore 4, 2) := by decide +kernel
theorem dX10_wish_9 : decode cX10_wish 9 = .ok (.iload 4, 2) := by decide +kernel
theorem dX10_wish_11 : decode cX10_wish 11 = .ok (.ifCond .ge 6, 3) := by decide +kernel
theorem dX10_wish_14 : decode cX10_wish 14 = .ok (.iload 4, 2) := by decide +kernel
theorem dX10_wish_16 : decode cX10_wish 16 = .ok (.ireturn, 1) := by decide +kernel
theorem dX10_wish_17 : decode cX10_wish 17 = .ok (.aload_n 0, 1) := by decide +kernel
theorem dX10_wish_18 : decode cX10_wish 18 = .ok (.invokevirtual 86, 3) := by decide +kernel
theorem dX10_wish_21 : decode cX10_wish 21 = .ok (.aload_n 0, 1) := by decide +kernel
theorem dX10_wish_22 : decode cX10_wish 22 = .ok (.iload_n 1, 1) := by decide +kernel
theorem dX10_wish_23 : decode cX10_wish 23 = .ok (.iload_n 2, 1) := by decide +kernel
theorem dX10_wish_24 : decode cX10_wish 24 = .ok (.iload_n 3, 1) := by decide +kernel
theorem dX10_wish_25 : decode cX10_wish 25 = .ok (.invokevirtual 109, 3) := by decide +kernel
theorem dX10_wish_28 : decode cX10_wish 28 = .ok (.ireturn, 1) := by decide +kernel
set_option maxRecDepth 20000 in
theorem ggX10_takeBack_X10_isWish : GoodIn wsX10_takeBack wsX10_isWish := goodIn_r _ [6, 1, 7, 8, 5, 9, 23, 24, 25, 26, 27, 28, 29, 30, 31, 32, 33, 34] (by decide +kernel) (by decide +kernel)
set_option maxRecDepth 20000 in
theorem gX10_takeBack_X10_isWish : GoodIn wsX10_takeBack (wsV RX10 112 RX10 yX10_isWish wsX10_isWish) := goodIn_app (goodIn_of _ (by decide +kernel)) ggX10_takeBack_X10_isWish
set_option maxRecDepth 20000 in
theorem ggX10_takeBack_X10_record : GoodIn wsX10_takeBack wsX10_record := goodIn_r _ [13, 14, 15, 1, 16, 17, 5, 18, 23, 24, 25, 26, 27, 28, 29, 30, 31, 32, 33, 34] (by decide +kernel) (by decide +kernel)
set_option maxRecDepth 20000 in
theorem gX10_takeBack_X10_record : GoodIn wsX10_takeBack (wsV RX10 86 RX10 yX10_record wsX10_record) := goodIn_app (goodIn_of _ (by decide +kernel)) ggX10_takeBack_X10_record
set_option maxRecDepth 20000 in
theorem ggX10_takeBack_X10_remove : GoodIn wsX10_takeBack wsX10_remove := goodIn_r _ [22, 1, 23, 24, 25, 26, 27, 28, 29, 30, 31, 32, 33, 34] (by decide +kernel) (by decide +kernel)
set_option maxRecDepth 20000 in
theorem gX10_takeBack_X10_remove : GoodIn wsX10_takeBack (wsV RX10 83 RX10 yX10_remove wsX10_remove) := goodIn_app (goodIn_of _ (by decide +kernel)) ggX10_takeBack_X10_remove
theorem dX10_takeBack_0 : decode cX10_takeBack 0 = .ok (.aload_n 0, 1) := by decide +kernel
theorem dX10_takeBack_1 : decode cX10_takeBack 1 = .ok (.iload_n 1, 1) := by decide +kernel
theorem dX10_takeBack_2 : decode cX10_takeBack 2 = .ok (.invokevirtual 112, 3) := by decide +kernel
theorem dX10_takeBack_5 : decode cX10_takeBack 5 = .ok (.ifCond .ne 5, 3) := by decide +kernel
theorem dX10_takeBack_8 : decode cX10_takeBack 8 = .ok (.iconst (-1), 1) := by decide +kernel
theorem dX10_takeBack_9 : decode cX10_takeBack 9 = .ok (.ireturn, 1) := by decide +kernel
theorem dX10_takeBack_10 : decode cX10_takeBack 10 = .ok (.aload_n 0, 1) := by decide +kernel
theorem dX10_takeBack_11 : decode cX10_takeBack 11 = .ok (.invokevirtual 86, 3) := by decide +kernel
theorem dX10_takeBack_14 : decode cX10_takeBack 14 = .ok (.aload_n 0, 1) := by decide +kernel
theorem dX10_takeBack_15 : decode cX10_takeBack 15 = .ok (.iload_n 1, 1) := by decide +kernel
theorem dX10_takeBack_16 : decode cX10_takeBack 16 = .ok (.invokevirtual 83, 3) := by decide +kernel
theorem dX10_takeBack_19 : decode cX10_takeBack 19 = .ok (.aload_n 0, 1) := by decide +kernel
theorem dX10_takeBack_20 : decode cX10_takeBack 20 = .ok (.getfield 7, 3) := by decide +kernel
theorem dX10_takeBack_23 : decode cX10_takeBack 23 = .ok (.iconst 2, 1) := by decide +kernel
theorem dX10_takeBack_24 : decode cX10_takeBack 24 = .ok (.iaload, 1) := by decide +kernel
theorem dX10_takeBack_25 : decode cX10_takeBack 25 = .ok (.ireturn, 1) := by decide +kernel
set_option maxRecDepth 20000 in
theorem ggX10_sing_X10_within : GoodIn wsX10_sing wsX10_within := goodIn_r _ [4] (by decide +kernel) (by decide +kernel)
set_option maxRecDepth 20000 in
theorem gX10_sing_X10_within : GoodIn wsX10_sing (va_wsS RX10 36 yX10_within wsX10_within) := goodIn_app (goodIn_of _ (by decide +kernel)) ggX10_sing_X10_within
set_option maxRecDepth 20000 in
theorem ggX10_sing_X10_record : GoodIn wsX10_sing wsX10_record := goodIn_r _ [8, 9, 10, 11, 12, 13, 3, 14, 71, 72, 73, 74, 75, 76, 77, 78, 79, 80, 81, 82] (by decide +kernel) (by decide +kernel)
set_option maxRecDepth 20000 in
theorem gX10_sing_X10_record : GoodIn wsX10_sing (wsV RX10 86 RX10 yX10_record wsX10_record) := goodIn_app (goodIn_of _ (by decide +kernel)) ggX10_sing_X10_record
set_option maxRecDepth 20000 in
theorem ggX10_sing_X10_nextWish : GoodIn wsX10_sing wsX10_nextWish := goodIn_r _ [18, 19, 20, 21, 3, 22, 11, 23, 24, 25, 26, 27, 28, 29, 30, 31, 32, 33, 34, 35, 36, 37, 38, 39, 40, 41, 42, 43, 44, 45, 46, 47, 48, 49, 50, 71, 72, 73, 74, 75, 76, 77, 78, 79, 80, 81, 82] (by decide +kernel) (by decide +kernel)
set_option maxRecDepth 20000 in
theorem gX10_sing_X10_nextWish : GoodIn wsX10_sing (wsV RX10 115 RX10 yX10_nextWish wsX10_nextWish) := goodIn_app (goodIn_of _ (by decide +kernel)) ggX10_sing_X10_nextWish
set_option maxRecDepth 20000 in
theorem ggX10_sing_X10_singWish : GoodIn wsX10_sing wsX10_singWish := goodIn_r _ [54, 11, 27, 28, 29, 3, 30, 31, 32, 33, 34, 55, 56, 57, 58, 59, 60, 61, 62, 39, 40, 41, 42, 63, 64, 65, 66, 67, 68, 69, 70, 71, 72, 73, 74, 75, 76, 77, 78, 79, 80, 81, 82] (by decide +kernel) (by decide +kernel)
set_option maxRecDepth 20000 in
theorem gX10_sing_X10_singWish : GoodIn wsX10_sing (wsV RX10 118 RX10 yX10_singWish wsX10_singWish) := goodIn_app (goodIn_of _ (by decide +kernel)) ggX10_sing_X10_singWish
theorem dX10_sing_0 : decode cX10_sing 0 = .ok (.iload_n 1, 1) := by decide +kernel
theorem dX10_sing_1 : decode cX10_sing 1 = .ok (.iconst 1, 1) := by decide +kernel
theorem dX10_sing_2 : decode cX10_sing 2 = .ok (.bipush 20, 2) := by decide +kernel
theorem dX10_sing_4 : decode cX10_sing 4 = .ok (.invokestatic 36, 3) := by decide +kernel
theorem dX10_sing_7 : decode cX10_sing 7 = .ok (.ifCond .ne 6, 3) := by decide +kernel
theorem dX10_sing_10 : decode cX10_sing 10 = .ok (.bipush (-2), 2) := by decide +kernel
theorem dX10_sing_12 : decode cX10_sing 12 = .ok (.ireturn, 1) := by decide +kernel
theorem dX10_sing_13 : decode cX10_sing 13 = .ok (.aload_n 0, 1) := by decide +kernel
theorem dX10_sing_14 : decode cX10_sing 14 = .ok (.invokevirtual 86, 3) := by decide +kernel
theorem dX10_sing_17 : decode cX10_sing 17 = .ok (.iconst 0, 1) := by decide +kernel
theorem dX10_sing_18 : decode cX10_sing 18 = .ok (.istore_n 2, 1) := by decide +kernel
theorem dX10_sing_19 : decode cX10_sing 19 = .ok (.aload_n 0, 1) := by decide +kernel
theorem dX10_sing_20 : decode cX10_sing 20 = .ok (.invokevirtual 115, 3) := by decide +kernel
theorem dX10_sing_23 : decode cX10_sing 23 = .ok (.istore_n 3, 1) := by decide +kernel
theorem dX10_sing_24 : decode cX10_sing 24 = .ok (.iload_n 2, 1) := by decide +kernel
theorem dX10_sing_25 : decode cX10_sing 25 = .ok (.iload_n 1, 1) := by decide +kernel
theorem dX10_sing_26 : decode cX10_sing 26 = .ok (.if_icmp .ge 25, 3) := by decide +kernel
theorem dX10_sing_29 : decode cX10_sing 29 = .ok (.iload_n 3, 1) := by decide +kernel
theorem dX10_sing_30 : decode cX10_sing 30 = .ok (.bipush (-6), 2) := by decide +kernel
theorem dX10_sing_32 : decode cX10_sing 32 = .ok (.if_icmp .eq 19, 3) := by decide +kernel
theorem dX10_sing_35 : decode cX10_sing 35 = .ok (.aload_n 0, 1) := by decide +kernel
theorem dX10_sing_36 : decode cX10_sing 36 = .ok (.iload_n 3, 1) := by decide +kernel
theorem dX10_sing_37 : decode cX10_sing 37 = .ok (.invokevirtual 118, 3) := by decide +kernel
theorem dX10_sing_40 : decode cX10_sing 40 = .ok (.iinc 2 1, 3) := by decide +kernel
theorem dX10_sing_43 : decode cX10_sing 43 = .ok (.aload_n 0, 1) := by decide +kernel
theorem dX10_sing_44 : decode cX10_sing 44 = .ok (.invokevirtual 115, 3) := by decide +kernel
theorem dX10_sing_47 : decode cX10_sing 47 = .ok (.istore_n 3, 1) := by decide +kernel
theorem dX10_sing_48 : decode cX10_sing 48 = .ok (.goto (-24), 3) := by decide +kernel
theorem dX10_sing_51 : decode cX10_sing 51 = .ok (.iload_n 2, 1) := by decide +kernel
theorem dX10_sing_52 : decode cX10_sing 52 = .ok (.ireturn, 1) := by decide +kernel
set_option maxRecDepth 20000 in
theorem ggX10_read_X10_findFault : GoodIn wsX10_read wsX10_findFault := goodIn_r _ [7, 8, 2, 9, 10, 11, 6, 12, 13, 14, 15, 16, 17, 18, 19, 20, 21, 22, 23, 24, 25, 26, 27, 28, 29, 30, 31, 81, 82, 83, 84, 85, 86, 87, 88, 89, 90, 91, 92] (by decide +kernel) (by decide +kernel)
set_option maxRecDepth 20000 in
theorem gX10_read_X10_findFault : GoodIn wsX10_read (wsV RX10 121 RX10 yX10_findFault wsX10_findFault) := goodIn_app (goodIn_of _ (by decide +kernel)) ggX10_read_X10_findFault
set_option maxRecDepth 20000 in
theorem ggX10_read_X10_makeAll : GoodIn wsX10_read wsX10_makeAll := goodIn_r _ [35, 8, 2, 13, 14, 15, 9, 10, 11, 6, 12, 16, 17, 18, 19, 20, 21, 22, 23, 24, 25, 26, 27, 28, 29, 30, 31, 36, 37, 38, 39, 1, 40, 41, 42, 43, 44, 45, 46, 47, 48, 49, 50, 51, 52, 53, 54, 55, 56, 57, 58, 59, 60, 61, 62, 63, 64, 65, 66, 67, 68, 69, 70, 71, 81, 82, 83, 84, 85, 86, 87, 88, 89, 90, 91, 92] (by decide +kernel) (by decide +kernel)
set_option maxRecDepth 20000 in
theorem gX10_read_X10_makeAll : GoodIn wsX10_read (wsV RX10 124 RX10 yX10_makeAll wsX10_makeAll) := goodIn_app (goodIn_of _ (by decide +kernel)) ggX10_read_X10_makeAll
set_option maxRecDepth 20000 in
theorem ggX10_read_X10_record : GoodIn wsX10_read wsX10_record := goodIn_r _ [75, 76, 77, 1, 78, 79, 6, 80, 81, 82, 83, 84, 85, 86, 87, 88, 89, 90, 91, 92] (by decide +kernel) (by decide +kernel)
set_option maxRecDepth 20000 in
theorem gX10_read_X10_record : GoodIn wsX10_read (wsV RX10 86 RX10 yX10_record wsX10_record) := goodIn_app (goodIn_of _ (by decide +kernel)) ggX10_read_X10_record
theorem dX10_read_0 : decode cX10_read 0 = .ok (.aload_n 0, 1) := by decide +kernel
theorem dX10_read_1 : decode cX10_read 1 = .ok (.invokevirtual 121, 3) := by decide +kernel
theorem dX10_read_4 : decode cX10_read 4 = .ok (.bipush (-6), 2) := by decide +kernel
theorem dX10_read_6 : decode cX10_read 6 = .ok (.if_icmp .eq 6, 3) := by decide +kernel
theorem dX10_read_9 : decode cX10_read 9 = .ok (.bipush (-3), 2) := by decide +kernel
theorem dX10_read_11 : decode cX10_read 11 = .ok (.ireturn, 1) := by decide +kernel
theorem dX10_read_12 : decode cX10_read 12 = .ok (.aload_n 0, 1) := by decide +kernel
theorem dX10_read_13 : decode cX10_read 13 = .ok (.getfield 7, 3) := by decide +kernel
theorem dX10_read_16 : decode cX10_read 16 = .ok (.iconst 2, 1) := by decide +kernel
theorem dX10_read_17 : decode cX10_read 17 = .ok (.iaload, 1) := by decide +kernel
theorem dX10_read_18 : decode cX10_read 18 = .ok (.istore_n 1, 1) := by decide +kernel
theorem dX10_read_19 : decode cX10_read 19 = .ok (.aload_n 0, 1) := by decide +kernel
theorem dX10_read_20 : decode cX10_read 20 = .ok (.invokevirtual 124, 3) := by decide +kernel
theorem dX10_read_23 : decode cX10_read 23 = .ok (.istore_n 2, 1) := by decide +kernel
theorem dX10_read_24 : decode cX10_read 24 = .ok (.aload_n 0, 1) := by decide +kernel
theorem dX10_read_25 : decode cX10_read 25 = .ok (.getfield 7, 3) := by decide +kernel
theorem dX10_read_28 : decode cX10_read 28 = .ok (.iconst 2, 1) := by decide +kernel
theorem dX10_read_29 : decode cX10_read 29 = .ok (.iload_n 1, 1) := by decide +kernel
theorem dX10_read_30 : decode cX10_read 30 = .ok (.iastore, 1) := by decide +kernel
theorem dX10_read_31 : decode cX10_read 31 = .ok (.iload_n 2, 1) := by decide +kernel
theorem dX10_read_32 : decode cX10_read 32 = .ok (.ifCond .ge 5, 3) := by decide +kernel
theorem dX10_read_35 : decode cX10_read 35 = .ok (.iload_n 2, 1) := by decide +kernel
theorem dX10_read_36 : decode cX10_read 36 = .ok (.ireturn, 1) := by decide +kernel
theorem dX10_read_37 : decode cX10_read 37 = .ok (.aload_n 0, 1) := by decide +kernel
theorem dX10_read_38 : decode cX10_read 38 = .ok (.invokevirtual 86, 3) := by decide +kernel
theorem dX10_read_41 : decode cX10_read 41 = .ok (.aload_n 0, 1) := by decide +kernel
theorem dX10_read_42 : decode cX10_read 42 = .ok (.invokevirtual 124, 3) := by decide +kernel
theorem dX10_read_45 : decode cX10_read 45 = .ok (.pop, 1) := by decide +kernel
theorem dX10_read_46 : decode cX10_read 46 = .ok (.aload_n 0, 1) := by decide +kernel
theorem dX10_read_47 : decode cX10_read 47 = .ok (.iconst 0, 1) := by decide +kernel
theorem dX10_read_48 : decode cX10_read 48 = .ok (.putfield 127, 3) := by decide +kernel
theorem dX10_read_51 : decode cX10_read 51 = .ok (.aload_n 0, 1) := by decide +kernel
theorem dX10_read_52 : decode cX10_read 52 = .ok (.getfield 7, 3) := by decide +kernel
theorem dX10_read_55 : decode cX10_read 55 = .ok (.iconst 2, 1) := by decide +kernel
theorem dX10_read_56 : decode cX10_read 56 = .ok (.iaload, 1) := by decide +kernel
theorem dX10_read_57 : decode cX10_read 57 = .ok (.ireturn, 1) := by decide +kernel
set_option maxRecDepth 20000 in
theorem ggX10_makeAll_X10_readsWish : GoodIn wsX10_makeAll wsX10_readsWish := goodIn_r _ [10, 3, 4, 5, 11, 12, 13, 9, 14, 1, 15, 16, 17, 18, 2, 19, 20, 21, 22, 23, 24, 25, 26, 64, 65, 66, 67, 68, 69, 70, 71, 72, 73, 74, 75] (by decide +kernel) (by decide +kernel)
set_option maxRecDepth 20000 in
theorem gX10_makeAll_X10_readsWish : GoodIn wsX10_makeAll (wsV RX10 133 RX10 yX10_readsWish wsX10_readsWish) := goodIn_app (goodIn_of _ (by decide +kernel)) ggX10_makeAll_X10_readsWish
set_option maxRecDepth 20000 in
theorem ggX10_makeAll_X10_isNext : GoodIn wsX10_makeAll wsX10_isNext := goodIn_r _ [26, 1, 15, 16, 17, 9, 18, 2, 19, 64, 65, 66, 67, 68, 69, 70, 71, 72, 73, 74, 75] (by decide +kernel) (by decide +kernel)
set_option maxRecDepth 20000 in
theorem gX10_makeAll_X10_isNext : GoodIn wsX10_makeAll (wsV RX10 137 RX10 yX10_isNext wsX10_isNext) := goodIn_app (goodIn_of _ (by decide +kernel)) ggX10_makeAll_X10_isNext
set_option maxRecDepth 20000 in
theorem ggX10_makeAll_X10_whyNotWished : GoodIn wsX10_makeAll wsX10_whyNotWished := goodIn_r _ [30, 31, 32, 33, 34, 9, 35, 36, 37, 38, 39, 20, 21, 22, 40, 41, 42, 43, 44, 45, 46, 47, 48, 49, 50, 51, 52, 53, 54, 55, 56, 57, 58, 59, 64, 65, 66, 67, 68, 69, 70, 71, 72, 73, 74, 75] (by decide +kernel) (by decide +kernel)
set_option maxRecDepth 20000 in
theorem gX10_makeAll_X10_whyNotWished : GoodIn wsX10_makeAll (wsV RX10 106 RX10 yX10_whyNotWished wsX10_whyNotWished) := goodIn_app (goodIn_of _ (by decide +kernel)) ggX10_makeAll_X10_whyNotWished
set_option maxRecDepth 20000 in
theorem ggX10_makeAll_X10_wished : GoodIn wsX10_makeAll wsX10_wished := goodIn_r _ [63, 31, 64, 65, 66, 67, 68, 69, 70, 71, 72, 73, 74, 75] (by decide +kernel) (by decide +kernel)
set_option maxRecDepth 20000 in
theorem gX10_makeAll_X10_wished : GoodIn wsX10_makeAll (wsV RX10 109 RX10 yX10_wished wsX10_wished) := goodIn_app (goodIn_of _ (by decide +kernel)) ggX10_makeAll_X10_wished
theorem dX10_makeAll_0 : decode cX10_makeAll 0 = .ok (.aload_n 0, 1) := by decide +kernel
theorem dX10_makeAll_1 : decode cX10_makeAll 1 = .ok (.iconst 0, 1) := by decide +kernel
theorem dX10_makeAll_2 : decode cX10_makeAll 2 = .ok (.putfield 130, 3) := by decide +kernel
theorem dX10_makeAll_5 : decode cX10_makeAll 5 = .ok (.iconst 0, 1) := by decide +kernel
theorem dX10_makeAll_6 : decode cX10_makeAll 6 = .ok (.istore_n 1, 1) := by decide +kernel
theorem dX10_makeAll_7 : decode cX10_makeAll 7 = .ok (.aload_n 0, 1) := by decide +kernel
theorem dX10_makeAll_8 : decode cX10_makeAll 8 = .ok (.getfield 130, 3) := by decide +kernel
theorem dX10_makeAll_11 : decode cX10_makeAll 11 = .ok (.aload_n 0, 1) := by decide +kernel
theorem dX10_makeAll_12 : decode cX10_makeAll 12 = .ok (.getfield 127, 3) := by decide +kernel
theorem dX10_makeAll_15 : decode cX10_makeAll 15 = .ok (.if_icmp .ge 60, 3) := by decide +kernel
theorem dX10_makeAll_18 : decode cX10_makeAll 18 = .ok (.iload_n 1, 1) := by decide +kernel
theorem dX10_makeAll_19 : decode cX10_makeAll 19 = .ok (.ifCond .ne 56, 3) := by decide +kernel
theorem dX10_makeAll_22 : decode cX10_makeAll 22 = .ok (.aload_n 0, 1) := by decide +kernel
theorem dX10_makeAll_23 : decode cX10_makeAll 23 = .ok (.invokevirtual 133, 3) := by decide +kernel
theorem dX10_makeAll_26 : decode cX10_makeAll 26 = .ok (.pop, 1) := by decide +kernel
theorem dX10_makeAll_27 : decode cX10_makeAll 27 = .ok (.aload_n 0, 1) := by decide +kernel
theorem dX10_makeAll_28 : decode cX10_makeAll 28 = .ok (.bipush 59, 2) := by decide +kernel
theorem dX10_makeAll_30 : decode cX10_makeAll 30 = .ok (.invokevirtual 137, 3) := by decide +kernel
theorem dX10_makeAll_33 : decode cX10_makeAll 33 = .ok (.pop, 1) := by decide +kernel
theorem dX10_makeAll_34 : decode cX10_makeAll 34 = .ok (.aload_n 0, 1) := by decide +kernel
theorem dX10_makeAll_35 : decode cX10_makeAll 35 = .ok (.aload_n 0, 1) := by decide +kernel
theorem dX10_makeAll_36 : decode cX10_makeAll 36 = .ok (.getfield 140, 3) := by decide +kernel
theorem dX10_makeAll_39 : decode cX10_makeAll 39 = .ok (.aload_n 0, 1) := by decide +kernel
theorem dX10_makeAll_40 : decode cX10_makeAll 40 = .ok (.getfield 143, 3) := by decide +kernel
theorem dX10_makeAll_43 : decode cX10_makeAll 43 = .ok (.aload_n 0, 1) := by decide +kernel
theorem dX10_makeAll_44 : decode cX10_makeAll 44 = .ok (.getfield 146, 3) := by decide +kernel
theorem dX10_makeAll_47 : decode cX10_makeAll 47 = .ok (.invokevirtual 106, 3) := by decide +kernel
theorem dX10_makeAll_50 : decode cX10_makeAll 50 = .ok (.istore_n 1, 1) := by decide +kernel
theorem dX10_makeAll_51 : decode cX10_makeAll 51 = .ok (.iload_n 1, 1) := by decide +kernel
theorem dX10_makeAll_52 : decode cX10_makeAll 52 = .ok (.ifCond .ne (-45), 3) := by decide +kernel
theorem dX10_makeAll_55 : decode cX10_makeAll 55 = .ok (.aload_n 0, 1) := by decide +kernel
theorem dX10_makeAll_56 : decode cX10_makeAll 56 = .ok (.aload_n 0, 1) := by decide +kernel
theorem dX10_makeAll_57 : decode cX10_makeAll 57 = .ok (.getfield 140, 3) := by decide +kernel
theorem dX10_makeAll_60 : decode cX10_makeAll 60 = .ok (.aload_n 0, 1) := by decide +kernel
theorem dX10_makeAll_61 : decode cX10_makeAll 61 = .ok (.getfield 143, 3) := by decide +kernel
theorem dX10_makeAll_64 : decode cX10_makeAll 64 = .ok (.aload_n 0, 1) := by decide +kernel
theorem dX10_makeAll_65 : decode cX10_makeAll 65 = .ok (.getfield 146, 3) := by decide +kernel
theorem dX10_makeAll_68 : decode cX10_makeAll 68 = .ok (.invokevirtual 109, 3) := by decide +kernel
theorem dX10_makeAll_71 : decode cX10_makeAll 71 = .ok (.pop, 1) := by decide +kernel
theorem dX10_makeAll_72 : decode cX10_makeAll 72 = .ok (.goto (-65), 3) := by decide +kernel
theorem dX10_makeAll_75 : decode cX10_makeAll 75 = .ok (.iload_n 1, 1) := by decide +kernel
theorem dX10_makeAll_76 : decode cX10_makeAll 76 = .ok (.ireturn, 1) := by decide +kernel
set_option maxRecDepth 20000 in
theorem ggX10_wishesOf_X10_singersOf : GoodIn wsX10_wishesOf wsX10_singersOf := goodIn_r _ [6, 7, 8, 9, 5, 10, 1, 11, 12, 13, 14, 15, 16, 17, 18, 19, 20, 21, 22] (by decide +kernel) (by decide +kernel)
set_option maxRecDepth 20000 in
theorem gX10_wishesOf_X10_singersOf : GoodIn wsX10_wishesOf (wsV RX10 53 RX10 yX10_singersOf wsX10_singersOf) := goodIn_app (goodIn_of _ (by decide +kernel)) ggX10_wishesOf_X10_singersOf
theorem dX10_wishesOf_0 : decode cX10_wishesOf 0 = .ok (.iconst 0, 1) := by decide +kernel
theorem dX10_wishesOf_1 : decode cX10_wishesOf 1 = .ok (.istore_n 2, 1) := by decide +kernel
theorem dX10_wishesOf_2 : decode cX10_wishesOf 2 = .ok (.iconst 0, 1) := by decide +kernel
theorem dX10_wishesOf_3 : decode cX10_wishesOf 3 = .ok (.istore_n 3, 1) := by decide +kernel
theorem dX10_wishesOf_4 : decode cX10_wishesOf 4 = .ok (.iload_n 3, 1) := by decide +kernel
theorem dX10_wishesOf_5 : decode cX10_wishesOf 5 = .ok (.aload_n 0, 1) := by decide +kernel
theorem dX10_wishesOf_6 : decode cX10_wishesOf 6 = .ok (.getfield 7, 3) := by decide +kernel
theorem dX10_wishesOf_9 : decode cX10_wishesOf 9 = .ok (.iconst 2, 1) := by decide +kernel
theorem dX10_wishesOf_10 : decode cX10_wishesOf 10 = .ok (.iaload, 1) := by decide +kernel
theorem dX10_wishesOf_11 : decode cX10_wishesOf 11 = .ok (.if_icmp .ge 21, 3) := by decide +kernel
theorem dX10_wishesOf_14 : decode cX10_wishesOf 14 = .ok (.iload_n 2, 1) := by decide +kernel
theorem dX10_wishesOf_15 : decode cX10_wishesOf 15 = .ok (.aload_n 0, 1) := by decide +kernel
theorem dX10_wishesOf_16 : decode cX10_wishesOf 16 = .ok (.iload_n 3, 1) := by decide +kernel
theorem dX10_wishesOf_17 : decode cX10_wishesOf 17 = .ok (.invokevirtual 53, 3) := by decide +kernel
theorem dX10_wishesOf_20 : decode cX10_wishesOf 20 = .ok (.iload_n 1, 1) := by decide +kernel
theorem dX10_wishesOf_21 : decode cX10_wishesOf 21 = .ok (.ishr, 1) := by decide +kernel
theorem dX10_wishesOf_22 : decode cX10_wishesOf 22 = .ok (.iconst 1, 1) := by decide +kernel
theorem dX10_wishesOf_23 : decode cX10_wishesOf 23 = .ok (.iand, 1) := by decide +kernel
theorem dX10_wishesOf_24 : decode cX10_wishesOf 24 = .ok (.iadd, 1) := by decide +kernel
theorem dX10_wishesOf_25 : decode cX10_wishesOf 25 = .ok (.istore_n 2, 1) := by decide +kernel
theorem dX10_wishesOf_26 : decode cX10_wishesOf 26 = .ok (.iinc 3 1, 3) := by decide +kernel
theorem dX10_wishesOf_29 : decode cX10_wishesOf 29 = .ok (.goto (-25), 3) := by decide +kernel
theorem dX10_wishesOf_32 : decode cX10_wishesOf 32 = .ok (.iload_n 2, 1) := by decide +kernel
theorem dX10_wishesOf_33 : decode cX10_wishesOf 33 = .ok (.ireturn, 1) := by decide +kernel
set_option maxRecDepth 20000 in
theorem ggX10_of_X10_isSinger : GoodIn wsX10_of wsX10_isSinger := goodIn_r _ [6, 1, 7, 8, 5, 9, 26, 27, 28, 29, 30, 31, 32, 33, 34, 35, 36, 37] (by decide +kernel) (by decide +kernel)
set_option maxRecDepth 20000 in
theorem gX10_of_X10_isSinger : GoodIn wsX10_of (wsV RX10 89 RX10 yX10_isSinger wsX10_isSinger) := goodIn_app (goodIn_of _ (by decide +kernel)) ggX10_of_X10_isSinger
set_option maxRecDepth 20000 in
theorem ggX10_of_X10_singerPart : GoodIn wsX10_of wsX10_singerPart := goodIn_r _ [13, 1, 26, 27, 28, 29, 30, 31, 32, 33, 34, 35, 36, 37] (by decide +kernel) (by decide +kernel)
set_option maxRecDepth 20000 in
theorem gX10_of_X10_singerPart : GoodIn wsX10_of (wsV RX10 40 RX10 yX10_singerPart wsX10_singerPart) := goodIn_app (goodIn_of _ (by decide +kernel)) ggX10_of_X10_singerPart
set_option maxRecDepth 20000 in
theorem ggX10_of_X10_wishesOf : GoodIn wsX10_of wsX10_wishesOf := goodIn_r _ [17, 1, 18, 19, 20, 5, 21, 22, 23, 24, 25, 26, 27, 28, 29, 30, 31, 32, 33, 34, 35, 36, 37] (by decide +kernel) (by decide +kernel)
set_option maxRecDepth 20000 in
theorem gX10_of_X10_wishesOf : GoodIn wsX10_of (wsV RX10 149 RX10 yX10_wishesOf wsX10_wishesOf) := goodIn_app (goodIn_of _ (by decide +kernel)) ggX10_of_X10_wishesOf
theorem dX10_of_0 : decode cX10_of 0 = .ok (.aload_n 0, 1) := by decide +kernel
theorem dX10_of_1 : decode cX10_of 1 = .ok (.iload_n 1, 1) := by decide +kernel
theorem dX10_of_2 : decode cX10_of 2 = .ok (.invokevirtual 89, 3) := by decide +kernel
theorem dX10_of_5 : decode cX10_of 5 = .ok (.ifCond .ne 5, 3) := by decide +kernel
theorem dX10_of_8 : decode cX10_of 8 = .ok (.iconst (-1), 1) := by decide +kernel
theorem dX10_of_9 : decode cX10_of 9 = .ok (.ireturn, 1) := by decide +kernel
theorem dX10_of_10 : decode cX10_of 10 = .ok (.iload_n 2, 1) := by decide +kernel
theorem dX10_of_11 : decode cX10_of 11 = .ok (.tableswitch 72 0 6 #[41, 41, 41, 41, 48, 59, 65], 41) := by decide +kernel
theorem dX10_of_52 : decode cX10_of 52 = .ok (.aload_n 0, 1) := by decide +kernel
theorem dX10_of_53 : decode cX10_of 53 = .ok (.iload_n 1, 1) := by decide +kernel
theorem dX10_of_54 : decode cX10_of 54 = .ok (.iload_n 2, 1) := by decide +kernel
theorem dX10_of_55 : decode cX10_of 55 = .ok (.invokevirtual 40, 3) := by decide +kernel
theorem dX10_of_58 : decode cX10_of 58 = .ok (.ireturn, 1) := by decide +kernel
theorem dX10_of_59 : decode cX10_of 59 = .ok (.aload_n 0, 1) := by decide +kernel
theorem dX10_of_60 : decode cX10_of 60 = .ok (.getfield 7, 3) := by decide +kernel
theorem dX10_of_63 : decode cX10_of 63 = .ok (.iconst 3, 1) := by decide +kernel
theorem dX10_of_64 : decode cX10_of 64 = .ok (.iaload, 1) := by decide +kernel
theorem dX10_of_65 : decode cX10_of 65 = .ok (.iload_n 1, 1) := by decide +kernel
theorem dX10_of_66 : decode cX10_of 66 = .ok (.ishr, 1) := by decide +kernel
theorem dX10_of_67 : decode cX10_of 67 = .ok (.iconst 1, 1) := by decide +kernel
theorem dX10_of_68 : decode cX10_of 68 = .ok (.iand, 1) := by decide +kernel
theorem dX10_of_69 : decode cX10_of 69 = .ok (.ireturn, 1) := by decide +kernel
theorem dX10_of_70 : decode cX10_of 70 = .ok (.aload_n 0, 1) := by decide +kernel
theorem dX10_of_71 : decode cX10_of 71 = .ok (.iload_n 1, 1) := by decide +kernel
theorem dX10_of_72 : decode cX10_of 72 = .ok (.invokevirtual 149, 3) := by decide +kernel
theorem dX10_of_75 : decode cX10_of 75 = .ok (.ireturn, 1) := by decide +kernel
theorem dX10_of_76 : decode cX10_of 76 = .ok (.aload_n 0, 1) := by decide +kernel
theorem dX10_of_77 : decode cX10_of 77 = .ok (.iload_n 1, 1) := by decide +kernel
theorem dX10_of_78 : decode cX10_of 78 = .ok (.iconst 4, 1) := by decide +kernel
theorem dX10_of_79 : decode cX10_of 79 = .ok (.invokevirtual 40, 3) := by decide +kernel
theorem dX10_of_82 : decode cX10_of 82 = .ok (.ireturn, 1) := by decide +kernel
theorem dX10_of_83 : decode cX10_of 83 = .ok (.bipush (-2), 2) := by decide +kernel
theorem dX10_of_85 : decode cX10_of 85 = .ok (.ireturn, 1) := by decide +kernel
set_option maxRecDepth 20000 in
theorem ggX10_inQueue_X10_isWish : GoodIn wsX10_inQueue wsX10_isWish := goodIn_r _ [5, 6, 7, 8, 4, 9, 50, 51, 52, 53, 54, 55, 56, 57, 58, 59, 60, 61] (by decide +kernel) (by decide +kernel)
set_option maxRecDepth 20000 in
theorem gX10_inQueue_X10_isWish : GoodIn wsX10_inQueue (wsV RX10 112 RX10 yX10_isWish wsX10_isWish) := goodIn_app (goodIn_of _ (by decide +kernel)) ggX10_inQueue_X10_isWish
set_option maxRecDepth 20000 in
theorem ggX10_inQueue_X10_wishPart : GoodIn wsX10_inQueue wsX10_wishPart := goodIn_r _ [13, 6, 50, 51, 52, 53, 54, 55, 56, 57, 58, 59, 60, 61] (by decide +kernel) (by decide +kernel)
set_option maxRecDepth 20000 in
theorem gX10_inQueue_X10_wishPart : GoodIn wsX10_inQueue (wsV RX10 44 RX10 yX10_wishPart wsX10_wishPart) := goodIn_app (goodIn_of _ (by decide +kernel)) ggX10_inQueue_X10_wishPart
set_option maxRecDepth 20000 in
theorem ggX10_inQueue_X10_keyFor : GoodIn wsX10_inQueue wsX10_keyFor := goodIn_r _ [17, 18, 19, 20, 4, 21, 22, 23, 24, 25, 6, 26, 27, 28, 29, 50, 51, 52, 53, 54, 55, 56, 57, 58, 59, 60, 61] (by decide +kernel) (by decide +kernel)
set_option maxRecDepth 20000 in
theorem gX10_inQueue_X10_keyFor : GoodIn wsX10_inQueue (wsV RX10 102 RX10 yX10_keyFor wsX10_keyFor) := goodIn_app (goodIn_of _ (by decide +kernel)) ggX10_inQueue_X10_keyFor
set_option maxRecDepth 20000 in
theorem ggX10_inQueue_X10_isReady : GoodIn wsX10_inQueue wsX10_isReady := goodIn_r _ [33, 34, 35, 36, 4, 37, 10, 11, 12, 13, 6, 38, 39, 40, 41, 26, 27, 28, 29, 50, 51, 52, 53, 54, 55, 56, 57, 58, 59, 60, 61] (by decide +kernel) (by decide +kernel)
set_option maxRecDepth 20000 in
theorem gX10_inQueue_X10_isReady : GoodIn wsX10_inQueue (wsV RX10 61 RX10 yX10_isReady wsX10_isReady) := goodIn_app (goodIn_of _ (by decide +kernel)) ggX10_inQueue_X10_isReady
set_option maxRecDepth 20000 in
theorem ggX10_inQueue_X10_isFresh : GoodIn wsX10_inQueue wsX10_isFresh := goodIn_r _ [45, 6, 34, 35, 36, 4, 37, 10, 11, 12, 13, 50, 51, 52, 53, 54, 55, 56, 57, 58, 59, 60, 61] (by decide +kernel) (by decide +kernel)
set_option maxRecDepth 20000 in
theorem gX10_inQueue_X10_isFresh : GoodIn wsX10_inQueue (wsV RX10 65 RX10 yX10_isFresh wsX10_isFresh) := goodIn_app (goodIn_of _ (by decide +kernel)) ggX10_inQueue_X10_isFresh
set_option maxRecDepth 20000 in
theorem ggX10_inQueue_X10_turnsFor : GoodIn wsX10_inQueue wsX10_turnsFor := goodIn_r _ [49, 10, 11, 12, 4, 13, 6, 26, 27, 28, 29, 50, 51, 52, 53, 54, 55, 56, 57, 58, 59, 60, 61] (by decide +kernel) (by decide +kernel)
set_option maxRecDepth 20000 in
theorem gX10_inQueue_X10_turnsFor : GoodIn wsX10_inQueue (wsV RX10 68 RX10 yX10_turnsFor wsX10_turnsFor) := goodIn_app (goodIn_of _ (by decide +kernel)) ggX10_inQueue_X10_turnsFor
theorem dX10_inQueue_0 : decode cX10_inQueue 0 = .ok (.aload_n 0, 1) := by decide +kernel
theorem dX10_inQueue_1 : decode cX10_inQueue 1 = .ok (.iload_n 1, 1) := by decide +kernel
theorem dX10_inQueue_2 : decode cX10_inQueue 2 = .ok (.invokevirtual 112, 3) := by decide +kernel
theorem dX10_inQueue_5 : decode cX10_inQueue 5 = .ok (.ifCond .ne 5, 3) := by decide +kernel
theorem dX10_inQueue_8 : decode cX10_inQueue 8 = .ok (.iconst (-1), 1) := by decide +kernel
theorem dX10_inQueue_9 : decode cX10_inQueue 9 = .ok (.ireturn, 1) := by decide +kernel
theorem dX10_inQueue_10 : decode cX10_inQueue 10 = .ok (.iload_n 2, 1) := by decide +kernel
theorem dX10_inQueue_11 : decode cX10_inQueue 11 = .ok (.tableswitch 105 0 6 #[41, 41, 41, 48, 71, 85, 99], 41) := by decide +kernel
theorem dX10_inQueue_52 : decode cX10_inQueue 52 = .ok (.aload_n 0, 1) := by decide +kernel
theorem dX10_inQueue_53 : decode cX10_inQueue 53 = .ok (.iload_n 1, 1) := by decide +kernel
theorem dX10_inQueue_54 : decode cX10_inQueue 54 = .ok (.iload_n 2, 1) := by decide +kernel
theorem dX10_inQueue_55 : decode cX10_inQueue 55 = .ok (.invokevirtual 44, 3) := by decide +kernel
theorem dX10_inQueue_58 : decode cX10_inQueue 58 = .ok (.ireturn, 1) := by decide +kernel
theorem dX10_inQueue_59 : decode cX10_inQueue 59 = .ok (.aload_n 0, 1) := by decide +kernel
theorem dX10_inQueue_60 : decode cX10_inQueue 60 = .ok (.aload_n 0, 1) := by decide +kernel
theorem dX10_inQueue_61 : decode cX10_inQueue 61 = .ok (.iload_n 1, 1) := by decide +kernel
theorem dX10_inQueue_62 : decode cX10_inQueue 62 = .ok (.iconst 0, 1) := by decide +kernel
theorem dX10_inQueue_63 : decode cX10_inQueue 63 = .ok (.invokevirtual 44, 3) := by decide +kernel
theorem dX10_inQueue_66 : decode cX10_inQueue 66 = .ok (.aload_n 0, 1) := by decide +kernel
theorem dX10_inQueue_67 : decode cX10_inQueue 67 = .ok (.iload_n 1, 1) := by decide +kernel
theorem dX10_inQueue_68 : decode cX10_inQueue 68 = .ok (.iconst 1, 1) := by decide +kernel
theorem dX10_inQueue_69 : decode cX10_inQueue 69 = .ok (.invokevirtual 44, 3) := by decide +kernel
theorem dX10_inQueue_72 : decode cX10_inQueue 72 = .ok (.aload_n 0, 1) := by decide +kernel
theorem dX10_inQueue_73 : decode cX10_inQueue 73 = .ok (.iload_n 1, 1) := by decide +kernel
theorem dX10_inQueue_74 : decode cX10_inQueue 74 = .ok (.iconst 2, 1) := by decide +kernel
theorem dX10_inQueue_75 : decode cX10_inQueue 75 = .ok (.invokevirtual 44, 3) := by decide +kernel
theorem dX10_inQueue_78 : decode cX10_inQueue 78 = .ok (.invokevirtual 102, 3) := by decide +kernel
theorem dX10_inQueue_81 : decode cX10_inQueue 81 = .ok (.ireturn, 1) := by decide +kernel
theorem dX10_inQueue_82 : decode cX10_inQueue 82 = .ok (.aload_n 0, 1) := by decide +kernel
theorem dX10_inQueue_83 : decode cX10_inQueue 83 = .ok (.iload_n 1, 1) := by decide +kernel
theorem dX10_inQueue_84 : decode cX10_inQueue 84 = .ok (.invokevirtual 61, 3) := by decide +kernel
theorem dX10_inQueue_87 : decode cX10_inQueue 87 = .ok (.ifCond .eq 7, 3) := by decide +kernel
theorem dX10_inQueue_90 : decode cX10_inQueue 90 = .ok (.iconst 1, 1) := by decide +kernel
theorem dX10_inQueue_91 : decode cX10_inQueue 91 = .ok (.goto 4, 3) := by decide +kernel
theorem dX10_inQueue_94 : decode cX10_inQueue 94 = .ok (.iconst 0, 1) := by decide +kernel
theorem dX10_inQueue_95 : decode cX10_inQueue 95 = .ok (.ireturn, 1) := by decide +kernel
theorem dX10_inQueue_96 : decode cX10_inQueue 96 = .ok (.aload_n 0, 1) := by decide +kernel
theorem dX10_inQueue_97 : decode cX10_inQueue 97 = .ok (.iload_n 1, 1) := by decide +kernel
theorem dX10_inQueue_98 : decode cX10_inQueue 98 = .ok (.invokevirtual 65, 3) := by decide +kernel
theorem dX10_inQueue_101 : decode cX10_inQueue 101 = .ok (.ifCond .eq 7, 3) := by decide +kernel
theorem dX10_inQueue_104 : decode cX10_inQueue 104 = .ok (.iconst 1, 1) := by decide +kernel
theorem dX10_inQueue_105 : decode cX10_inQueue 105 = .ok (.goto 4, 3) := by decide +kernel
theorem dX10_inQueue_108 : decode cX10_inQueue 108 = .ok (.iconst 0, 1) := by decide +kernel
theorem dX10_inQueue_109 : decode cX10_inQueue 109 = .ok (.ireturn, 1) := by decide +kernel
theorem dX10_inQueue_110 : decode cX10_inQueue 110 = .ok (.aload_n 0, 1) := by decide +kernel
theorem dX10_inQueue_111 : decode cX10_inQueue 111 = .ok (.iload_n 1, 1) := by decide +kernel
theorem dX10_inQueue_112 : decode cX10_inQueue 112 = .ok (.invokevirtual 68, 3) := by decide +kernel
theorem dX10_inQueue_115 : decode cX10_inQueue 115 = .ok (.ireturn, 1) := by decide +kernel
theorem dX10_inQueue_116 : decode cX10_inQueue 116 = .ok (.bipush (-2), 2) := by decide +kernel
theorem dX10_inQueue_118 : decode cX10_inQueue 118 = .ok (.ireturn, 1) := by decide +kernel
set_option maxRecDepth 20000 in
theorem ggX10_key_X10_areSingers : GoodIn wsX10_key wsX10_areSingers := goodIn_r _ [5, 6, 7, 8, 4, 9, 10, 11, 12, 13, 34, 35, 36, 37, 38, 39, 40, 41, 42, 43, 44, 45] (by decide +kernel) (by decide +kernel)
set_option maxRecDepth 20000 in
theorem gX10_key_X10_areSingers : GoodIn wsX10_key (wsV RX10 95 RX10 yX10_areSingers wsX10_areSingers) := goodIn_app (goodIn_of _ (by decide +kernel)) ggX10_key_X10_areSingers
set_option maxRecDepth 20000 in
theorem ggX10_key_X10_isSong : GoodIn wsX10_key wsX10_isSong := goodIn_r _ [17, 10, 11, 12, 4, 13, 34, 35, 36, 37, 38, 39, 40, 41, 42, 43, 44, 45] (by decide +kernel) (by decide +kernel)
set_option maxRecDepth 20000 in
theorem gX10_key_X10_isSong : GoodIn wsX10_key (wsV RX10 99 RX10 yX10_isSong wsX10_isSong) := goodIn_app (goodIn_of _ (by decide +kernel)) ggX10_key_X10_isSong
set_option maxRecDepth 20000 in
theorem ggX10_key_X10_keyFor : GoodIn wsX10_key wsX10_keyFor := goodIn_r _ [21, 22, 23, 24, 4, 25, 26, 27, 28, 29, 10, 30, 31, 32, 33, 34, 35, 36, 37, 38, 39, 40, 41, 42, 43, 44, 45] (by decide +kernel) (by decide +kernel)
set_option maxRecDepth 20000 in
theorem gX10_key_X10_keyFor : GoodIn wsX10_key (wsV RX10 102 RX10 yX10_keyFor wsX10_keyFor) := goodIn_app (goodIn_of _ (by decide +kernel)) ggX10_key_X10_keyFor
theorem dX10_key_0 : decode cX10_key 0 = .ok (.aload_n 0, 1) := by decide +kernel
theorem dX10_key_1 : decode cX10_key 1 = .ok (.iload_n 1, 1) := by decide +kernel
theorem dX10_key_2 : decode cX10_key 2 = .ok (.iload_n 2, 1) := by decide +kernel
theorem dX10_key_3 : decode cX10_key 3 = .ok (.invokevirtual 95, 3) := by decide +kernel
theorem dX10_key_6 : decode cX10_key 6 = .ok (.ifCond .eq 11, 3) := by decide +kernel
theorem dX10_key_9 : decode cX10_key 9 = .ok (.aload_n 0, 1) := by decide +kernel
theorem dX10_key_10 : decode cX10_key 10 = .ok (.iload_n 3, 1) := by decide +kernel
theorem dX10_key_11 : decode cX10_key 11 = .ok (.invokevirtual 99, 3) := by decide +kernel
theorem dX10_key_14 : decode cX10_key 14 = .ok (.ifCond .ne 5, 3) := by decide +kernel
theorem dX10_key_17 : decode cX10_key 17 = .ok (.iconst (-1), 1) := by decide +kernel
theorem dX10_key_18 : decode cX10_key 18 = .ok (.ireturn, 1) := by decide +kernel
theorem dX10_key_19 : decode cX10_key 19 = .ok (.iload_n 1, 1) := by decide +kernel
theorem dX10_key_20 : decode cX10_key 20 = .ok (.iload_n 2, 1) := by decide +kernel
theorem dX10_key_21 : decode cX10_key 21 = .ok (.if_icmp .ne 8, 3) := by decide +kernel
theorem dX10_key_24 : decode cX10_key 24 = .ok (.bipush (-2), 2) := by decide +kernel
theorem dX10_key_26 : decode cX10_key 26 = .ok (.goto 10, 3) := by decide +kernel
theorem dX10_key_29 : decode cX10_key 29 = .ok (.aload_n 0, 1) := by decide +kernel
theorem dX10_key_30 : decode cX10_key 30 = .ok (.iload_n 1, 1) := by decide +kernel
theorem dX10_key_31 : decode cX10_key 31 = .ok (.iload_n 2, 1) := by decide +kernel
theorem dX10_key_32 : decode cX10_key 32 = .ok (.iload_n 3, 1) := by decide +kernel
theorem dX10_key_33 : decode cX10_key 33 = .ok (.invokevirtual 102, 3) := by decide +kernel
theorem dX10_key_36 : decode cX10_key 36 = .ok (.ireturn, 1) := by decide +kernel
set_option maxRecDepth 20000 in
theorem ggX10_singersFor_X10_keyFor : GoodIn wsX10_singersFor wsX10_keyFor := goodIn_r _ [6, 7, 8, 9, 5, 10, 11, 12, 13, 14, 1, 15, 16, 17, 18, 19, 20, 21, 22, 23, 24, 25, 26, 27, 28, 29, 30] (by decide +kernel) (by decide +kernel)
set_option maxRecDepth 20000 in
theorem gX10_singersFor_X10_keyFor : GoodIn wsX10_singersFor (wsV RX10 102 RX10 yX10_keyFor wsX10_keyFor) := goodIn_app (goodIn_of _ (by decide +kernel)) ggX10_singersFor_X10_keyFor
theorem dX10_singersFor_0 : decode cX10_singersFor 0 = .ok (.iconst 0, 1) := by decide +kernel
theorem dX10_singersFor_1 : decode cX10_singersFor 1 = .ok (.istore_n 2, 1) := by decide +kernel
theorem dX10_singersFor_2 : decode cX10_singersFor 2 = .ok (.iconst 0, 1) := by decide +kernel
theorem dX10_singersFor_3 : decode cX10_singersFor 3 = .ok (.istore_n 3, 1) := by decide +kernel
theorem dX10_singersFor_4 : decode cX10_singersFor 4 = .ok (.iload_n 3, 1) := by decide +kernel
theorem dX10_singersFor_5 : decode cX10_singersFor 5 = .ok (.aload_n 0, 1) := by decide +kernel
theorem dX10_singersFor_6 : decode cX10_singersFor 6 = .ok (.getfield 7, 3) := by decide +kernel
theorem dX10_singersFor_9 : decode cX10_singersFor 9 = .ok (.iconst 0, 1) := by decide +kernel
theorem dX10_singersFor_10 : decode cX10_singersFor 10 = .ok (.iaload, 1) := by decide +kernel
theorem dX10_singersFor_11 : decode cX10_singersFor 11 = .ok (.if_icmp .ge 32, 3) := by decide +kernel
theorem dX10_singersFor_14 : decode cX10_singersFor 14 = .ok (.iload_n 2, 1) := by decide +kernel
theorem dX10_singersFor_15 : decode cX10_singersFor 15 = .ok (.aload_n 0, 1) := by decide +kernel
theorem dX10_singersFor_16 : decode cX10_singersFor 16 = .ok (.iload_n 3, 1) := by decide +kernel
theorem dX10_singersFor_17 : decode cX10_singersFor 17 = .ok (.bipush (-6), 2) := by decide +kernel
theorem dX10_singersFor_19 : decode cX10_singersFor 19 = .ok (.iload_n 1, 1) := by decide +kernel
theorem dX10_singersFor_20 : decode cX10_singersFor 20 = .ok (.invokevirtual 102, 3) := by decide +kernel
theorem dX10_singersFor_23 : decode cX10_singersFor 23 = .ok (.bipush (-6), 2) := by decide +kernel
theorem dX10_singersFor_25 : decode cX10_singersFor 25 = .ok (.if_icmp .ne 7, 3) := by decide +kernel
theorem dX10_singersFor_28 : decode cX10_singersFor 28 = .ok (.iconst 0, 1) := by decide +kernel
theorem dX10_singersFor_29 : decode cX10_singersFor 29 = .ok (.goto 6, 3) := by decide +kernel
theorem dX10_singersFor_32 : decode cX10_singersFor 32 = .ok (.iconst 1, 1) := by decide +kernel
theorem dX10_singersFor_33 : decode cX10_singersFor 33 = .ok (.iload_n 3, 1) := by decide +kernel
theorem dX10_singersFor_34 : decode cX10_singersFor 34 = .ok (.ishl, 1) := by decide +kernel
theorem dX10_singersFor_35 : decode cX10_singersFor 35 = .ok (.ior, 1) := by decide +kernel
theorem dX10_singersFor_36 : decode cX10_singersFor 36 = .ok (.istore_n 2, 1) := by decide +kernel
theorem dX10_singersFor_37 : decode cX10_singersFor 37 = .ok (.iinc 3 1, 3) := by decide +kernel
theorem dX10_singersFor_40 : decode cX10_singersFor 40 = .ok (.goto (-36), 3) := by decide +kernel
theorem dX10_singersFor_43 : decode cX10_singersFor 43 = .ok (.iload_n 2, 1) := by decide +kernel
theorem dX10_singersFor_44 : decode cX10_singersFor 44 = .ok (.ireturn, 1) := by decide +kernel
set_option maxRecDepth 20000 in
theorem ggX10_ofSong_X10_isSong : GoodIn wsX10_ofSong wsX10_isSong := goodIn_r _ [5, 6, 7, 8, 4, 9, 30, 31, 32, 33, 34, 35, 36, 37, 38, 39, 40, 41] (by decide +kernel) (by decide +kernel)
set_option maxRecDepth 20000 in
theorem gX10_ofSong_X10_isSong : GoodIn wsX10_ofSong (wsV RX10 99 RX10 yX10_isSong wsX10_isSong) := goodIn_app (goodIn_of _ (by decide +kernel)) ggX10_ofSong_X10_isSong
set_option maxRecDepth 20000 in
theorem ggX10_ofSong_X10_songPart : GoodIn wsX10_ofSong wsX10_songPart := goodIn_r _ [13, 6, 30, 31, 32, 33, 34, 35, 36, 37, 38, 39, 40, 41] (by decide +kernel) (by decide +kernel)
set_option maxRecDepth 20000 in
theorem gX10_ofSong_X10_songPart : GoodIn wsX10_ofSong (wsV RX10 47 RX10 yX10_songPart wsX10_songPart) := goodIn_app (goodIn_of _ (by decide +kernel)) ggX10_ofSong_X10_songPart
set_option maxRecDepth 20000 in
theorem ggX10_ofSong_X10_singersFor : GoodIn wsX10_ofSong wsX10_singersFor := goodIn_r _ [17, 6, 18, 19, 20, 4, 21, 22, 23, 24, 25, 10, 11, 12, 13, 26, 27, 28, 29, 30, 31, 32, 33, 34, 35, 36, 37, 38, 39, 40, 41] (by decide +kernel) (by decide +kernel)
set_option maxRecDepth 20000 in
theorem gX10_ofSong_X10_singersFor : GoodIn wsX10_ofSong (wsV RX10 152 RX10 yX10_singersFor wsX10_singersFor) := goodIn_app (goodIn_of _ (by decide +kernel)) ggX10_ofSong_X10_singersFor
theorem dX10_ofSong_0 : decode cX10_ofSong 0 = .ok (.aload_n 0, 1) := by decide +kernel
theorem dX10_ofSong_1 : decode cX10_ofSong 1 = .ok (.iload_n 1, 1) := by decide +kernel
theorem dX10_ofSong_2 : decode cX10_ofSong 2 = .ok (.invokevirtual 99, 3) := by decide +kernel
theorem dX10_ofSong_5 : decode cX10_ofSong 5 = .ok (.ifCond .ne 5, 3) := by decide +kernel
theorem dX10_ofSong_8 : decode cX10_ofSong 8 = .ok (.iconst (-1), 1) := by decide +kernel
theorem dX10_ofSong_9 : decode cX10_ofSong 9 = .ok (.ireturn, 1) := by decide +kernel
theorem dX10_ofSong_10 : decode cX10_ofSong 10 = .ok (.iload_n 2, 1) := by decide +kernel
theorem dX10_ofSong_11 : decode cX10_ofSong 11 = .ok (.tableswitch 53 0 4 #[33, 33, 33, 40, 46], 33) := by decide +kernel
theorem dX10_ofSong_44 : decode cX10_ofSong 44 = .ok (.aload_n 0, 1) := by decide +kernel
theorem dX10_ofSong_45 : decode cX10_ofSong 45 = .ok (.iload_n 1, 1) := by decide +kernel
theorem dX10_ofSong_46 : decode cX10_ofSong 46 = .ok (.iload_n 2, 1) := by decide +kernel
theorem dX10_ofSong_47 : decode cX10_ofSong 47 = .ok (.invokevirtual 47, 3) := by decide +kernel
theorem dX10_ofSong_50 : decode cX10_ofSong 50 = .ok (.ireturn, 1) := by decide +kernel
theorem dX10_ofSong_51 : decode cX10_ofSong 51 = .ok (.aload_n 0, 1) := by decide +kernel
theorem dX10_ofSong_52 : decode cX10_ofSong 52 = .ok (.iload_n 1, 1) := by decide +kernel
theorem dX10_ofSong_53 : decode cX10_ofSong 53 = .ok (.invokevirtual 152, 3) := by decide +kernel
theorem dX10_ofSong_56 : decode cX10_ofSong 56 = .ok (.ireturn, 1) := by decide +kernel
theorem dX10_ofSong_57 : decode cX10_ofSong 57 = .ok (.aload_n 0, 1) := by decide +kernel
theorem dX10_ofSong_58 : decode cX10_ofSong 58 = .ok (.iload_n 1, 1) := by decide +kernel
theorem dX10_ofSong_59 : decode cX10_ofSong 59 = .ok (.iconst 3, 1) := by decide +kernel
theorem dX10_ofSong_60 : decode cX10_ofSong 60 = .ok (.invokevirtual 47, 3) := by decide +kernel
theorem dX10_ofSong_63 : decode cX10_ofSong 63 = .ok (.ireturn, 1) := by decide +kernel
theorem dX10_ofSong_64 : decode cX10_ofSong 64 = .ok (.bipush (-2), 2) := by decide +kernel
theorem dX10_ofSong_66 : decode cX10_ofSong 66 = .ok (.ireturn, 1) := by decide +kernel
set_option maxRecDepth 20000 in
theorem ggX10_past_X10_within : GoodIn wsX10_past wsX10_within := goodIn_r _ [5] (by decide +kernel) (by decide +kernel)
set_option maxRecDepth 20000 in
theorem gX10_past_X10_within : GoodIn wsX10_past (va_wsS RX10 36 yX10_within wsX10_within) := goodIn_app (goodIn_of _ (by decide +kernel)) ggX10_past_X10_within
theorem dX10_past_0 : decode cX10_past 0 = .ok (.iload_n 1, 1) := by decide +kernel
theorem dX10_past_1 : decode cX10_past 1 = .ok (.iconst 0, 1) := by decide +kernel
theorem dX10_past_2 : decode cX10_past 2 = .ok (.aload_n 0, 1) := by decide +kernel
theorem dX10_past_3 : decode cX10_past 3 = .ok (.getfield 7, 3) := by decide +kernel
theorem dX10_past_6 : decode cX10_past 6 = .ok (.bipush 6, 2) := by decide +kernel
theorem dX10_past_8 : decode cX10_past 8 = .ok (.iaload, 1) := by decide +kernel
theorem dX10_past_9 : decode cX10_past 9 = .ok (.iconst 1, 1) := by decide +kernel
theorem dX10_past_10 : decode cX10_past 10 = .ok (.isub, 1) := by decide +kernel
theorem dX10_past_11 : decode cX10_past 11 = .ok (.invokestatic 36, 3) := by decide +kernel
theorem dX10_past_14 : decode cX10_past 14 = .ok (.ifCond .ne 5, 3) := by decide +kernel
theorem dX10_past_17 : decode cX10_past 17 = .ok (.iconst (-1), 1) := by decide +kernel
theorem dX10_past_18 : decode cX10_past 18 = .ok (.ireturn, 1) := by decide +kernel
theorem dX10_past_19 : decode cX10_past 19 = .ok (.iload_n 2, 1) := by decide +kernel
theorem dX10_past_20 : decode cX10_past 20 = .ok (.iconst 0, 1) := by decide +kernel
theorem dX10_past_21 : decode cX10_past 21 = .ok (.iconst 3, 1) := by decide +kernel
theorem dX10_past_22 : decode cX10_past 22 = .ok (.invokestatic 36, 3) := by decide +kernel
theorem dX10_past_25 : decode cX10_past 25 = .ok (.ifCond .eq 20, 3) := by decide +kernel
theorem dX10_past_28 : decode cX10_past 28 = .ok (.aload_n 0, 1) := by decide +kernel
theorem dX10_past_29 : decode cX10_past 29 = .ok (.getfield 7, 3) := by decide +kernel
theorem dX10_past_32 : decode cX10_past 32 = .ok (.sipush 191, 3) := by decide +kernel
theorem dX10_past_35 : decode cX10_past 35 = .ok (.iconst 4, 1) := by decide +kernel
theorem dX10_past_36 : decode cX10_past 36 = .ok (.iload_n 1, 1) := by decide +kernel
theorem dX10_past_37 : decode cX10_past 37 = .ok (.imul, 1) := by decide +kernel
theorem dX10_past_38 : decode cX10_past 38 = .ok (.iadd, 1) := by decide +kernel
theorem dX10_past_39 : decode cX10_past 39 = .ok (.iload_n 2, 1) := by decide +kernel
theorem dX10_past_40 : decode cX10_past 40 = .ok (.iadd, 1) := by decide +kernel
theorem dX10_past_41 : decode cX10_past 41 = .ok (.iaload, 1) := by decide +kernel
theorem dX10_past_42 : decode cX10_past 42 = .ok (.goto 5, 3) := by decide +kernel
theorem dX10_past_45 : decode cX10_past 45 = .ok (.bipush (-2), 2) := by decide +kernel
theorem dX10_past_47 : decode cX10_past 47 = .ok (.ireturn, 1) := by decide +kernel
set_option maxRecDepth 20000 in
theorem ggX10_readyMany_X10_isReady : GoodIn wsX10_readyMany wsX10_isReady := goodIn_r _ [6, 7, 8, 9, 5, 10, 11, 12, 13, 14, 1, 15, 16, 17, 18, 19, 20, 21, 22, 23, 24, 25, 26, 27, 28, 29, 30, 31, 32, 33, 34] (by decide +kernel) (by decide +kernel)
set_option maxRecDepth 20000 in
theorem gX10_readyMany_X10_isReady : GoodIn wsX10_readyMany (wsV RX10 61 RX10 yX10_isReady wsX10_isReady) := goodIn_app (goodIn_of _ (by decide +kernel)) ggX10_readyMany_X10_isReady
theorem dX10_readyMany_0 : decode cX10_readyMany 0 = .ok (.iconst 0, 1) := by decide +kernel
theorem dX10_readyMany_1 : decode cX10_readyMany 1 = .ok (.istore_n 1, 1) := by decide +kernel
theorem dX10_readyMany_2 : decode cX10_readyMany 2 = .ok (.iconst 0, 1) := by decide +kernel
theorem dX10_readyMany_3 : decode cX10_readyMany 3 = .ok (.istore_n 2, 1) := by decide +kernel
theorem dX10_readyMany_4 : decode cX10_readyMany 4 = .ok (.iload_n 2, 1) := by decide +kernel
theorem dX10_readyMany_5 : decode cX10_readyMany 5 = .ok (.aload_n 0, 1) := by decide +kernel
theorem dX10_readyMany_6 : decode cX10_readyMany 6 = .ok (.getfield 7, 3) := by decide +kernel
theorem dX10_readyMany_9 : decode cX10_readyMany 9 = .ok (.iconst 2, 1) := by decide +kernel
theorem dX10_readyMany_10 : decode cX10_readyMany 10 = .ok (.iaload, 1) := by decide +kernel
theorem dX10_readyMany_11 : decode cX10_readyMany 11 = .ok (.if_icmp .ge 25, 3) := by decide +kernel
theorem dX10_readyMany_14 : decode cX10_readyMany 14 = .ok (.iload_n 1, 1) := by decide +kernel
theorem dX10_readyMany_15 : decode cX10_readyMany 15 = .ok (.aload_n 0, 1) := by decide +kernel
theorem dX10_readyMany_16 : decode cX10_readyMany 16 = .ok (.iload_n 2, 1) := by decide +kernel
theorem dX10_readyMany_17 : decode cX10_readyMany 17 = .ok (.invokevirtual 61, 3) := by decide +kernel
theorem dX10_readyMany_20 : decode cX10_readyMany 20 = .ok (.ifCond .eq 7, 3) := by decide +kernel
theorem dX10_readyMany_23 : decode cX10_readyMany 23 = .ok (.iconst 1, 1) := by decide +kernel
theorem dX10_readyMany_24 : decode cX10_readyMany 24 = .ok (.goto 4, 3) := by decide +kernel
theorem dX10_readyMany_27 : decode cX10_readyMany 27 = .ok (.iconst 0, 1) := by decide +kernel
theorem dX10_readyMany_28 : decode cX10_readyMany 28 = .ok (.iadd, 1) := by decide +kernel
theorem dX10_readyMany_29 : decode cX10_readyMany 29 = .ok (.istore_n 1, 1) := by decide +kernel
theorem dX10_readyMany_30 : decode cX10_readyMany 30 = .ok (.iinc 2 1, 3) := by decide +kernel
theorem dX10_readyMany_33 : decode cX10_readyMany 33 = .ok (.goto (-29), 3) := by decide +kernel
theorem dX10_readyMany_36 : decode cX10_readyMany 36 = .ok (.iload_n 1, 1) := by decide +kernel
theorem dX10_readyMany_37 : decode cX10_readyMany 37 = .ok (.ireturn, 1) := by decide +kernel
set_option maxRecDepth 20000 in
theorem ggX10_count_X10_there : GoodIn wsX10_count wsX10_there := goodIn_r _ [8, 1, 9, 10, 11, 7, 12, 45, 46, 47, 48, 49, 50, 51, 52, 53, 54, 55, 56] (by decide +kernel) (by decide +kernel)
set_option maxRecDepth 20000 in
theorem gX10_count_X10_there : GoodIn wsX10_count (wsV RX10 57 RX10 yX10_there wsX10_there) := goodIn_app (goodIn_of _ (by decide +kernel)) ggX10_count_X10_there
set_option maxRecDepth 20000 in
theorem ggX10_count_X10_readyMany : GoodIn wsX10_count wsX10_readyMany := goodIn_r _ [16, 1, 17, 18, 19, 7, 20, 21, 22, 23, 24, 25, 26, 27, 28, 4, 5, 6, 8, 9, 10, 11, 12, 45, 46, 47, 48, 49, 50, 51, 52, 53, 54, 55, 56] (by decide +kernel) (by decide +kernel)
set_option maxRecDepth 20000 in
theorem gX10_count_X10_readyMany : GoodIn wsX10_count (wsV RX10 155 RX10 yX10_readyMany wsX10_readyMany) := goodIn_app (goodIn_of _ (by decide +kernel)) ggX10_count_X10_readyMany
set_option maxRecDepth 20000 in
theorem ggX10_count_X10_nextWish : GoodIn wsX10_count wsX10_nextWish := goodIn_r _ [32, 33, 34, 35, 7, 36, 1, 17, 18, 19, 20, 21, 22, 23, 24, 25, 26, 27, 28, 4, 5, 6, 8, 9, 10, 11, 12, 37, 38, 39, 40, 41, 42, 43, 44, 45, 46, 47, 48, 49, 50, 51, 52, 53, 54, 55, 56] (by decide +kernel) (by decide +kernel)
set_option maxRecDepth 20000 in
theorem gX10_count_X10_nextWish : GoodIn wsX10_count (wsV RX10 115 RX10 yX10_nextWish wsX10_nextWish) := goodIn_app (goodIn_of _ (by decide +kernel)) ggX10_count_X10_nextWish
theorem dX10_count_0 : decode cX10_count 0 = .ok (.iload_n 1, 1) := by decide +kernel
theorem dX10_count_1 : decode cX10_count 1 = .ok (.tableswitch 126 0 10 #[59, 66, 71, 78, 85, 90, 95, 102, 109, 116, 121], 59) := by decide +kernel
theorem dX10_count_60 : decode cX10_count 60 = .ok (.aload_n 0, 1) := by decide +kernel
theorem dX10_count_61 : decode cX10_count 61 = .ok (.getfield 7, 3) := by decide +kernel
theorem dX10_count_64 : decode cX10_count 64 = .ok (.iconst 0, 1) := by decide +kernel
theorem dX10_count_65 : decode cX10_count 65 = .ok (.iaload, 1) := by decide +kernel
theorem dX10_count_66 : decode cX10_count 66 = .ok (.ireturn, 1) := by decide +kernel
theorem dX10_count_67 : decode cX10_count 67 = .ok (.aload_n 0, 1) := by decide +kernel
theorem dX10_count_68 : decode cX10_count 68 = .ok (.invokevirtual 57, 3) := by decide +kernel
theorem dX10_count_71 : decode cX10_count 71 = .ok (.ireturn, 1) := by decide +kernel
theorem dX10_count_72 : decode cX10_count 72 = .ok (.aload_n 0, 1) := by decide +kernel
theorem dX10_count_73 : decode cX10_count 73 = .ok (.getfield 7, 3) := by decide +kernel
theorem dX10_count_76 : decode cX10_count 76 = .ok (.iconst 1, 1) := by decide +kernel
theorem dX10_count_77 : decode cX10_count 77 = .ok (.iaload, 1) := by decide +kernel
theorem dX10_count_78 : decode cX10_count 78 = .ok (.ireturn, 1) := by decide +kernel
theorem dX10_count_79 : decode cX10_count 79 = .ok (.aload_n 0, 1) := by decide +kernel
theorem dX10_count_80 : decode cX10_count 80 = .ok (.getfield 7, 3) := by decide +kernel
theorem dX10_count_83 : decode cX10_count 83 = .ok (.iconst 2, 1) := by decide +kernel
theorem dX10_count_84 : decode cX10_count 84 = .ok (.iaload, 1) := by decide +kernel
theorem dX10_count_85 : decode cX10_count 85 = .ok (.ireturn, 1) := by decide +kernel
theorem dX10_count_86 : decode cX10_count 86 = .ok (.aload_n 0, 1) := by decide +kernel
theorem dX10_count_87 : decode cX10_count 87 = .ok (.invokevirtual 155, 3) := by decide +kernel
theorem dX10_count_90 : decode cX10_count 90 = .ok (.ireturn, 1) := by decide +kernel
theorem dX10_count_91 : decode cX10_count 91 = .ok (.aload_n 0, 1) := by decide +kernel
theorem dX10_count_92 : decode cX10_count 92 = .ok (.invokevirtual 115, 3) := by decide +kernel
theorem dX10_count_95 : decode cX10_count 95 = .ok (.ireturn, 1) := by decide +kernel
theorem dX10_count_96 : decode cX10_count 96 = .ok (.aload_n 0, 1) := by decide +kernel
theorem dX10_count_97 : decode cX10_count 97 = .ok (.getfield 7, 3) := by decide +kernel
theorem dX10_count_100 : decode cX10_count 100 = .ok (.iconst 4, 1) := by decide +kernel
theorem dX10_count_101 : decode cX10_count 101 = .ok (.iaload, 1) := by decide +kernel
theorem dX10_count_102 : decode cX10_count 102 = .ok (.ireturn, 1) := by decide +kernel
theorem dX10_count_103 : decode cX10_count 103 = .ok (.aload_n 0, 1) := by decide +kernel
theorem dX10_count_104 : decode cX10_count 104 = .ok (.getfield 7, 3) := by decide +kernel
theorem dX10_count_107 : decode cX10_count 107 = .ok (.iconst 5, 1) := by decide +kernel
theorem dX10_count_108 : decode cX10_count 108 = .ok (.iaload, 1) := by decide +kernel
theorem dX10_count_109 : decode cX10_count 109 = .ok (.ireturn, 1) := by decide +kernel
theorem dX10_count_110 : decode cX10_count 110 = .ok (.aload_n 0, 1) := by decide +kernel
theorem dX10_count_111 : decode cX10_count 111 = .ok (.getfield 7, 3) := by decide +kernel
theorem dX10_count_114 : decode cX10_count 114 = .ok (.iconst 3, 1) := by decide +kernel
theorem dX10_count_115 : decode cX10_count 115 = .ok (.iaload, 1) := by decide +kernel
theorem dX10_count_116 : decode cX10_count 116 = .ok (.ireturn, 1) := by decide +kernel
theorem dX10_count_117 : decode cX10_count 117 = .ok (.aload_n 0, 1) := by decide +kernel
theorem dX10_count_118 : decode cX10_count 118 = .ok (.getfield 127, 3) := by decide +kernel
theorem dX10_count_121 : decode cX10_count 121 = .ok (.ireturn, 1) := by decide +kernel
theorem dX10_count_122 : decode cX10_count 122 = .ok (.aload_n 0, 1) := by decide +kernel
theorem dX10_count_123 : decode cX10_count 123 = .ok (.getfield 28, 3) := by decide +kernel
theorem dX10_count_126 : decode cX10_count 126 = .ok (.ireturn, 1) := by decide +kernel
theorem dX10_count_127 : decode cX10_count 127 = .ok (.bipush (-2), 2) := by decide +kernel
theorem dX10_count_129 : decode cX10_count 129 = .ok (.ireturn, 1) := by decide +kernel
set_option maxRecDepth 20000 in
theorem ggX10_singUpTo_X10_nextWish : GoodIn wsX10_singUpTo wsX10_nextWish := goodIn_r _ [5, 6, 7, 8, 4, 9, 10, 11, 12, 13, 14, 15, 16, 17, 18, 19, 20, 21, 22, 23, 24, 25, 26, 27, 28, 29, 30, 31, 32, 33, 34, 35, 36, 37, 38, 59, 60, 61, 62, 63, 64, 65, 66, 67, 68, 69, 70] (by decide +kernel) (by decide +kernel)
set_option maxRecDepth 20000 in
theorem gX10_singUpTo_X10_nextWish : GoodIn wsX10_singUpTo (wsV RX10 115 RX10 yX10_nextWish wsX10_nextWish) := goodIn_app (goodIn_of _ (by decide +kernel)) ggX10_singUpTo_X10_nextWish
set_option maxRecDepth 20000 in
theorem ggX10_singUpTo_X10_singWish : GoodIn wsX10_singUpTo wsX10_singWish := goodIn_r _ [42, 10, 15, 16, 17, 4, 18, 19, 20, 21, 22, 43, 44, 45, 46, 47, 48, 49, 50, 27, 28, 29, 30, 51, 52, 53, 54, 55, 56, 57, 58, 59, 60, 61, 62, 63, 64, 65, 66, 67, 68, 69, 70] (by decide +kernel) (by decide +kernel)
set_option maxRecDepth 20000 in
theorem gX10_singUpTo_X10_singWish : GoodIn wsX10_singUpTo (wsV RX10 118 RX10 yX10_singWish wsX10_singWish) := goodIn_app (goodIn_of _ (by decide +kernel)) ggX10_singUpTo_X10_singWish
theorem dX10_singUpTo_0 : decode cX10_singUpTo 0 = .ok (.iload_n 1, 1) := by decide +kernel
theorem dX10_singUpTo_1 : decode cX10_singUpTo 1 = .ok (.istore_n 2, 1) := by decide +kernel
theorem dX10_singUpTo_2 : decode cX10_singUpTo 2 = .ok (.iconst 0, 1) := by decide +kernel
theorem dX10_singUpTo_3 : decode cX10_singUpTo 3 = .ok (.istore_n 3, 1) := by decide +kernel
theorem dX10_singUpTo_4 : decode cX10_singUpTo 4 = .ok (.aload_n 0, 1) := by decide +kernel
theorem dX10_singUpTo_5 : decode cX10_singUpTo 5 = .ok (.invokevirtual 115, 3) := by decide +kernel
theorem dX10_singUpTo_8 : decode cX10_singUpTo 8 = .ok (.istore 4, 2) := by decide +kernel
theorem dX10_singUpTo_10 : decode cX10_singUpTo 10 = .ok (.iload 4, 2) := by decide +kernel
theorem dX10_singUpTo_12 : decode cX10_singUpTo 12 = .ok (.iload_n 2, 1) := by decide +kernel
theorem dX10_singUpTo_13 : decode cX10_singUpTo 13 = .ok (.if_icmp .eq 35, 3) := by decide +kernel
theorem dX10_singUpTo_16 : decode cX10_singUpTo 16 = .ok (.aload_n 0, 1) := by decide +kernel
theorem dX10_singUpTo_17 : decode cX10_singUpTo 17 = .ok (.iload 4, 2) := by decide +kernel
theorem dX10_singUpTo_19 : decode cX10_singUpTo 19 = .ok (.invokevirtual 118, 3) := by decide +kernel
theorem dX10_singUpTo_22 : decode cX10_singUpTo 22 = .ok (.iload_n 2, 1) := by decide +kernel
theorem dX10_singUpTo_23 : decode cX10_singUpTo 23 = .ok (.iload 4, 2) := by decide +kernel
theorem dX10_singUpTo_25 : decode cX10_singUpTo 25 = .ok (.iload_n 2, 1) := by decide +kernel
theorem dX10_singUpTo_26 : decode cX10_singUpTo 26 = .ok (.if_icmp .ge 7, 3) := by decide +kernel
theorem dX10_singUpTo_29 : decode cX10_singUpTo 29 = .ok (.iconst 1, 1) := by decide +kernel
theorem dX10_singUpTo_30 : decode cX10_singUpTo 30 = .ok (.goto 4, 3) := by decide +kernel
theorem dX10_singUpTo_33 : decode cX10_singUpTo 33 = .ok (.iconst 0, 1) := by decide +kernel
theorem dX10_singUpTo_34 : decode cX10_singUpTo 34 = .ok (.isub, 1) := by decide +kernel
theorem dX10_singUpTo_35 : decode cX10_singUpTo 35 = .ok (.istore_n 2, 1) := by decide +kernel
theorem dX10_singUpTo_36 : decode cX10_singUpTo 36 = .ok (.iinc 3 1, 3) := by decide +kernel
theorem dX10_singUpTo_39 : decode cX10_singUpTo 39 = .ok (.aload_n 0, 1) := by decide +kernel
theorem dX10_singUpTo_40 : decode cX10_singUpTo 40 = .ok (.invokevirtual 115, 3) := by decide +kernel
theorem dX10_singUpTo_43 : decode cX10_singUpTo 43 = .ok (.istore 4, 2) := by decide +kernel
theorem dX10_singUpTo_45 : decode cX10_singUpTo 45 = .ok (.goto (-35), 3) := by decide +kernel
theorem dX10_singUpTo_48 : decode cX10_singUpTo 48 = .ok (.iload_n 3, 1) := by decide +kernel
theorem dX10_singUpTo_49 : decode cX10_singUpTo 49 = .ok (.ireturn, 1) := by decide +kernel
set_option maxRecDepth 20000 in
theorem ggX10_turnOf_X10_isWish : GoodIn wsX10_turnOf wsX10_isWish := goodIn_r _ [7, 1, 8, 9, 6, 10, 74, 75, 76, 77, 78, 79, 80, 81, 82, 83, 84, 85] (by decide +kernel) (by decide +kernel)
set_option maxRecDepth 20000 in
theorem gX10_turnOf_X10_isWish : GoodIn wsX10_turnOf (wsV RX10 112 RX10 yX10_isWish wsX10_isWish) := goodIn_app (goodIn_of _ (by decide +kernel)) ggX10_turnOf_X10_isWish
set_option maxRecDepth 20000 in
theorem ggX10_turnOf_X10_within : GoodIn wsX10_turnOf wsX10_within := goodIn_r _ [10] (by decide +kernel) (by decide +kernel)
set_option maxRecDepth 20000 in
theorem gX10_turnOf_X10_within : GoodIn wsX10_turnOf (va_wsS RX10 36 yX10_within wsX10_within) := goodIn_app (goodIn_of _ (by decide +kernel)) ggX10_turnOf_X10_within
set_option maxRecDepth 20000 in
theorem ggX10_turnOf_X10_isReady : GoodIn wsX10_turnOf wsX10_isReady := goodIn_r _ [14, 15, 16, 17, 6, 18, 19, 20, 21, 22, 1, 23, 24, 25, 26, 27, 28, 29, 30, 74, 75, 76, 77, 78, 79, 80, 81, 82, 83, 84, 85] (by decide +kernel) (by decide +kernel)
set_option maxRecDepth 20000 in
theorem gX10_turnOf_X10_isReady : GoodIn wsX10_turnOf (wsV RX10 61 RX10 yX10_isReady wsX10_isReady) := goodIn_app (goodIn_of _ (by decide +kernel)) ggX10_turnOf_X10_isReady
set_option maxRecDepth 20000 in
theorem ggX10_turnOf_X10_moves : GoodIn wsX10_turnOf wsX10_moves := goodIn_r _ [33] (by decide +kernel) (by decide +kernel)
set_option maxRecDepth 20000 in
theorem gX10_turnOf_X10_moves : GoodIn wsX10_turnOf (va_wsS RX10 32 yX10_moves wsX10_moves) := goodIn_app (goodIn_of _ (by decide +kernel)) ggX10_turnOf_X10_moves
set_option maxRecDepth 20000 in
theorem ggX10_turnOf_X10_singUpTo : GoodIn wsX10_turnOf wsX10_singUpTo := goodIn_r _ [37, 38, 39, 40, 6, 41, 42, 43, 44, 45, 1, 11, 12, 13, 14, 15, 16, 17, 18, 19, 20, 21, 22, 23, 24, 25, 26, 27, 28, 29, 30, 46, 47, 48, 49, 50, 51, 52, 53, 54, 55, 56, 57, 58, 59, 60, 61, 62, 63, 64, 65, 66, 67, 68, 69, 70, 71, 72, 73, 74, 75, 76, 77, 78, 79, 80, 81, 82, 83, 84, 85] (by decide +kernel) (by decide +kernel)
set_option maxRecDepth 20000 in
theorem gX10_turnOf_X10_singUpTo : GoodIn wsX10_turnOf (wsV RX10 158 RX10 yX10_singUpTo wsX10_singUpTo) := goodIn_app (goodIn_of _ (by decide +kernel)) ggX10_turnOf_X10_singUpTo
theorem dX10_turnOf_0 : decode cX10_turnOf 0 = .ok (.aload_n 0, 1) := by decide +kernel
theorem dX10_turnOf_1 : decode cX10_turnOf 1 = .ok (.iload_n 1, 1) := by decide +kernel
theorem dX10_turnOf_2 : decode cX10_turnOf 2 = .ok (.invokevirtual 112, 3) := by decide +kernel
theorem dX10_turnOf_5 : decode cX10_turnOf 5 = .ok (.ifCond .eq 12, 3) := by decide +kernel
theorem dX10_turnOf_8 : decode cX10_turnOf 8 = .ok (.iload_n 2, 1) := by decide +kernel
theorem dX10_turnOf_9 : decode cX10_turnOf 9 = .ok (.iconst 0, 1) := by decide +kernel
theorem dX10_turnOf_10 : decode cX10_turnOf 10 = .ok (.iconst 1, 1) := by decide +kernel
theorem dX10_turnOf_11 : decode cX10_turnOf 11 = .ok (.invokestatic 36, 3) := by decide +kernel
theorem dX10_turnOf_14 : decode cX10_turnOf 14 = .ok (.ifCond .ne 18, 3) := by decide +kernel
theorem dX10_turnOf_17 : decode cX10_turnOf 17 = .ok (.aload_n 0, 1) := by decide +kernel
theorem dX10_turnOf_18 : decode cX10_turnOf 18 = .ok (.iload_n 1, 1) := by decide +kernel
theorem dX10_turnOf_19 : decode cX10_turnOf 19 = .ok (.invokevirtual 112, 3) := by decide +kernel
theorem dX10_turnOf_22 : decode cX10_turnOf 22 = .ok (.ifCond .eq 8, 3) := by decide +kernel
theorem dX10_turnOf_25 : decode cX10_turnOf 25 = .ok (.bipush (-2), 2) := by decide +kernel
theorem dX10_turnOf_27 : decode cX10_turnOf 27 = .ok (.goto 4, 3) := by decide +kernel
theorem dX10_turnOf_30 : decode cX10_turnOf 30 = .ok (.iconst (-1), 1) := by decide +kernel
theorem dX10_turnOf_31 : decode cX10_turnOf 31 = .ok (.ireturn, 1) := by decide +kernel
theorem dX10_turnOf_32 : decode cX10_turnOf 32 = .ok (.aload_n 0, 1) := by decide +kernel
theorem dX10_turnOf_33 : decode cX10_turnOf 33 = .ok (.iload_n 1, 1) := by decide +kernel
theorem dX10_turnOf_34 : decode cX10_turnOf 34 = .ok (.invokevirtual 61, 3) := by decide +kernel
theorem dX10_turnOf_37 : decode cX10_turnOf 37 = .ok (.ifCond .ne 6, 3) := by decide +kernel
theorem dX10_turnOf_40 : decode cX10_turnOf 40 = .ok (.bipush (-6), 2) := by decide +kernel
theorem dX10_turnOf_42 : decode cX10_turnOf 42 = .ok (.ireturn, 1) := by decide +kernel
theorem dX10_turnOf_43 : decode cX10_turnOf 43 = .ok (.aload_n 0, 1) := by decide +kernel
theorem dX10_turnOf_44 : decode cX10_turnOf 44 = .ok (.getfield 7, 3) := by decide +kernel
theorem dX10_turnOf_47 : decode cX10_turnOf 47 = .ok (.iconst 0, 1) := by decide +kernel
theorem dX10_turnOf_48 : decode cX10_turnOf 48 = .ok (.aload_n 0, 1) := by decide +kernel
theorem dX10_turnOf_49 : decode cX10_turnOf 49 = .ok (.getfield 13, 3) := by decide +kernel
theorem dX10_turnOf_52 : decode cX10_turnOf 52 = .ok (.iconst 0, 1) := by decide +kernel
theorem dX10_turnOf_53 : decode cX10_turnOf 53 = .ok (.invokestatic 32, 3) := by decide +kernel
theorem dX10_turnOf_56 : decode cX10_turnOf 56 = .ok (.aload_n 0, 1) := by decide +kernel
theorem dX10_turnOf_57 : decode cX10_turnOf 57 = .ok (.iload_n 1, 1) := by decide +kernel
theorem dX10_turnOf_58 : decode cX10_turnOf 58 = .ok (.invokevirtual 158, 3) := by decide +kernel
theorem dX10_turnOf_61 : decode cX10_turnOf 61 = .ok (.istore_n 3, 1) := by decide +kernel
theorem dX10_turnOf_62 : decode cX10_turnOf 62 = .ok (.aload_n 0, 1) := by decide +kernel
theorem dX10_turnOf_63 : decode cX10_turnOf 63 = .ok (.getfield 7, 3) := by decide +kernel
theorem dX10_turnOf_66 : decode cX10_turnOf 66 = .ok (.iconst 4, 1) := by decide +kernel
theorem dX10_turnOf_67 : decode cX10_turnOf 67 = .ok (.iaload, 1) := by decide +kernel
theorem dX10_turnOf_68 : decode cX10_turnOf 68 = .ok (.istore 4, 2) := by decide +kernel
theorem dX10_turnOf_70 : decode cX10_turnOf 70 = .ok (.aload_n 0, 1) := by decide +kernel
theorem dX10_turnOf_71 : decode cX10_turnOf 71 = .ok (.getfield 13, 3) := by decide +kernel
theorem dX10_turnOf_74 : decode cX10_turnOf 74 = .ok (.iconst 0, 1) := by decide +kernel
theorem dX10_turnOf_75 : decode cX10_turnOf 75 = .ok (.aload_n 0, 1) := by decide +kernel
theorem dX10_turnOf_76 : decode cX10_turnOf 76 = .ok (.getfield 7, 3) := by decide +kernel
theorem dX10_turnOf_79 : decode cX10_turnOf 79 = .ok (.iconst 0, 1) := by decide +kernel
theorem dX10_turnOf_80 : decode cX10_turnOf 80 = .ok (.invokestatic 32, 3) := by decide +kernel
theorem dX10_turnOf_83 : decode cX10_turnOf 83 = .ok (.iload_n 2, 1) := by decide +kernel
theorem dX10_turnOf_84 : decode cX10_turnOf 84 = .ok (.ifCond .ne 7, 3) := by decide +kernel
theorem dX10_turnOf_87 : decode cX10_turnOf 87 = .ok (.iload_n 3, 1) := by decide +kernel
theorem dX10_turnOf_88 : decode cX10_turnOf 88 = .ok (.goto 5, 3) := by decide +kernel
theorem dX10_turnOf_91 : decode cX10_turnOf 91 = .ok (.iload 4, 2) := by decide +kernel
theorem dX10_turnOf_93 : decode cX10_turnOf 93 = .ok (.ireturn, 1) := by decide +kernel
set_option maxRecDepth 20000 in
theorem ggX10_endOfAll_X10_isReady : GoodIn wsX10_endOfAll wsX10_isReady := goodIn_r _ [6, 7, 8, 9, 5, 10, 11, 12, 13, 14, 1, 15, 16, 17, 18, 19, 20, 21, 22, 27, 28, 29, 30, 31, 32, 33, 34, 35, 36, 37, 38] (by decide +kernel) (by decide +kernel)
set_option maxRecDepth 20000 in
theorem gX10_endOfAll_X10_isReady : GoodIn wsX10_endOfAll (wsV RX10 61 RX10 yX10_isReady wsX10_isReady) := goodIn_app (goodIn_of _ (by decide +kernel)) ggX10_endOfAll_X10_isReady
set_option maxRecDepth 20000 in
theorem ggX10_endOfAll_X10_wishPart : GoodIn wsX10_endOfAll wsX10_wishPart := goodIn_r _ [14, 1, 27, 28, 29, 30, 31, 32, 33, 34, 35, 36, 37, 38] (by decide +kernel) (by decide +kernel)
set_option maxRecDepth 20000 in
theorem gX10_endOfAll_X10_wishPart : GoodIn wsX10_endOfAll (wsV RX10 44 RX10 yX10_wishPart wsX10_wishPart) := goodIn_app (goodIn_of _ (by decide +kernel)) ggX10_endOfAll_X10_wishPart
set_option maxRecDepth 20000 in
theorem ggX10_endOfAll_X10_songPart : GoodIn wsX10_endOfAll wsX10_songPart := goodIn_r _ [26, 1, 27, 28, 29, 30, 31, 32, 33, 34, 35, 36, 37, 38] (by decide +kernel) (by decide +kernel)
set_option maxRecDepth 20000 in
theorem gX10_endOfAll_X10_songPart : GoodIn wsX10_endOfAll (wsV RX10 47 RX10 yX10_songPart wsX10_songPart) := goodIn_app (goodIn_of _ (by decide +kernel)) ggX10_endOfAll_X10_songPart
theorem dX10_endOfAll_0 : decode cX10_endOfAll 0 = .ok (.aload_n 0, 1) := by decide +kernel
theorem dX10_endOfAll_1 : decode cX10_endOfAll 1 = .ok (.getfield 7, 3) := by decide +kernel
theorem dX10_endOfAll_4 : decode cX10_endOfAll 4 = .ok (.iconst 4, 1) := by decide +kernel
theorem dX10_endOfAll_5 : decode cX10_endOfAll 5 = .ok (.iaload, 1) := by decide +kernel
theorem dX10_endOfAll_6 : decode cX10_endOfAll 6 = .ok (.istore_n 1, 1) := by decide +kernel
theorem dX10_endOfAll_7 : decode cX10_endOfAll 7 = .ok (.iconst 0, 1) := by decide +kernel
theorem dX10_endOfAll_8 : decode cX10_endOfAll 8 = .ok (.istore_n 2, 1) := by decide +kernel
theorem dX10_endOfAll_9 : decode cX10_endOfAll 9 = .ok (.iload_n 2, 1) := by decide +kernel
theorem dX10_endOfAll_10 : decode cX10_endOfAll 10 = .ok (.aload_n 0, 1) := by decide +kernel
theorem dX10_endOfAll_11 : decode cX10_endOfAll 11 = .ok (.getfield 7, 3) := by decide +kernel
theorem dX10_endOfAll_14 : decode cX10_endOfAll 14 = .ok (.iconst 2, 1) := by decide +kernel
theorem dX10_endOfAll_15 : decode cX10_endOfAll 15 = .ok (.iaload, 1) := by decide +kernel
theorem dX10_endOfAll_16 : decode cX10_endOfAll 16 = .ok (.if_icmp .ge 35, 3) := by decide +kernel
theorem dX10_endOfAll_19 : decode cX10_endOfAll 19 = .ok (.iload_n 1, 1) := by decide +kernel
theorem dX10_endOfAll_20 : decode cX10_endOfAll 20 = .ok (.aload_n 0, 1) := by decide +kernel
theorem dX10_endOfAll_21 : decode cX10_endOfAll 21 = .ok (.iload_n 2, 1) := by decide +kernel
theorem dX10_endOfAll_22 : decode cX10_endOfAll 22 = .ok (.invokevirtual 61, 3) := by decide +kernel
theorem dX10_endOfAll_25 : decode cX10_endOfAll 25 = .ok (.ifCond .eq 17, 3) := by decide +kernel
theorem dX10_endOfAll_28 : decode cX10_endOfAll 28 = .ok (.aload_n 0, 1) := by decide +kernel
theorem dX10_endOfAll_29 : decode cX10_endOfAll 29 = .ok (.aload_n 0, 1) := by decide +kernel
theorem dX10_endOfAll_30 : decode cX10_endOfAll 30 = .ok (.iload_n 2, 1) := by decide +kernel
theorem dX10_endOfAll_31 : decode cX10_endOfAll 31 = .ok (.iconst 2, 1) := by decide +kernel
theorem dX10_endOfAll_32 : decode cX10_endOfAll 32 = .ok (.invokevirtual 44, 3) := by decide +kernel
theorem dX10_endOfAll_35 : decode cX10_endOfAll 35 = .ok (.iconst 2, 1) := by decide +kernel
theorem dX10_endOfAll_36 : decode cX10_endOfAll 36 = .ok (.invokevirtual 47, 3) := by decide +kernel
theorem dX10_endOfAll_39 : decode cX10_endOfAll 39 = .ok (.goto 4, 3) := by decide +kernel
theorem dX10_endOfAll_42 : decode cX10_endOfAll 42 = .ok (.iconst 0, 1) := by decide +kernel
theorem dX10_endOfAll_43 : decode cX10_endOfAll 43 = .ok (.iadd, 1) := by decide +kernel
theorem dX10_endOfAll_44 : decode cX10_endOfAll 44 = .ok (.istore_n 1, 1) := by decide +kernel
theorem dX10_endOfAll_45 : decode cX10_endOfAll 45 = .ok (.iinc 2 1, 3) := by decide +kernel
theorem dX10_endOfAll_48 : decode cX10_endOfAll 48 = .ok (.goto (-39), 3) := by decide +kernel
theorem dX10_endOfAll_51 : decode cX10_endOfAll 51 = .ok (.iload_n 1, 1) := by decide +kernel
theorem dX10_endOfAll_52 : decode cX10_endOfAll 52 = .ok (.ireturn, 1) := by decide +kernel
set_option maxRecDepth 20000 in
theorem ggX10_ifLeft_X10_isSinger : GoodIn wsX10_ifLeft wsX10_isSinger := goodIn_r _ [6, 1, 7, 8, 5, 9, 38, 39, 40, 41, 42, 43, 44, 45, 46, 47, 48, 49] (by decide +kernel) (by decide +kernel)
set_option maxRecDepth 20000 in
theorem gX10_ifLeft_X10_isSinger : GoodIn wsX10_ifLeft (wsV RX10 89 RX10 yX10_isSinger wsX10_isSinger) := goodIn_app (goodIn_of _ (by decide +kernel)) ggX10_ifLeft_X10_isSinger
set_option maxRecDepth 20000 in
theorem ggX10_ifLeft_X10_singerPart : GoodIn wsX10_ifLeft wsX10_singerPart := goodIn_r _ [13, 1, 38, 39, 40, 41, 42, 43, 44, 45, 46, 47, 48, 49] (by decide +kernel) (by decide +kernel)
set_option maxRecDepth 20000 in
theorem gX10_ifLeft_X10_singerPart : GoodIn wsX10_ifLeft (wsV RX10 40 RX10 yX10_singerPart wsX10_singerPart) := goodIn_app (goodIn_of _ (by decide +kernel)) ggX10_ifLeft_X10_singerPart
set_option maxRecDepth 20000 in
theorem ggX10_ifLeft_X10_setSinger : GoodIn wsX10_ifLeft wsX10_setSinger := goodIn_r _ [17, 1, 38, 39, 40, 41, 42, 43, 44, 45, 46, 47, 48, 49] (by decide +kernel) (by decide +kernel)
set_option maxRecDepth 20000 in
theorem gX10_ifLeft_X10_setSinger : GoodIn wsX10_ifLeft (wsV RX10 79 RX10 yX10_setSinger wsX10_setSinger) := goodIn_app (goodIn_of _ (by decide +kernel)) ggX10_ifLeft_X10_setSinger
set_option maxRecDepth 20000 in
theorem ggX10_ifLeft_X10_readyMany : GoodIn wsX10_ifLeft wsX10_readyMany := goodIn_r _ [21, 1, 22, 23, 24, 5, 25, 26, 27, 28, 29, 30, 31, 32, 33, 34, 35, 36, 37, 10, 11, 12, 13, 38, 39, 40, 41, 42, 43, 44, 45, 46, 47, 48, 49] (by decide +kernel) (by decide +kernel)
set_option maxRecDepth 20000 in
theorem gX10_ifLeft_X10_readyMany : GoodIn wsX10_ifLeft (wsV RX10 155 RX10 yX10_readyMany wsX10_readyMany) := goodIn_app (goodIn_of _ (by decide +kernel)) ggX10_ifLeft_X10_readyMany
theorem dX10_ifLeft_0 : decode cX10_ifLeft 0 = .ok (.aload_n 0, 1) := by decide +kernel
theorem dX10_ifLeft_1 : decode cX10_ifLeft 1 = .ok (.iload_n 1, 1) := by decide +kernel
theorem dX10_ifLeft_2 : decode cX10_ifLeft 2 = .ok (.invokevirtual 89, 3) := by decide +kernel
theorem dX10_ifLeft_5 : decode cX10_ifLeft 5 = .ok (.ifCond .ne 5, 3) := by decide +kernel
theorem dX10_ifLeft_8 : decode cX10_ifLeft 8 = .ok (.iconst (-1), 1) := by decide +kernel
theorem dX10_ifLeft_9 : decode cX10_ifLeft 9 = .ok (.ireturn, 1) := by decide +kernel
theorem dX10_ifLeft_10 : decode cX10_ifLeft 10 = .ok (.aload_n 0, 1) := by decide +kernel
theorem dX10_ifLeft_11 : decode cX10_ifLeft 11 = .ok (.iload_n 1, 1) := by decide +kernel
theorem dX10_ifLeft_12 : decode cX10_ifLeft 12 = .ok (.iconst 2, 1) := by decide +kernel
theorem dX10_ifLeft_13 : decode cX10_ifLeft 13 = .ok (.invokevirtual 40, 3) := by decide +kernel
theorem dX10_ifLeft_16 : decode cX10_ifLeft 16 = .ok (.istore_n 2, 1) := by decide +kernel
theorem dX10_ifLeft_17 : decode cX10_ifLeft 17 = .ok (.aload_n 0, 1) := by decide +kernel
theorem dX10_ifLeft_18 : decode cX10_ifLeft 18 = .ok (.iload_n 1, 1) := by decide +kernel
theorem dX10_ifLeft_19 : decode cX10_ifLeft 19 = .ok (.iconst 2, 1) := by decide +kernel
theorem dX10_ifLeft_20 : decode cX10_ifLeft 20 = .ok (.iconst 0, 1) := by decide +kernel
theorem dX10_ifLeft_21 : decode cX10_ifLeft 21 = .ok (.invokevirtual 79, 3) := by decide +kernel
theorem dX10_ifLeft_24 : decode cX10_ifLeft 24 = .ok (.aload_n 0, 1) := by decide +kernel
theorem dX10_ifLeft_25 : decode cX10_ifLeft 25 = .ok (.getfield 7, 3) := by decide +kernel
theorem dX10_ifLeft_28 : decode cX10_ifLeft 28 = .ok (.iconst 2, 1) := by decide +kernel
theorem dX10_ifLeft_29 : decode cX10_ifLeft 29 = .ok (.iaload, 1) := by decide +kernel
theorem dX10_ifLeft_30 : decode cX10_ifLeft 30 = .ok (.aload_n 0, 1) := by decide +kernel
theorem dX10_ifLeft_31 : decode cX10_ifLeft 31 = .ok (.invokevirtual 155, 3) := by decide +kernel
theorem dX10_ifLeft_34 : decode cX10_ifLeft 34 = .ok (.isub, 1) := by decide +kernel
theorem dX10_ifLeft_35 : decode cX10_ifLeft 35 = .ok (.istore_n 3, 1) := by decide +kernel
theorem dX10_ifLeft_36 : decode cX10_ifLeft 36 = .ok (.aload_n 0, 1) := by decide +kernel
theorem dX10_ifLeft_37 : decode cX10_ifLeft 37 = .ok (.iload_n 1, 1) := by decide +kernel
theorem dX10_ifLeft_38 : decode cX10_ifLeft 38 = .ok (.iconst 2, 1) := by decide +kernel
theorem dX10_ifLeft_39 : decode cX10_ifLeft 39 = .ok (.iload_n 2, 1) := by decide +kernel
theorem dX10_ifLeft_40 : decode cX10_ifLeft 40 = .ok (.invokevirtual 79, 3) := by decide +kernel
theorem dX10_ifLeft_43 : decode cX10_ifLeft 43 = .ok (.iload_n 3, 1) := by decide +kernel
theorem dX10_ifLeft_44 : decode cX10_ifLeft 44 = .ok (.ireturn, 1) := by decide +kernel
set_option maxRecDepth 20000 in
theorem ggX10_beginWithout_X10_moves : GoodIn wsX10_beginWithout wsX10_moves := goodIn_r _ [6] (by decide +kernel) (by decide +kernel)
set_option maxRecDepth 20000 in
theorem gX10_beginWithout_X10_moves : GoodIn wsX10_beginWithout (va_wsS RX10 32 yX10_moves wsX10_moves) := goodIn_app (goodIn_of _ (by decide +kernel)) ggX10_beginWithout_X10_moves
set_option maxRecDepth 20000 in
theorem ggX10_beginWithout_X10_remove : GoodIn wsX10_beginWithout wsX10_remove := goodIn_r _ [10, 1, 67, 68, 69, 70, 71, 72, 73, 74, 75, 76, 77, 78] (by decide +kernel) (by decide +kernel)
set_option maxRecDepth 20000 in
theorem gX10_beginWithout_X10_remove : GoodIn wsX10_beginWithout (wsV RX10 83 RX10 yX10_remove wsX10_remove) := goodIn_app (goodIn_of _ (by decide +kernel)) ggX10_beginWithout_X10_remove
set_option maxRecDepth 20000 in
theorem ggX10_beginWithout_X10_singUpTo : GoodIn wsX10_beginWithout wsX10_singUpTo := goodIn_r _ [14, 15, 16, 17, 5, 18, 19, 20, 21, 22, 1, 23, 24, 25, 26, 27, 28, 29, 30, 31, 32, 33, 34, 35, 36, 37, 38, 39, 40, 41, 42, 43, 44, 45, 46, 47, 48, 49, 50, 51, 52, 53, 54, 55, 56, 57, 58, 59, 60, 61, 62, 63, 64, 65, 66, 7, 8, 9, 10, 67, 68, 69, 70, 71, 72, 73, 74, 75, 76, 77, 78] (by decide +kernel) (by decide +kernel)
set_option maxRecDepth 20000 in
theorem gX10_beginWithout_X10_singUpTo : GoodIn wsX10_beginWithout (wsV RX10 158 RX10 yX10_singUpTo wsX10_singUpTo) := goodIn_app (goodIn_of _ (by decide +kernel)) ggX10_beginWithout_X10_singUpTo
theorem dX10_beginWithout_0 : decode cX10_beginWithout 0 = .ok (.aload_n 0, 1) := by decide +kernel
theorem dX10_beginWithout_1 : decode cX10_beginWithout 1 = .ok (.getfield 7, 3) := by decide +kernel
theorem dX10_beginWithout_4 : decode cX10_beginWithout 4 = .ok (.iconst 0, 1) := by decide +kernel
theorem dX10_beginWithout_5 : decode cX10_beginWithout 5 = .ok (.aload_n 0, 1) := by decide +kernel
theorem dX10_beginWithout_6 : decode cX10_beginWithout 6 = .ok (.getfield 13, 3) := by decide +kernel
theorem dX10_beginWithout_9 : decode cX10_beginWithout 9 = .ok (.iconst 0, 1) := by decide +kernel
theorem dX10_beginWithout_10 : decode cX10_beginWithout 10 = .ok (.invokestatic 32, 3) := by decide +kernel
theorem dX10_beginWithout_13 : decode cX10_beginWithout 13 = .ok (.iload_n 1, 1) := by decide +kernel
theorem dX10_beginWithout_14 : decode cX10_beginWithout 14 = .ok (.istore_n 3, 1) := by decide +kernel
theorem dX10_beginWithout_15 : decode cX10_beginWithout 15 = .ok (.iload_n 2, 1) := by decide +kernel
theorem dX10_beginWithout_16 : decode cX10_beginWithout 16 = .ok (.bipush (-6), 2) := by decide +kernel
theorem dX10_beginWithout_18 : decode cX10_beginWithout 18 = .ok (.if_icmp .eq 21, 3) := by decide +kernel
theorem dX10_beginWithout_21 : decode cX10_beginWithout 21 = .ok (.aload_n 0, 1) := by decide +kernel
theorem dX10_beginWithout_22 : decode cX10_beginWithout 22 = .ok (.iload_n 2, 1) := by decide +kernel
theorem dX10_beginWithout_23 : decode cX10_beginWithout 23 = .ok (.invokevirtual 83, 3) := by decide +kernel
theorem dX10_beginWithout_26 : decode cX10_beginWithout 26 = .ok (.iload_n 3, 1) := by decide +kernel
theorem dX10_beginWithout_27 : decode cX10_beginWithout 27 = .ok (.iload_n 2, 1) := by decide +kernel
theorem dX10_beginWithout_28 : decode cX10_beginWithout 28 = .ok (.iload_n 1, 1) := by decide +kernel
theorem dX10_beginWithout_29 : decode cX10_beginWithout 29 = .ok (.if_icmp .ge 7, 3) := by decide +kernel
theorem dX10_beginWithout_32 : decode cX10_beginWithout 32 = .ok (.iconst 1, 1) := by decide +kernel
theorem dX10_beginWithout_33 : decode cX10_beginWithout 33 = .ok (.goto 4, 3) := by decide +kernel
theorem dX10_beginWithout_36 : decode cX10_beginWithout 36 = .ok (.iconst 0, 1) := by decide +kernel
theorem dX10_beginWithout_37 : decode cX10_beginWithout 37 = .ok (.isub, 1) := by decide +kernel
theorem dX10_beginWithout_38 : decode cX10_beginWithout 38 = .ok (.istore_n 3, 1) := by decide +kernel
theorem dX10_beginWithout_39 : decode cX10_beginWithout 39 = .ok (.aload_n 0, 1) := by decide +kernel
theorem dX10_beginWithout_40 : decode cX10_beginWithout 40 = .ok (.iload_n 3, 1) := by decide +kernel
theorem dX10_beginWithout_41 : decode cX10_beginWithout 41 = .ok (.invokevirtual 158, 3) := by decide +kernel
theorem dX10_beginWithout_44 : decode cX10_beginWithout 44 = .ok (.pop, 1) := by decide +kernel
theorem dX10_beginWithout_45 : decode cX10_beginWithout 45 = .ok (.aload_n 0, 1) := by decide +kernel
theorem dX10_beginWithout_46 : decode cX10_beginWithout 46 = .ok (.getfield 7, 3) := by decide +kernel
theorem dX10_beginWithout_49 : decode cX10_beginWithout 49 = .ok (.iconst 4, 1) := by decide +kernel
theorem dX10_beginWithout_50 : decode cX10_beginWithout 50 = .ok (.iaload, 1) := by decide +kernel
theorem dX10_beginWithout_51 : decode cX10_beginWithout 51 = .ok (.istore 4, 2) := by decide +kernel
theorem dX10_beginWithout_53 : decode cX10_beginWithout 53 = .ok (.aload_n 0, 1) := by decide +kernel
theorem dX10_beginWithout_54 : decode cX10_beginWithout 54 = .ok (.getfield 13, 3) := by decide +kernel
theorem dX10_beginWithout_57 : decode cX10_beginWithout 57 = .ok (.iconst 0, 1) := by decide +kernel
theorem dX10_beginWithout_58 : decode cX10_beginWithout 58 = .ok (.aload_n 0, 1) := by decide +kernel
theorem dX10_beginWithout_59 : decode cX10_beginWithout 59 = .ok (.getfield 7, 3) := by decide +kernel
theorem dX10_beginWithout_62 : decode cX10_beginWithout 62 = .ok (.iconst 0, 1) := by decide +kernel
theorem dX10_beginWithout_63 : decode cX10_beginWithout 63 = .ok (.invokestatic 32, 3) := by decide +kernel
theorem dX10_beginWithout_66 : decode cX10_beginWithout 66 = .ok (.iload 4, 2) := by decide +kernel
theorem dX10_beginWithout_68 : decode cX10_beginWithout 68 = .ok (.ireturn, 1) := by decide +kernel
set_option maxRecDepth 20000 in
theorem ggX10_heldUpBy_X10_isWish : GoodIn wsX10_heldUpBy wsX10_isWish := goodIn_r _ [6, 1, 7, 8, 5, 9, 78, 79, 80, 81, 82, 83, 84, 85, 86, 87, 88, 89] (by decide +kernel) (by decide +kernel)
set_option maxRecDepth 20000 in
theorem gX10_heldUpBy_X10_isWish : GoodIn wsX10_heldUpBy (wsV RX10 112 RX10 yX10_isWish wsX10_isWish) := goodIn_app (goodIn_of _ (by decide +kernel)) ggX10_heldUpBy_X10_isWish
set_option maxRecDepth 20000 in
theorem ggX10_heldUpBy_X10_within : GoodIn wsX10_heldUpBy wsX10_within := goodIn_r _ [9] (by decide +kernel) (by decide +kernel)
set_option maxRecDepth 20000 in
theorem gX10_heldUpBy_X10_within : GoodIn wsX10_heldUpBy (va_wsS RX10 36 yX10_within wsX10_within) := goodIn_app (goodIn_of _ (by decide +kernel)) ggX10_heldUpBy_X10_within
set_option maxRecDepth 20000 in
theorem ggX10_heldUpBy_X10_isReady : GoodIn wsX10_heldUpBy wsX10_isReady := goodIn_r _ [13, 14, 15, 16, 5, 17, 18, 19, 20, 21, 1, 22, 23, 24, 25, 26, 27, 28, 29, 78, 79, 80, 81, 82, 83, 84, 85, 86, 87, 88, 89] (by decide +kernel) (by decide +kernel)
set_option maxRecDepth 20000 in
theorem gX10_heldUpBy_X10_isReady : GoodIn wsX10_heldUpBy (wsV RX10 61 RX10 yX10_isReady wsX10_isReady) := goodIn_app (goodIn_of _ (by decide +kernel)) ggX10_heldUpBy_X10_isReady
set_option maxRecDepth 20000 in
theorem ggX10_heldUpBy_X10_beginWithout : GoodIn wsX10_heldUpBy wsX10_beginWithout := goodIn_r _ [33, 1, 34, 35, 36, 5, 37, 38, 39, 40, 41, 42, 43, 44, 45, 46, 47, 48, 49, 50, 51, 52, 53, 10, 11, 12, 13, 14, 15, 16, 17, 18, 19, 20, 21, 22, 23, 24, 25, 26, 27, 28, 29, 54, 55, 56, 57, 58, 59, 60, 61, 62, 63, 64, 65, 66, 67, 68, 69, 70, 71, 72, 73, 74, 75, 76, 77, 78, 79, 80, 81, 82, 83, 84, 85, 86, 87, 88, 89] (by decide +kernel) (by decide +kernel)
set_option maxRecDepth 20000 in
theorem gX10_heldUpBy_X10_beginWithout : GoodIn wsX10_heldUpBy (wsV RX10 161 RX10 yX10_beginWithout wsX10_beginWithout) := goodIn_app (goodIn_of _ (by decide +kernel)) ggX10_heldUpBy_X10_beginWithout
theorem dX10_heldUpBy_0 : decode cX10_heldUpBy 0 = .ok (.aload_n 0, 1) := by decide +kernel
theorem dX10_heldUpBy_1 : decode cX10_heldUpBy 1 = .ok (.iload_n 1, 1) := by decide +kernel
theorem dX10_heldUpBy_2 : decode cX10_heldUpBy 2 = .ok (.invokevirtual 112, 3) := by decide +kernel
theorem dX10_heldUpBy_5 : decode cX10_heldUpBy 5 = .ok (.ifCond .eq 12, 3) := by decide +kernel
theorem dX10_heldUpBy_8 : decode cX10_heldUpBy 8 = .ok (.iload_n 2, 1) := by decide +kernel
theorem dX10_heldUpBy_9 : decode cX10_heldUpBy 9 = .ok (.iconst 0, 1) := by decide +kernel
theorem dX10_heldUpBy_10 : decode cX10_heldUpBy 10 = .ok (.iconst 1, 1) := by decide +kernel
theorem dX10_heldUpBy_11 : decode cX10_heldUpBy 11 = .ok (.invokestatic 36, 3) := by decide +kernel
theorem dX10_heldUpBy_14 : decode cX10_heldUpBy 14 = .ok (.ifCond .ne 18, 3) := by decide +kernel
theorem dX10_heldUpBy_17 : decode cX10_heldUpBy 17 = .ok (.aload_n 0, 1) := by decide +kernel
theorem dX10_heldUpBy_18 : decode cX10_heldUpBy 18 = .ok (.iload_n 1, 1) := by decide +kernel
theorem dX10_heldUpBy_19 : decode cX10_heldUpBy 19 = .ok (.invokevirtual 112, 3) := by decide +kernel
theorem dX10_heldUpBy_22 : decode cX10_heldUpBy 22 = .ok (.ifCond .eq 8, 3) := by decide +kernel
theorem dX10_heldUpBy_25 : decode cX10_heldUpBy 25 = .ok (.bipush (-2), 2) := by decide +kernel
theorem dX10_heldUpBy_27 : decode cX10_heldUpBy 27 = .ok (.goto 4, 3) := by decide +kernel
theorem dX10_heldUpBy_30 : decode cX10_heldUpBy 30 = .ok (.iconst (-1), 1) := by decide +kernel
theorem dX10_heldUpBy_31 : decode cX10_heldUpBy 31 = .ok (.ireturn, 1) := by decide +kernel
theorem dX10_heldUpBy_32 : decode cX10_heldUpBy 32 = .ok (.aload_n 0, 1) := by decide +kernel
theorem dX10_heldUpBy_33 : decode cX10_heldUpBy 33 = .ok (.iload_n 1, 1) := by decide +kernel
theorem dX10_heldUpBy_34 : decode cX10_heldUpBy 34 = .ok (.invokevirtual 61, 3) := by decide +kernel
theorem dX10_heldUpBy_37 : decode cX10_heldUpBy 37 = .ok (.ifCond .eq 13, 3) := by decide +kernel
theorem dX10_heldUpBy_40 : decode cX10_heldUpBy 40 = .ok (.aload_n 0, 1) := by decide +kernel
theorem dX10_heldUpBy_41 : decode cX10_heldUpBy 41 = .ok (.getfield 7, 3) := by decide +kernel
theorem dX10_heldUpBy_44 : decode cX10_heldUpBy 44 = .ok (.iconst 2, 1) := by decide +kernel
theorem dX10_heldUpBy_45 : decode cX10_heldUpBy 45 = .ok (.iaload, 1) := by decide +kernel
theorem dX10_heldUpBy_46 : decode cX10_heldUpBy 46 = .ok (.iconst 1, 1) := by decide +kernel
theorem dX10_heldUpBy_47 : decode cX10_heldUpBy 47 = .ok (.if_icmp .ne 6, 3) := by decide +kernel
theorem dX10_heldUpBy_50 : decode cX10_heldUpBy 50 = .ok (.bipush (-6), 2) := by decide +kernel
theorem dX10_heldUpBy_52 : decode cX10_heldUpBy 52 = .ok (.ireturn, 1) := by decide +kernel
theorem dX10_heldUpBy_53 : decode cX10_heldUpBy 53 = .ok (.aload_n 0, 1) := by decide +kernel
theorem dX10_heldUpBy_54 : decode cX10_heldUpBy 54 = .ok (.iload_n 1, 1) := by decide +kernel
theorem dX10_heldUpBy_55 : decode cX10_heldUpBy 55 = .ok (.bipush (-6), 2) := by decide +kernel
theorem dX10_heldUpBy_57 : decode cX10_heldUpBy 57 = .ok (.invokevirtual 161, 3) := by decide +kernel
theorem dX10_heldUpBy_60 : decode cX10_heldUpBy 60 = .ok (.istore_n 3, 1) := by decide +kernel
theorem dX10_heldUpBy_61 : decode cX10_heldUpBy 61 = .ok (.bipush (-6), 2) := by decide +kernel
theorem dX10_heldUpBy_63 : decode cX10_heldUpBy 63 = .ok (.istore 4, 2) := by decide +kernel
theorem dX10_heldUpBy_65 : decode cX10_heldUpBy 65 = .ok (.iconst 0, 1) := by decide +kernel
theorem dX10_heldUpBy_66 : decode cX10_heldUpBy 66 = .ok (.istore 5, 2) := by decide +kernel
theorem dX10_heldUpBy_68 : decode cX10_heldUpBy 68 = .ok (.iconst 0, 1) := by decide +kernel
theorem dX10_heldUpBy_69 : decode cX10_heldUpBy 69 = .ok (.istore 6, 2) := by decide +kernel
theorem dX10_heldUpBy_71 : decode cX10_heldUpBy 71 = .ok (.iload 6, 2) := by decide +kernel
theorem dX10_heldUpBy_73 : decode cX10_heldUpBy 73 = .ok (.aload_n 0, 1) := by decide +kernel
theorem dX10_heldUpBy_74 : decode cX10_heldUpBy 74 = .ok (.getfield 7, 3) := by decide +kernel
theorem dX10_heldUpBy_77 : decode cX10_heldUpBy 77 = .ok (.iconst 2, 1) := by decide +kernel
theorem dX10_heldUpBy_78 : decode cX10_heldUpBy 78 = .ok (.iaload, 1) := by decide +kernel
theorem dX10_heldUpBy_79 : decode cX10_heldUpBy 79 = .ok (.if_icmp .ge 75, 3) := by decide +kernel
theorem dX10_heldUpBy_82 : decode cX10_heldUpBy 82 = .ok (.iload 6, 2) := by decide +kernel
theorem dX10_heldUpBy_84 : decode cX10_heldUpBy 84 = .ok (.iload_n 1, 1) := by decide +kernel
theorem dX10_heldUpBy_85 : decode cX10_heldUpBy 85 = .ok (.if_icmp .eq 63, 3) := by decide +kernel
theorem dX10_heldUpBy_88 : decode cX10_heldUpBy 88 = .ok (.iload_n 3, 1) := by decide +kernel
theorem dX10_heldUpBy_89 : decode cX10_heldUpBy 89 = .ok (.aload_n 0, 1) := by decide +kernel
theorem dX10_heldUpBy_90 : decode cX10_heldUpBy 90 = .ok (.iload_n 1, 1) := by decide +kernel
theorem dX10_heldUpBy_91 : decode cX10_heldUpBy 91 = .ok (.iload 6, 2) := by decide +kernel
theorem dX10_heldUpBy_93 : decode cX10_heldUpBy 93 = .ok (.invokevirtual 161, 3) := by decide +kernel
theorem dX10_heldUpBy_96 : decode cX10_heldUpBy 96 = .ok (.isub, 1) := by decide +kernel
theorem dX10_heldUpBy_97 : decode cX10_heldUpBy 97 = .ok (.istore 7, 2) := by decide +kernel
theorem dX10_heldUpBy_99 : decode cX10_heldUpBy 99 = .ok (.iload 4, 2) := by decide +kernel
theorem dX10_heldUpBy_101 : decode cX10_heldUpBy 101 = .ok (.bipush (-6), 2) := by decide +kernel
theorem dX10_heldUpBy_103 : decode cX10_heldUpBy 103 = .ok (.if_icmp .eq 10, 3) := by decide +kernel
theorem dX10_heldUpBy_106 : decode cX10_heldUpBy 106 = .ok (.iload 7, 2) := by decide +kernel
theorem dX10_heldUpBy_108 : decode cX10_heldUpBy 108 = .ok (.iload 5, 2) := by decide +kernel
theorem dX10_heldUpBy_110 : decode cX10_heldUpBy 110 = .ok (.if_icmp .le 7, 3) := by decide +kernel
theorem dX10_heldUpBy_113 : decode cX10_heldUpBy 113 = .ok (.iconst 1, 1) := by decide +kernel
theorem dX10_heldUpBy_114 : decode cX10_heldUpBy 114 = .ok (.goto 4, 3) := by decide +kernel
theorem dX10_heldUpBy_117 : decode cX10_heldUpBy 117 = .ok (.iconst 0, 1) := by decide +kernel
theorem dX10_heldUpBy_118 : decode cX10_heldUpBy 118 = .ok (.istore 8, 2) := by decide +kernel
theorem dX10_heldUpBy_120 : decode cX10_heldUpBy 120 = .ok (.iload 8, 2) := by decide +kernel
theorem dX10_heldUpBy_122 : decode cX10_heldUpBy 122 = .ok (.ifCond .eq 8, 3) := by decide +kernel
theorem dX10_heldUpBy_125 : decode cX10_heldUpBy 125 = .ok (.iload 6, 2) := by decide +kernel
theorem dX10_heldUpBy_127 : decode cX10_heldUpBy 127 = .ok (.goto 5, 3) := by decide +kernel
theorem dX10_heldUpBy_130 : decode cX10_heldUpBy 130 = .ok (.iload 4, 2) := by decide +kernel
theorem dX10_heldUpBy_132 : decode cX10_heldUpBy 132 = .ok (.istore 4, 2) := by decide +kernel
theorem dX10_heldUpBy_134 : decode cX10_heldUpBy 134 = .ok (.iload 8, 2) := by decide +kernel
theorem dX10_heldUpBy_136 : decode cX10_heldUpBy 136 = .ok (.ifCond .eq 8, 3) := by decide +kernel
theorem dX10_heldUpBy_139 : decode cX10_heldUpBy 139 = .ok (.iload 7, 2) := by decide +kernel
theorem dX10_heldUpBy_141 : decode cX10_heldUpBy 141 = .ok (.goto 5, 3) := by decide +kernel
theorem dX10_heldUpBy_144 : decode cX10_heldUpBy 144 = .ok (.iload 5, 2) := by decide +kernel
theorem dX10_heldUpBy_146 : decode cX10_heldUpBy 146 = .ok (.istore 5, 2) := by decide +kernel
theorem dX10_heldUpBy_148 : decode cX10_heldUpBy 148 = .ok (.iinc 6 1, 3) := by decide +kernel
theorem dX10_heldUpBy_151 : decode cX10_heldUpBy 151 = .ok (.goto (-80), 3) := by decide +kernel
theorem dX10_heldUpBy_154 : decode cX10_heldUpBy 154 = .ok (.iload_n 2, 1) := by decide +kernel
theorem dX10_heldUpBy_155 : decode cX10_heldUpBy 155 = .ok (.ifCond .ne 8, 3) := by decide +kernel
theorem dX10_heldUpBy_158 : decode cX10_heldUpBy 158 = .ok (.iload 4, 2) := by decide +kernel
theorem dX10_heldUpBy_160 : decode cX10_heldUpBy 160 = .ok (.goto 5, 3) := by decide +kernel
theorem dX10_heldUpBy_163 : decode cX10_heldUpBy 163 = .ok (.iload 5, 2) := by decide +kernel
theorem dX10_heldUpBy_165 : decode cX10_heldUpBy 165 = .ok (.ireturn, 1) := by decide +kernel
set_option maxRecDepth 20000 in
theorem ggX10_together_X10_isSinger : GoodIn wsX10_together wsX10_isSinger := goodIn_r _ [6, 1, 7, 8, 5, 9, 26, 27, 28, 29, 30, 31, 32, 33, 34, 35, 36, 37] (by decide +kernel) (by decide +kernel)
set_option maxRecDepth 20000 in
theorem gX10_together_X10_isSinger : GoodIn wsX10_together (wsV RX10 89 RX10 yX10_isSinger wsX10_isSinger) := goodIn_app (goodIn_of _ (by decide +kernel)) ggX10_together_X10_isSinger
set_option maxRecDepth 20000 in
theorem ggX10_together_X10_keyFor : GoodIn wsX10_together wsX10_keyFor := goodIn_r _ [13, 14, 15, 16, 5, 17, 18, 19, 20, 21, 1, 22, 23, 24, 25, 26, 27, 28, 29, 30, 31, 32, 33, 34, 35, 36, 37] (by decide +kernel) (by decide +kernel)
set_option maxRecDepth 20000 in
theorem gX10_together_X10_keyFor : GoodIn wsX10_together (wsV RX10 102 RX10 yX10_keyFor wsX10_keyFor) := goodIn_app (goodIn_of _ (by decide +kernel)) ggX10_together_X10_keyFor
theorem dX10_together_0 : decode cX10_together 0 = .ok (.aload_n 0, 1) := by decide +kernel
theorem dX10_together_1 : decode cX10_together 1 = .ok (.iload_n 1, 1) := by decide +kernel
theorem dX10_together_2 : decode cX10_together 2 = .ok (.invokevirtual 89, 3) := by decide +kernel
theorem dX10_together_5 : decode cX10_together 5 = .ok (.ifCond .eq 11, 3) := by decide +kernel
theorem dX10_together_8 : decode cX10_together 8 = .ok (.aload_n 0, 1) := by decide +kernel
theorem dX10_together_9 : decode cX10_together 9 = .ok (.iload_n 2, 1) := by decide +kernel
theorem dX10_together_10 : decode cX10_together 10 = .ok (.invokevirtual 89, 3) := by decide +kernel
theorem dX10_together_13 : decode cX10_together 13 = .ok (.ifCond .ne 5, 3) := by decide +kernel
theorem dX10_together_16 : decode cX10_together 16 = .ok (.iconst (-1), 1) := by decide +kernel
theorem dX10_together_17 : decode cX10_together 17 = .ok (.ireturn, 1) := by decide +kernel
theorem dX10_together_18 : decode cX10_together 18 = .ok (.iload_n 1, 1) := by decide +kernel
theorem dX10_together_19 : decode cX10_together 19 = .ok (.iload_n 2, 1) := by decide +kernel
theorem dX10_together_20 : decode cX10_together 20 = .ok (.if_icmp .ne 6, 3) := by decide +kernel
theorem dX10_together_23 : decode cX10_together 23 = .ok (.bipush (-2), 2) := by decide +kernel
theorem dX10_together_25 : decode cX10_together 25 = .ok (.ireturn, 1) := by decide +kernel
theorem dX10_together_26 : decode cX10_together 26 = .ok (.iconst 0, 1) := by decide +kernel
theorem dX10_together_27 : decode cX10_together 27 = .ok (.istore_n 3, 1) := by decide +kernel
theorem dX10_together_28 : decode cX10_together 28 = .ok (.iconst 0, 1) := by decide +kernel
theorem dX10_together_29 : decode cX10_together 29 = .ok (.istore 4, 2) := by decide +kernel
theorem dX10_together_31 : decode cX10_together 31 = .ok (.iload 4, 2) := by decide +kernel
theorem dX10_together_33 : decode cX10_together 33 = .ok (.aload_n 0, 1) := by decide +kernel
theorem dX10_together_34 : decode cX10_together 34 = .ok (.getfield 7, 3) := by decide +kernel
theorem dX10_together_37 : decode cX10_together 37 = .ok (.iconst 1, 1) := by decide +kernel
theorem dX10_together_38 : decode cX10_together 38 = .ok (.iaload, 1) := by decide +kernel
theorem dX10_together_39 : decode cX10_together 39 = .ok (.if_icmp .ge 30, 3) := by decide +kernel
theorem dX10_together_42 : decode cX10_together 42 = .ok (.iload_n 3, 1) := by decide +kernel
theorem dX10_together_43 : decode cX10_together 43 = .ok (.aload_n 0, 1) := by decide +kernel
theorem dX10_together_44 : decode cX10_together 44 = .ok (.iload_n 1, 1) := by decide +kernel
theorem dX10_together_45 : decode cX10_together 45 = .ok (.iload_n 2, 1) := by decide +kernel
theorem dX10_together_46 : decode cX10_together 46 = .ok (.iload 4, 2) := by decide +kernel
theorem dX10_together_48 : decode cX10_together 48 = .ok (.invokevirtual 102, 3) := by decide +kernel
theorem dX10_together_51 : decode cX10_together 51 = .ok (.bipush (-6), 2) := by decide +kernel
theorem dX10_together_53 : decode cX10_together 53 = .ok (.if_icmp .ne 7, 3) := by decide +kernel
theorem dX10_together_56 : decode cX10_together 56 = .ok (.iconst 0, 1) := by decide +kernel
theorem dX10_together_57 : decode cX10_together 57 = .ok (.goto 4, 3) := by decide +kernel
theorem dX10_together_60 : decode cX10_together 60 = .ok (.iconst 1, 1) := by decide +kernel
theorem dX10_together_61 : decode cX10_together 61 = .ok (.iadd, 1) := by decide +kernel
theorem dX10_together_62 : decode cX10_together 62 = .ok (.istore_n 3, 1) := by decide +kernel
theorem dX10_together_63 : decode cX10_together 63 = .ok (.iinc 4 1, 3) := by decide +kernel
theorem dX10_together_66 : decode cX10_together 66 = .ok (.goto (-35), 3) := by decide +kernel
theorem dX10_together_69 : decode cX10_together 69 = .ok (.iload_n 3, 1) := by decide +kernel
theorem dX10_together_70 : decode cX10_together 70 = .ok (.ireturn, 1) := by decide +kernel
set_option maxRecDepth 20000 in
theorem ggX10_put_X10_within : GoodIn wsX10_put wsX10_within := goodIn_r _ [7] (by decide +kernel) (by decide +kernel)
set_option maxRecDepth 20000 in
theorem gX10_put_X10_within : GoodIn wsX10_put (va_wsS RX10 36 yX10_within wsX10_within) := goodIn_app (goodIn_of _ (by decide +kernel)) ggX10_put_X10_within
theorem dX10_put_0 : decode cX10_put 0 = .ok (.iconst 0, 1) := by decide +kernel
theorem dX10_put_1 : decode cX10_put 1 = .ok (.istore_n 3, 1) := by decide +kernel
theorem dX10_put_2 : decode cX10_put 2 = .ok (.lload_n 1, 1) := by decide +kernel
theorem dX10_put_3 : decode cX10_put 3 = .ok (.lstore 4, 2) := by decide +kernel
theorem dX10_put_5 : decode cX10_put 5 = .ok (.iconst 1, 1) := by decide +kernel
theorem dX10_put_6 : decode cX10_put 6 = .ok (.istore 6, 2) := by decide +kernel
theorem dX10_put_8 : decode cX10_put 8 = .ok (.iload_n 3, 1) := by decide +kernel
theorem dX10_put_9 : decode cX10_put 9 = .ok (.bipush 8, 2) := by decide +kernel
theorem dX10_put_11 : decode cX10_put 11 = .ok (.if_icmp .ge 56, 3) := by decide +kernel
theorem dX10_put_14 : decode cX10_put 14 = .ok (.lload 4, 2) := by decide +kernel
theorem dX10_put_16 : decode cX10_put 16 = .ok (.ldc2_w 164, 3) := by decide +kernel
theorem dX10_put_19 : decode cX10_put 19 = .ok (.land, 1) := by decide +kernel
theorem dX10_put_20 : decode cX10_put 20 = .ok (.lconst 0, 1) := by decide +kernel
theorem dX10_put_21 : decode cX10_put 21 = .ok (.lcmp, 1) := by decide +kernel
theorem dX10_put_22 : decode cX10_put 22 = .ok (.ifCond .eq 45, 3) := by decide +kernel
theorem dX10_put_25 : decode cX10_put 25 = .ok (.iload 6, 2) := by decide +kernel
theorem dX10_put_27 : decode cX10_put 27 = .ok (.ifCond .eq 24, 3) := by decide +kernel
theorem dX10_put_30 : decode cX10_put 30 = .ok (.lload 4, 2) := by decide +kernel
theorem dX10_put_32 : decode cX10_put 32 = .ok (.ldc2_w 164, 3) := by decide +kernel
theorem dX10_put_35 : decode cX10_put 35 = .ok (.land, 1) := by decide +kernel
theorem dX10_put_36 : decode cX10_put 36 = .ok (.l2i, 1) := by decide +kernel
theorem dX10_put_37 : decode cX10_put 37 = .ok (.bipush 33, 2) := by decide +kernel
theorem dX10_put_39 : decode cX10_put 39 = .ok (.bipush 126, 2) := by decide +kernel
theorem dX10_put_41 : decode cX10_put 41 = .ok (.invokestatic 36, 3) := by decide +kernel
theorem dX10_put_44 : decode cX10_put 44 = .ok (.ifCond .eq 7, 3) := by decide +kernel
theorem dX10_put_47 : decode cX10_put 47 = .ok (.iconst 1, 1) := by decide +kernel
theorem dX10_put_48 : decode cX10_put 48 = .ok (.goto 4, 3) := by decide +kernel
theorem dX10_put_51 : decode cX10_put 51 = .ok (.iconst 0, 1) := by decide +kernel
theorem dX10_put_52 : decode cX10_put 52 = .ok (.istore 6, 2) := by decide +kernel
theorem dX10_put_54 : decode cX10_put 54 = .ok (.lload 4, 2) := by decide +kernel
theorem dX10_put_56 : decode cX10_put 56 = .ok (.bipush 8, 2) := by decide +kernel
theorem dX10_put_58 : decode cX10_put 58 = .ok (.lushr, 1) := by decide +kernel
theorem dX10_put_59 : decode cX10_put 59 = .ok (.lstore 4, 2) := by decide +kernel
theorem dX10_put_61 : decode cX10_put 61 = .ok (.iinc 3 1, 3) := by decide +kernel
theorem dX10_put_64 : decode cX10_put 64 = .ok (.goto (-56), 3) := by decide +kernel
theorem dX10_put_67 : decode cX10_put 67 = .ok (.iload_n 3, 1) := by decide +kernel
theorem dX10_put_68 : decode cX10_put 68 = .ok (.ifCond .eq 15, 3) := by decide +kernel
theorem dX10_put_71 : decode cX10_put 71 = .ok (.iload 6, 2) := by decide +kernel
theorem dX10_put_73 : decode cX10_put 73 = .ok (.ifCond .eq 10, 3) := by decide +kernel
theorem dX10_put_76 : decode cX10_put 76 = .ok (.lload 4, 2) := by decide +kernel
theorem dX10_put_78 : decode cX10_put 78 = .ok (.lconst 0, 1) := by decide +kernel
theorem dX10_put_79 : decode cX10_put 79 = .ok (.lcmp, 1) := by decide +kernel
theorem dX10_put_80 : decode cX10_put 80 = .ok (.ifCond .eq 6, 3) := by decide +kernel
theorem dX10_put_83 : decode cX10_put 83 = .ok (.bipush (-2), 2) := by decide +kernel
theorem dX10_put_85 : decode cX10_put 85 = .ok (.ireturn, 1) := by decide +kernel
theorem dX10_put_86 : decode cX10_put 86 = .ok (.aload_n 0, 1) := by decide +kernel
theorem dX10_put_87 : decode cX10_put 87 = .ok (.getfield 127, 3) := by decide +kernel
theorem dX10_put_90 : decode cX10_put 90 = .ok (.iload_n 3, 1) := by decide +kernel
theorem dX10_put_91 : decode cX10_put 91 = .ok (.iadd, 1) := by decide +kernel
theorem dX10_put_92 : decode cX10_put 92 = .ok (.bipush 60, 2) := by decide +kernel
theorem dX10_put_94 : decode cX10_put 94 = .ok (.if_icmp .le 6, 3) := by decide +kernel
theorem dX10_put_97 : decode cX10_put 97 = .ok (.bipush (-4), 2) := by decide +kernel
theorem dX10_put_99 : decode cX10_put 99 = .ok (.ireturn, 1) := by decide +kernel
theorem dX10_put_100 : decode cX10_put 100 = .ok (.iload_n 3, 1) := by decide +kernel
theorem dX10_put_101 : decode cX10_put 101 = .ok (.iconst 1, 1) := by decide +kernel
theorem dX10_put_102 : decode cX10_put 102 = .ok (.isub, 1) := by decide +kernel
theorem dX10_put_103 : decode cX10_put 103 = .ok (.istore 7, 2) := by decide +kernel
theorem dX10_put_105 : decode cX10_put 105 = .ok (.iload 7, 2) := by decide +kernel
theorem dX10_put_107 : decode cX10_put 107 = .ok (.ifCond .lt 40, 3) := by decide +kernel
theorem dX10_put_110 : decode cX10_put 110 = .ok (.aload_n 0, 1) := by decide +kernel
theorem dX10_put_111 : decode cX10_put 111 = .ok (.getfield 25, 3) := by decide +kernel
theorem dX10_put_114 : decode cX10_put 114 = .ok (.aload_n 0, 1) := by decide +kernel
theorem dX10_put_115 : decode cX10_put 115 = .ok (.getfield 127, 3) := by decide +kernel
theorem dX10_put_118 : decode cX10_put 118 = .ok (.lload_n 1, 1) := by decide +kernel
theorem dX10_put_119 : decode cX10_put 119 = .ok (.bipush 8, 2) := by decide +kernel
theorem dX10_put_121 : decode cX10_put 121 = .ok (.iload 7, 2) := by decide +kernel
theorem dX10_put_123 : decode cX10_put 123 = .ok (.imul, 1) := by decide +kernel
theorem dX10_put_124 : decode cX10_put 124 = .ok (.lushr, 1) := by decide +kernel
theorem dX10_put_125 : decode cX10_put 125 = .ok (.ldc2_w 164, 3) := by decide +kernel
theorem dX10_put_128 : decode cX10_put 128 = .ok (.land, 1) := by decide +kernel
theorem dX10_put_129 : decode cX10_put 129 = .ok (.l2i, 1) := by decide +kernel
theorem dX10_put_130 : decode cX10_put 130 = .ok (.iastore, 1) := by decide +kernel
theorem dX10_put_131 : decode cX10_put 131 = .ok (.aload_n 0, 1) := by decide +kernel
theorem dX10_put_132 : decode cX10_put 132 = .ok (.dup, 1) := by decide +kernel
theorem dX10_put_133 : decode cX10_put 133 = .ok (.getfield 127, 3) := by decide +kernel
theorem dX10_put_136 : decode cX10_put 136 = .ok (.iconst 1, 1) := by decide +kernel
theorem dX10_put_137 : decode cX10_put 137 = .ok (.iadd, 1) := by decide +kernel
theorem dX10_put_138 : decode cX10_put 138 = .ok (.putfield 127, 3) := by decide +kernel
theorem dX10_put_141 : decode cX10_put 141 = .ok (.iinc 7 (-1), 3) := by decide +kernel
theorem dX10_put_144 : decode cX10_put 144 = .ok (.goto (-39), 3) := by decide +kernel
theorem dX10_put_147 : decode cX10_put 147 = .ok (.aload_n 0, 1) := by decide +kernel
theorem dX10_put_148 : decode cX10_put 148 = .ok (.getfield 127, 3) := by decide +kernel
theorem dX10_put_151 : decode cX10_put 151 = .ok (.ireturn, 1) := by decide +kernel
theorem dX10_wipe_0 : decode cX10_wipe 0 = .ok (.aload_n 0, 1) := by decide +kernel
theorem dX10_wipe_1 : decode cX10_wipe 1 = .ok (.getfield 127, 3) := by decide +kernel
theorem dX10_wipe_4 : decode cX10_wipe 4 = .ok (.istore_n 1, 1) := by decide +kernel
theorem dX10_wipe_5 : decode cX10_wipe 5 = .ok (.aload_n 0, 1) := by decide +kernel
theorem dX10_wipe_6 : decode cX10_wipe 6 = .ok (.iconst 0, 1) := by decide +kernel
theorem dX10_wipe_7 : decode cX10_wipe 7 = .ok (.putfield 127, 3) := by decide +kernel
theorem dX10_wipe_10 : decode cX10_wipe 10 = .ok (.iload_n 1, 1) := by decide +kernel
theorem dX10_wipe_11 : decode cX10_wipe 11 = .ok (.ireturn, 1) := by decide +kernel
theorem dX10_character_0 : decode cX10_character 0 = .ok (.iload_n 1, 1) := by decide +kernel
theorem dX10_character_1 : decode cX10_character 1 = .ok (.aload_n 0, 1) := by decide +kernel
theorem dX10_character_2 : decode cX10_character 2 = .ok (.getfield 127, 3) := by decide +kernel
theorem dX10_character_5 : decode cX10_character 5 = .ok (.if_icmp .ge 12, 3) := by decide +kernel
theorem dX10_character_8 : decode cX10_character 8 = .ok (.aload_n 0, 1) := by decide +kernel
theorem dX10_character_9 : decode cX10_character 9 = .ok (.getfield 25, 3) := by decide +kernel
theorem dX10_character_12 : decode cX10_character 12 = .ok (.iload_n 1, 1) := by decide +kernel
theorem dX10_character_13 : decode cX10_character 13 = .ok (.iaload, 1) := by decide +kernel
theorem dX10_character_14 : decode cX10_character 14 = .ok (.goto 4, 3) := by decide +kernel
theorem dX10_character_17 : decode cX10_character 17 = .ok (.iconst (-1), 1) := by decide +kernel
theorem dX10_character_18 : decode cX10_character 18 = .ok (.ireturn, 1) := by decide +kernel
set_option maxRecDepth 20000 in
theorem ggX10_isNext_X10_character : GoodIn wsX10_isNext wsX10_character := goodIn_r _ [6, 7, 8, 9, 10, 11, 12, 13, 14, 15, 16, 17, 18, 19, 20] (by decide +kernel) (by decide +kernel)
set_option maxRecDepth 20000 in
theorem gX10_isNext_X10_character : GoodIn wsX10_isNext (wsV RX10 166 RX10 yX10_character wsX10_character) := goodIn_app (goodIn_of _ (by decide +kernel)) ggX10_isNext_X10_character
theorem dX10_isNext_0 : decode cX10_isNext 0 = .ok (.aload_n 0, 1) := by decide +kernel
theorem dX10_isNext_1 : decode cX10_isNext 1 = .ok (.aload_n 0, 1) := by decide +kernel
theorem dX10_isNext_2 : decode cX10_isNext 2 = .ok (.getfield 130, 3) := by decide +kernel
theorem dX10_isNext_5 : decode cX10_isNext 5 = .ok (.invokevirtual 166, 3) := by decide +kernel
theorem dX10_isNext_8 : decode cX10_isNext 8 = .ok (.iload_n 1, 1) := by decide +kernel
theorem dX10_isNext_9 : decode cX10_isNext 9 = .ok (.if_icmp .ne 7, 3) := by decide +kernel
theorem dX10_isNext_12 : decode cX10_isNext 12 = .ok (.iconst 1, 1) := by decide +kernel
theorem dX10_isNext_13 : decode cX10_isNext 13 = .ok (.goto 4, 3) := by decide +kernel
theorem dX10_isNext_16 : decode cX10_isNext 16 = .ok (.iconst 0, 1) := by decide +kernel
theorem dX10_isNext_17 : decode cX10_isNext 17 = .ok (.istore_n 2, 1) := by decide +kernel
theorem dX10_isNext_18 : decode cX10_isNext 18 = .ok (.aload_n 0, 1) := by decide +kernel
theorem dX10_isNext_19 : decode cX10_isNext 19 = .ok (.dup, 1) := by decide +kernel
theorem dX10_isNext_20 : decode cX10_isNext 20 = .ok (.getfield 130, 3) := by decide +kernel
theorem dX10_isNext_23 : decode cX10_isNext 23 = .ok (.iload_n 2, 1) := by decide +kernel
theorem dX10_isNext_24 : decode cX10_isNext 24 = .ok (.ifCond .eq 7, 3) := by decide +kernel
theorem dX10_isNext_27 : decode cX10_isNext 27 = .ok (.iconst 1, 1) := by decide +kernel
theorem dX10_isNext_28 : decode cX10_isNext 28 = .ok (.goto 4, 3) := by decide +kernel
theorem dX10_isNext_31 : decode cX10_isNext 31 = .ok (.iconst 0, 1) := by decide +kernel
theorem dX10_isNext_32 : decode cX10_isNext 32 = .ok (.iadd, 1) := by decide +kernel
theorem dX10_isNext_33 : decode cX10_isNext 33 = .ok (.putfield 130, 3) := by decide +kernel
theorem dX10_isNext_36 : decode cX10_isNext 36 = .ok (.iload_n 2, 1) := by decide +kernel
theorem dX10_isNext_37 : decode cX10_isNext 37 = .ok (.ireturn, 1) := by decide +kernel
set_option maxRecDepth 20000 in
theorem ggX10_takeNumber_X10_character : GoodIn wsX10_takeNumber wsX10_character := goodIn_r _ [6, 7, 8, 12, 13, 14, 15, 16, 17, 18, 19, 20, 21, 22, 23] (by decide +kernel) (by decide +kernel)
set_option maxRecDepth 20000 in
theorem gX10_takeNumber_X10_character : GoodIn wsX10_takeNumber (wsV RX10 166 RX10 yX10_character wsX10_character) := goodIn_app (goodIn_of _ (by decide +kernel)) ggX10_takeNumber_X10_character
set_option maxRecDepth 20000 in
theorem ggX10_takeNumber_X10_within : GoodIn wsX10_takeNumber wsX10_within := goodIn_r _ [11] (by decide +kernel) (by decide +kernel)
set_option maxRecDepth 20000 in
theorem gX10_takeNumber_X10_within : GoodIn wsX10_takeNumber (va_wsS RX10 36 yX10_within wsX10_within) := goodIn_app (goodIn_of _ (by decide +kernel)) ggX10_takeNumber_X10_within
theorem dX10_takeNumber_0 : decode cX10_takeNumber 0 = .ok (.iconst (-1), 1) := by decide +kernel
theorem dX10_takeNumber_1 : decode cX10_takeNumber 1 = .ok (.istore_n 2, 1) := by decide +kernel
theorem dX10_takeNumber_2 : decode cX10_takeNumber 2 = .ok (.aload_n 0, 1) := by decide +kernel
theorem dX10_takeNumber_3 : decode cX10_takeNumber 3 = .ok (.aload_n 0, 1) := by decide +kernel
theorem dX10_takeNumber_4 : decode cX10_takeNumber 4 = .ok (.getfield 130, 3) := by decide +kernel
theorem dX10_takeNumber_7 : decode cX10_takeNumber 7 = .ok (.invokevirtual 166, 3) := by decide +kernel
theorem dX10_takeNumber_10 : decode cX10_takeNumber 10 = .ok (.bipush 48, 2) := by decide +kernel
theorem dX10_takeNumber_12 : decode cX10_takeNumber 12 = .ok (.bipush 57, 2) := by decide +kernel
theorem dX10_takeNumber_14 : decode cX10_takeNumber 14 = .ok (.invokestatic 36, 3) := by decide +kernel
theorem dX10_takeNumber_17 : decode cX10_takeNumber 17 = .ok (.istore_n 3, 1) := by decide +kernel
theorem dX10_takeNumber_18 : decode cX10_takeNumber 18 = .ok (.iload_n 3, 1) := by decide +kernel
theorem dX10_takeNumber_19 : decode cX10_takeNumber 19 = .ok (.ifCond .eq 89, 3) := by decide +kernel
theorem dX10_takeNumber_22 : decode cX10_takeNumber 22 = .ok (.iload_n 2, 1) := by decide +kernel
theorem dX10_takeNumber_23 : decode cX10_takeNumber 23 = .ok (.ifCond .ge 7, 3) := by decide +kernel
theorem dX10_takeNumber_26 : decode cX10_takeNumber 26 = .ok (.iconst 0, 1) := by decide +kernel
theorem dX10_takeNumber_27 : decode cX10_takeNumber 27 = .ok (.goto 7, 3) := by decide +kernel
theorem dX10_takeNumber_30 : decode cX10_takeNumber 30 = .ok (.bipush 10, 2) := by decide +kernel
theorem dX10_takeNumber_32 : decode cX10_takeNumber 32 = .ok (.iload_n 2, 1) := by decide +kernel
theorem dX10_takeNumber_33 : decode cX10_takeNumber 33 = .ok (.imul, 1) := by decide +kernel
theorem dX10_takeNumber_34 : decode cX10_takeNumber 34 = .ok (.aload_n 0, 1) := by decide +kernel
theorem dX10_takeNumber_35 : decode cX10_takeNumber 35 = .ok (.aload_n 0, 1) := by decide +kernel
theorem dX10_takeNumber_36 : decode cX10_takeNumber 36 = .ok (.getfield 130, 3) := by decide +kernel
theorem dX10_takeNumber_39 : decode cX10_takeNumber 39 = .ok (.invokevirtual 166, 3) := by decide +kernel
theorem dX10_takeNumber_42 : decode cX10_takeNumber 42 = .ok (.iadd, 1) := by decide +kernel
theorem dX10_takeNumber_43 : decode cX10_takeNumber 43 = .ok (.bipush 48, 2) := by decide +kernel
theorem dX10_takeNumber_45 : decode cX10_takeNumber 45 = .ok (.isub, 1) := by decide +kernel
theorem dX10_takeNumber_46 : decode cX10_takeNumber 46 = .ok (.istore_n 2, 1) := by decide +kernel
theorem dX10_takeNumber_47 : decode cX10_takeNumber 47 = .ok (.aload_n 0, 1) := by decide +kernel
theorem dX10_takeNumber_48 : decode cX10_takeNumber 48 = .ok (.dup, 1) := by decide +kernel
theorem dX10_takeNumber_49 : decode cX10_takeNumber 49 = .ok (.getfield 130, 3) := by decide +kernel
theorem dX10_takeNumber_52 : decode cX10_takeNumber 52 = .ok (.iconst 1, 1) := by decide +kernel
theorem dX10_takeNumber_53 : decode cX10_takeNumber 53 = .ok (.iadd, 1) := by decide +kernel
theorem dX10_takeNumber_54 : decode cX10_takeNumber 54 = .ok (.putfield 130, 3) := by decide +kernel
theorem dX10_takeNumber_57 : decode cX10_takeNumber 57 = .ok (.iload_n 2, 1) := by decide +kernel
theorem dX10_takeNumber_58 : decode cX10_takeNumber 58 = .ok (.ifCond .le 45, 3) := by decide +kernel
theorem dX10_takeNumber_61 : decode cX10_takeNumber 61 = .ok (.aload_n 0, 1) := by decide +kernel
theorem dX10_takeNumber_62 : decode cX10_takeNumber 62 = .ok (.aload_n 0, 1) := by decide +kernel
theorem dX10_takeNumber_63 : decode cX10_takeNumber 63 = .ok (.getfield 130, 3) := by decide +kernel
theorem dX10_takeNumber_66 : decode cX10_takeNumber 66 = .ok (.invokevirtual 166, 3) := by decide +kernel
theorem dX10_takeNumber_69 : decode cX10_takeNumber 69 = .ok (.bipush 48, 2) := by decide +kernel
theorem dX10_takeNumber_71 : decode cX10_takeNumber 71 = .ok (.bipush 57, 2) := by decide +kernel
theorem dX10_takeNumber_73 : decode cX10_takeNumber 73 = .ok (.invokestatic 36, 3) := by decide +kernel
theorem dX10_takeNumber_76 : decode cX10_takeNumber 76 = .ok (.ifCond .eq 27, 3) := by decide +kernel
theorem dX10_takeNumber_79 : decode cX10_takeNumber 79 = .ok (.bipush 10, 2) := by decide +kernel
theorem dX10_takeNumber_81 : decode cX10_takeNumber 81 = .ok (.iload_n 2, 1) := by decide +kernel
theorem dX10_takeNumber_82 : decode cX10_takeNumber 82 = .ok (.imul, 1) := by decide +kernel
theorem dX10_takeNumber_83 : decode cX10_takeNumber 83 = .ok (.aload_n 0, 1) := by decide +kernel
theorem dX10_takeNumber_84 : decode cX10_takeNumber 84 = .ok (.aload_n 0, 1) := by decide +kernel
theorem dX10_takeNumber_85 : decode cX10_takeNumber 85 = .ok (.getfield 130, 3) := by decide +kernel
theorem dX10_takeNumber_88 : decode cX10_takeNumber 88 = .ok (.invokevirtual 166, 3) := by decide +kernel
theorem dX10_takeNumber_91 : decode cX10_takeNumber 91 = .ok (.iadd, 1) := by decide +kernel
theorem dX10_takeNumber_92 : decode cX10_takeNumber 92 = .ok (.bipush 48, 2) := by decide +kernel
theorem dX10_takeNumber_94 : decode cX10_takeNumber 94 = .ok (.isub, 1) := by decide +kernel
theorem dX10_takeNumber_95 : decode cX10_takeNumber 95 = .ok (.iload_n 1, 1) := by decide +kernel
theorem dX10_takeNumber_96 : decode cX10_takeNumber 96 = .ok (.if_icmp .gt 7, 3) := by decide +kernel
theorem dX10_takeNumber_99 : decode cX10_takeNumber 99 = .ok (.iconst 1, 1) := by decide +kernel
theorem dX10_takeNumber_100 : decode cX10_takeNumber 100 = .ok (.goto 4, 3) := by decide +kernel
theorem dX10_takeNumber_103 : decode cX10_takeNumber 103 = .ok (.iconst 0, 1) := by decide +kernel
theorem dX10_takeNumber_104 : decode cX10_takeNumber 104 = .ok (.istore_n 3, 1) := by decide +kernel
theorem dX10_takeNumber_105 : decode cX10_takeNumber 105 = .ok (.goto (-87), 3) := by decide +kernel
theorem dX10_takeNumber_108 : decode cX10_takeNumber 108 = .ok (.iload_n 2, 1) := by decide +kernel
theorem dX10_takeNumber_109 : decode cX10_takeNumber 109 = .ok (.ireturn, 1) := by decide +kernel
set_option maxRecDepth 20000 in
theorem ggX10_readsWish_X10_takeNumber : GoodIn wsX10_readsWish wsX10_takeNumber := goodIn_r _ [8, 9, 10, 11, 12, 7, 13, 14, 15, 16, 17, 18, 23, 24, 25, 26, 27, 28, 29, 30, 31, 32, 33, 34] (by decide +kernel) (by decide +kernel)
set_option maxRecDepth 20000 in
theorem gX10_readsWish_X10_takeNumber : GoodIn wsX10_readsWish (wsV RX10 169 RX10 yX10_takeNumber wsX10_takeNumber) := goodIn_app (goodIn_of _ (by decide +kernel)) ggX10_readsWish_X10_takeNumber
set_option maxRecDepth 20000 in
theorem ggX10_readsWish_X10_isNext : GoodIn wsX10_readsWish wsX10_isNext := goodIn_r _ [22, 9, 10, 11, 12, 7, 13, 14, 15, 23, 24, 25, 26, 27, 28, 29, 30, 31, 32, 33, 34] (by decide +kernel) (by decide +kernel)
set_option maxRecDepth 20000 in
theorem gX10_readsWish_X10_isNext : GoodIn wsX10_readsWish (wsV RX10 137 RX10 yX10_isNext wsX10_isNext) := goodIn_app (goodIn_of _ (by decide +kernel)) ggX10_readsWish_X10_isNext
theorem dX10_readsWish_0 : decode cX10_readsWish 0 = .ok (.aload_n 0, 1) := by decide +kernel
theorem dX10_readsWish_1 : decode cX10_readsWish 1 = .ok (.aload_n 0, 1) := by decide +kernel
theorem dX10_readsWish_2 : decode cX10_readsWish 2 = .ok (.bipush 11, 2) := by decide +kernel
theorem dX10_readsWish_4 : decode cX10_readsWish 4 = .ok (.invokevirtual 169, 3) := by decide +kernel
theorem dX10_readsWish_7 : decode cX10_readsWish 7 = .ok (.putfield 140, 3) := by decide +kernel
theorem dX10_readsWish_10 : decode cX10_readsWish 10 = .ok (.aload_n 0, 1) := by decide +kernel
theorem dX10_readsWish_11 : decode cX10_readsWish 11 = .ok (.aload_n 0, 1) := by decide +kernel
theorem dX10_readsWish_12 : decode cX10_readsWish 12 = .ok (.getfield 140, 3) := by decide +kernel
theorem dX10_readsWish_15 : decode cX10_readsWish 15 = .ok (.ifCond .lt 21, 3) := by decide +kernel
theorem dX10_readsWish_18 : decode cX10_readsWish 18 = .ok (.aload_n 0, 1) := by decide +kernel
theorem dX10_readsWish_19 : decode cX10_readsWish 19 = .ok (.bipush 43, 2) := by decide +kernel
theorem dX10_readsWish_21 : decode cX10_readsWish 21 = .ok (.invokevirtual 137, 3) := by decide +kernel
theorem dX10_readsWish_24 : decode cX10_readsWish 24 = .ok (.ifCond .eq 12, 3) := by decide +kernel
theorem dX10_readsWish_27 : decode cX10_readsWish 27 = .ok (.aload_n 0, 1) := by decide +kernel
theorem dX10_readsWish_28 : decode cX10_readsWish 28 = .ok (.bipush 11, 2) := by decide +kernel
theorem dX10_readsWish_30 : decode cX10_readsWish 30 = .ok (.invokevirtual 169, 3) := by decide +kernel
theorem dX10_readsWish_33 : decode cX10_readsWish 33 = .ok (.goto 5, 3) := by decide +kernel
theorem dX10_readsWish_36 : decode cX10_readsWish 36 = .ok (.bipush (-6), 2) := by decide +kernel
theorem dX10_readsWish_38 : decode cX10_readsWish 38 = .ok (.putfield 143, 3) := by decide +kernel
theorem dX10_readsWish_41 : decode cX10_readsWish 41 = .ok (.aload_n 0, 1) := by decide +kernel
theorem dX10_readsWish_42 : decode cX10_readsWish 42 = .ok (.getfield 140, 3) := by decide +kernel
theorem dX10_readsWish_45 : decode cX10_readsWish 45 = .ok (.ifCond .lt 11, 3) := by decide +kernel
theorem dX10_readsWish_48 : decode cX10_readsWish 48 = .ok (.aload_n 0, 1) := by decide +kernel
theorem dX10_readsWish_49 : decode cX10_readsWish 49 = .ok (.getfield 143, 3) := by decide +kernel
theorem dX10_readsWish_52 : decode cX10_readsWish 52 = .ok (.iconst (-1), 1) := by decide +kernel
theorem dX10_readsWish_53 : decode cX10_readsWish 53 = .ok (.if_icmp .ne 5, 3) := by decide +kernel
theorem dX10_readsWish_56 : decode cX10_readsWish 56 = .ok (.iconst 0, 1) := by decide +kernel
theorem dX10_readsWish_57 : decode cX10_readsWish 57 = .ok (.ireturn, 1) := by decide +kernel
theorem dX10_readsWish_58 : decode cX10_readsWish 58 = .ok (.aload_n 0, 1) := by decide +kernel
theorem dX10_readsWish_59 : decode cX10_readsWish 59 = .ok (.aload_n 0, 1) := by decide +kernel
theorem dX10_readsWish_60 : decode cX10_readsWish 60 = .ok (.bipush 58, 2) := by decide +kernel
theorem dX10_readsWish_62 : decode cX10_readsWish 62 = .ok (.invokevirtual 137, 3) := by decide +kernel
theorem dX10_readsWish_65 : decode cX10_readsWish 65 = .ok (.ifCond .eq 12, 3) := by decide +kernel
theorem dX10_readsWish_68 : decode cX10_readsWish 68 = .ok (.aload_n 0, 1) := by decide +kernel
theorem dX10_readsWish_69 : decode cX10_readsWish 69 = .ok (.bipush 15, 2) := by decide +kernel
theorem dX10_readsWish_71 : decode cX10_readsWish 71 = .ok (.invokevirtual 169, 3) := by decide +kernel
theorem dX10_readsWish_74 : decode cX10_readsWish 74 = .ok (.goto 4, 3) := by decide +kernel
theorem dX10_readsWish_77 : decode cX10_readsWish 77 = .ok (.iconst (-1), 1) := by decide +kernel
theorem dX10_readsWish_78 : decode cX10_readsWish 78 = .ok (.putfield 146, 3) := by decide +kernel
theorem dX10_readsWish_81 : decode cX10_readsWish 81 = .ok (.aload_n 0, 1) := by decide +kernel
theorem dX10_readsWish_82 : decode cX10_readsWish 82 = .ok (.getfield 146, 3) := by decide +kernel
theorem dX10_readsWish_85 : decode cX10_readsWish 85 = .ok (.ifCond .lt 7, 3) := by decide +kernel
theorem dX10_readsWish_88 : decode cX10_readsWish 88 = .ok (.iconst 1, 1) := by decide +kernel
theorem dX10_readsWish_89 : decode cX10_readsWish 89 = .ok (.goto 4, 3) := by decide +kernel
theorem dX10_readsWish_92 : decode cX10_readsWish 92 = .ok (.iconst 0, 1) := by decide +kernel
theorem dX10_readsWish_93 : decode cX10_readsWish 93 = .ok (.ireturn, 1) := by decide +kernel
set_option maxRecDepth 20000 in
theorem ggX10_findFault_X10_readsWish : GoodIn wsX10_findFault wsX10_readsWish := goodIn_r _ [7, 8, 9, 10, 11, 12, 13, 6, 14, 1, 15, 16, 17, 18, 2, 19, 20, 21, 22, 23, 24, 25, 26, 27, 28, 29, 30, 31, 32, 33, 34, 35, 36, 37, 38] (by decide +kernel) (by decide +kernel)
set_option maxRecDepth 20000 in
theorem gX10_findFault_X10_readsWish : GoodIn wsX10_findFault (wsV RX10 133 RX10 yX10_readsWish wsX10_readsWish) := goodIn_app (goodIn_of _ (by decide +kernel)) ggX10_findFault_X10_readsWish
set_option maxRecDepth 20000 in
theorem ggX10_findFault_X10_isNext : GoodIn wsX10_findFault wsX10_isNext := goodIn_r _ [26, 1, 15, 16, 17, 6, 18, 2, 19, 27, 28, 29, 30, 31, 32, 33, 34, 35, 36, 37, 38] (by decide +kernel) (by decide +kernel)
set_option maxRecDepth 20000 in
theorem gX10_findFault_X10_isNext : GoodIn wsX10_findFault (wsV RX10 137 RX10 yX10_isNext wsX10_isNext) := goodIn_app (goodIn_of _ (by decide +kernel)) ggX10_findFault_X10_isNext
theorem dX10_findFault_0 : decode cX10_findFault 0 = .ok (.aload_n 0, 1) := by decide +kernel
theorem dX10_findFault_1 : decode cX10_findFault 1 = .ok (.iconst 0, 1) := by decide +kernel
theorem dX10_findFault_2 : decode cX10_findFault 2 = .ok (.putfield 130, 3) := by decide +kernel
theorem dX10_findFault_5 : decode cX10_findFault 5 = .ok (.aload_n 0, 1) := by decide +kernel
theorem dX10_findFault_6 : decode cX10_findFault 6 = .ok (.invokevirtual 133, 3) := by decide +kernel
theorem dX10_findFault_9 : decode cX10_findFault 9 = .ok (.ifCond .ne 8, 3) := by decide +kernel
theorem dX10_findFault_12 : decode cX10_findFault 12 = .ok (.aload_n 0, 1) := by decide +kernel
theorem dX10_findFault_13 : decode cX10_findFault 13 = .ok (.getfield 130, 3) := by decide +kernel
theorem dX10_findFault_16 : decode cX10_findFault 16 = .ok (.ireturn, 1) := by decide +kernel
theorem dX10_findFault_17 : decode cX10_findFault 17 = .ok (.aload_n 0, 1) := by decide +kernel
theorem dX10_findFault_18 : decode cX10_findFault 18 = .ok (.getfield 130, 3) := by decide +kernel
theorem dX10_findFault_21 : decode cX10_findFault 21 = .ok (.aload_n 0, 1) := by decide +kernel
theorem dX10_findFault_22 : decode cX10_findFault 22 = .ok (.getfield 127, 3) := by decide +kernel
theorem dX10_findFault_25 : decode cX10_findFault 25 = .ok (.if_icmp .ne 6, 3) := by decide +kernel
theorem dX10_findFault_28 : decode cX10_findFault 28 = .ok (.bipush (-6), 2) := by decide +kernel
theorem dX10_findFault_30 : decode cX10_findFault 30 = .ok (.ireturn, 1) := by decide +kernel
theorem dX10_findFault_31 : decode cX10_findFault 31 = .ok (.aload_n 0, 1) := by decide +kernel
theorem dX10_findFault_32 : decode cX10_findFault 32 = .ok (.bipush 59, 2) := by decide +kernel
theorem dX10_findFault_34 : decode cX10_findFault 34 = .ok (.invokevirtual 137, 3) := by decide +kernel
theorem dX10_findFault_37 : decode cX10_findFault 37 = .ok (.ifCond .ne (-32), 3) := by decide +kernel
theorem dX10_findFault_40 : decode cX10_findFault 40 = .ok (.aload_n 0, 1) := by decide +kernel
theorem dX10_findFault_41 : decode cX10_findFault 41 = .ok (.getfield 130, 3) := by decide +kernel
theorem dX10_findFault_44 : decode cX10_findFault 44 = .ok (.ireturn, 1) := by decide +kernel
set_option maxRecDepth 20000 in
theorem ggX10_fault_X10_findFault : GoodIn wsX10_fault wsX10_findFault := goodIn_r _ [5, 6, 7, 8, 9, 10, 4, 11, 12, 13, 14, 15, 16, 17, 18, 19, 20, 21, 22, 23, 24, 25, 26, 27, 28, 29, 30, 31, 32, 33, 34, 35, 36, 37, 38, 39, 40, 41, 42] (by decide +kernel) (by decide +kernel)
set_option maxRecDepth 20000 in
theorem gX10_fault_X10_findFault : GoodIn wsX10_fault (wsV RX10 121 RX10 yX10_findFault wsX10_findFault) := goodIn_app (goodIn_of _ (by decide +kernel)) ggX10_fault_X10_findFault
theorem dX10_fault_0 : decode cX10_fault 0 = .ok (.aload_n 0, 1) := by decide +kernel
theorem dX10_fault_1 : decode cX10_fault 1 = .ok (.invokevirtual 121, 3) := by decide +kernel
theorem dX10_fault_4 : decode cX10_fault 4 = .ok (.ireturn, 1) := by decide +kernel
set_option maxRecDepth 20000 in
theorem ggX10_undo_X10_moves : GoodIn wsX10_undo wsX10_moves := goodIn_r _ [7] (by decide +kernel) (by decide +kernel)
set_option maxRecDepth 20000 in
theorem gX10_undo_X10_moves : GoodIn wsX10_undo (va_wsS RX10 32 yX10_moves wsX10_moves) := goodIn_app (goodIn_of _ (by decide +kernel)) ggX10_undo_X10_moves
theorem dX10_undo_0 : decode cX10_undo 0 = .ok (.aload_n 0, 1) := by decide +kernel
theorem dX10_undo_1 : decode cX10_undo 1 = .ok (.getfield 28, 3) := by decide +kernel
theorem dX10_undo_4 : decode cX10_undo 4 = .ok (.ifCond .ne 6, 3) := by decide +kernel
theorem dX10_undo_7 : decode cX10_undo 7 = .ok (.bipush (-5), 2) := by decide +kernel
theorem dX10_undo_9 : decode cX10_undo 9 = .ok (.ireturn, 1) := by decide +kernel
theorem dX10_undo_10 : decode cX10_undo 10 = .ok (.aload_n 0, 1) := by decide +kernel
theorem dX10_undo_11 : decode cX10_undo 11 = .ok (.dup, 1) := by decide +kernel
theorem dX10_undo_12 : decode cX10_undo 12 = .ok (.getfield 28, 3) := by decide +kernel
theorem dX10_undo_15 : decode cX10_undo 15 = .ok (.iconst 1, 1) := by decide +kernel
theorem dX10_undo_16 : decode cX10_undo 16 = .ok (.isub, 1) := by decide +kernel
theorem dX10_undo_17 : decode cX10_undo 17 = .ok (.putfield 28, 3) := by decide +kernel
theorem dX10_undo_20 : decode cX10_undo 20 = .ok (.aload_n 0, 1) := by decide +kernel
theorem dX10_undo_21 : decode cX10_undo 21 = .ok (.getfield 16, 3) := by decide +kernel
theorem dX10_undo_24 : decode cX10_undo 24 = .ok (.aload_n 0, 1) := by decide +kernel
theorem dX10_undo_25 : decode cX10_undo 25 = .ok (.getfield 28, 3) := by decide +kernel
theorem dX10_undo_28 : decode cX10_undo 28 = .ok (.sipush 239, 3) := by decide +kernel
theorem dX10_undo_31 : decode cX10_undo 31 = .ok (.imul, 1) := by decide +kernel
theorem dX10_undo_32 : decode cX10_undo 32 = .ok (.aload_n 0, 1) := by decide +kernel
theorem dX10_undo_33 : decode cX10_undo 33 = .ok (.getfield 7, 3) := by decide +kernel
theorem dX10_undo_36 : decode cX10_undo 36 = .ok (.iconst 0, 1) := by decide +kernel
theorem dX10_undo_37 : decode cX10_undo 37 = .ok (.invokestatic 32, 3) := by decide +kernel
theorem dX10_undo_40 : decode cX10_undo 40 = .ok (.aload_n 0, 1) := by decide +kernel
theorem dX10_undo_41 : decode cX10_undo 41 = .ok (.getfield 28, 3) := by decide +kernel
theorem dX10_undo_44 : decode cX10_undo 44 = .ok (.ireturn, 1) := by decide +kernel
set_option maxRecDepth 20000 in
theorem ggX10_save_X10_within : GoodIn wsX10_save wsX10_within := goodIn_r _ [7] (by decide +kernel) (by decide +kernel)
set_option maxRecDepth 20000 in
theorem gX10_save_X10_within : GoodIn wsX10_save (va_wsS RX10 36 yX10_within wsX10_within) := goodIn_app (goodIn_of _ (by decide +kernel)) ggX10_save_X10_within
set_option maxRecDepth 20000 in
theorem ggX10_save_X10_moves : GoodIn wsX10_save wsX10_moves := goodIn_r _ [10] (by decide +kernel) (by decide +kernel)
set_option maxRecDepth 20000 in
theorem gX10_save_X10_moves : GoodIn wsX10_save (va_wsS RX10 32 yX10_moves wsX10_moves) := goodIn_app (goodIn_of _ (by decide +kernel)) ggX10_save_X10_moves
theorem dX10_save_0 : decode cX10_save 0 = .ok (.iload_n 1, 1) := by decide +kernel
theorem dX10_save_1 : decode cX10_save 1 = .ok (.iconst 0, 1) := by decide +kernel
theorem dX10_save_2 : decode cX10_save 2 = .ok (.iconst 1, 1) := by decide +kernel
theorem dX10_save_3 : decode cX10_save 3 = .ok (.invokestatic 36, 3) := by decide +kernel
theorem dX10_save_6 : decode cX10_save 6 = .ok (.ifCond .ne 6, 3) := by decide +kernel
theorem dX10_save_9 : decode cX10_save 9 = .ok (.bipush (-2), 2) := by decide +kernel
theorem dX10_save_11 : decode cX10_save 11 = .ok (.ireturn, 1) := by decide +kernel
theorem dX10_save_12 : decode cX10_save 12 = .ok (.aload_n 0, 1) := by decide +kernel
theorem dX10_save_13 : decode cX10_save 13 = .ok (.getfield 7, 3) := by decide +kernel
theorem dX10_save_16 : decode cX10_save 16 = .ok (.iconst 0, 1) := by decide +kernel
theorem dX10_save_17 : decode cX10_save 17 = .ok (.aload_n 0, 1) := by decide +kernel
theorem dX10_save_18 : decode cX10_save 18 = .ok (.getfield 19, 3) := by decide +kernel
theorem dX10_save_21 : decode cX10_save 21 = .ok (.sipush 239, 3) := by decide +kernel
theorem dX10_save_24 : decode cX10_save 24 = .ok (.iload_n 1, 1) := by decide +kernel
theorem dX10_save_25 : decode cX10_save 25 = .ok (.imul, 1) := by decide +kernel
theorem dX10_save_26 : decode cX10_save 26 = .ok (.invokestatic 32, 3) := by decide +kernel
theorem dX10_save_29 : decode cX10_save 29 = .ok (.aload_n 0, 1) := by decide +kernel
theorem dX10_save_30 : decode cX10_save 30 = .ok (.getfield 22, 3) := by decide +kernel
theorem dX10_save_33 : decode cX10_save 33 = .ok (.iload_n 1, 1) := by decide +kernel
theorem dX10_save_34 : decode cX10_save 34 = .ok (.iconst 1, 1) := by decide +kernel
theorem dX10_save_35 : decode cX10_save 35 = .ok (.iastore, 1) := by decide +kernel
theorem dX10_save_36 : decode cX10_save 36 = .ok (.aload_n 0, 1) := by decide +kernel
theorem dX10_save_37 : decode cX10_save 37 = .ok (.getfield 7, 3) := by decide +kernel
theorem dX10_save_40 : decode cX10_save 40 = .ok (.iconst 2, 1) := by decide +kernel
theorem dX10_save_41 : decode cX10_save 41 = .ok (.iaload, 1) := by decide +kernel
theorem dX10_save_42 : decode cX10_save 42 = .ok (.ireturn, 1) := by decide +kernel
set_option maxRecDepth 20000 in
theorem ggX10_restore_X10_within : GoodIn wsX10_restore wsX10_within := goodIn_r _ [7] (by decide +kernel) (by decide +kernel)
set_option maxRecDepth 20000 in
theorem gX10_restore_X10_within : GoodIn wsX10_restore (va_wsS RX10 36 yX10_within wsX10_within) := goodIn_app (goodIn_of _ (by decide +kernel)) ggX10_restore_X10_within
set_option maxRecDepth 20000 in
theorem ggX10_restore_X10_record : GoodIn wsX10_restore wsX10_record := goodIn_r _ [11, 12, 13, 3, 14, 15, 6, 16, 17, 18, 19, 20, 21, 22, 23, 24, 25, 26, 27, 28] (by decide +kernel) (by decide +kernel)
set_option maxRecDepth 20000 in
theorem gX10_restore_X10_record : GoodIn wsX10_restore (wsV RX10 86 RX10 yX10_record wsX10_record) := goodIn_app (goodIn_of _ (by decide +kernel)) ggX10_restore_X10_record
set_option maxRecDepth 20000 in
theorem ggX10_restore_X10_moves : GoodIn wsX10_restore wsX10_moves := goodIn_r _ [16] (by decide +kernel) (by decide +kernel)
set_option maxRecDepth 20000 in
theorem gX10_restore_X10_moves : GoodIn wsX10_restore (va_wsS RX10 32 yX10_moves wsX10_moves) := goodIn_app (goodIn_of _ (by decide +kernel)) ggX10_restore_X10_moves
theorem dX10_restore_0 : decode cX10_restore 0 = .ok (.iload_n 1, 1) := by decide +kernel
theorem dX10_restore_1 : decode cX10_restore 1 = .ok (.iconst 0, 1) := by decide +kernel
theorem dX10_restore_2 : decode cX10_restore 2 = .ok (.iconst 1, 1) := by decide +kernel
theorem dX10_restore_3 : decode cX10_restore 3 = .ok (.invokestatic 36, 3) := by decide +kernel
theorem dX10_restore_6 : decode cX10_restore 6 = .ok (.ifCond .ne 6, 3) := by decide +kernel
theorem dX10_restore_9 : decode cX10_restore 9 = .ok (.bipush (-2), 2) := by decide +kernel
theorem dX10_restore_11 : decode cX10_restore 11 = .ok (.ireturn, 1) := by decide +kernel
theorem dX10_restore_12 : decode cX10_restore 12 = .ok (.aload_n 0, 1) := by decide +kernel
theorem dX10_restore_13 : decode cX10_restore 13 = .ok (.getfield 22, 3) := by decide +kernel
theorem dX10_restore_16 : decode cX10_restore 16 = .ok (.iload_n 1, 1) := by decide +kernel
theorem dX10_restore_17 : decode cX10_restore 17 = .ok (.iaload, 1) := by decide +kernel
theorem dX10_restore_18 : decode cX10_restore 18 = .ok (.ifCond .ne 6, 3) := by decide +kernel
theorem dX10_restore_21 : decode cX10_restore 21 = .ok (.bipush (-5), 2) := by decide +kernel
theorem dX10_restore_23 : decode cX10_restore 23 = .ok (.ireturn, 1) := by decide +kernel
theorem dX10_restore_24 : decode cX10_restore 24 = .ok (.aload_n 0, 1) := by decide +kernel
theorem dX10_restore_25 : decode cX10_restore 25 = .ok (.invokevirtual 86, 3) := by decide +kernel
theorem dX10_restore_28 : decode cX10_restore 28 = .ok (.aload_n 0, 1) := by decide +kernel
theorem dX10_restore_29 : decode cX10_restore 29 = .ok (.getfield 19, 3) := by decide +kernel
theorem dX10_restore_32 : decode cX10_restore 32 = .ok (.sipush 239, 3) := by decide +kernel
theorem dX10_restore_35 : decode cX10_restore 35 = .ok (.iload_n 1, 1) := by decide +kernel
theorem dX10_restore_36 : decode cX10_restore 36 = .ok (.imul, 1) := by decide +kernel
theorem dX10_restore_37 : decode cX10_restore 37 = .ok (.aload_n 0, 1) := by decide +kernel
theorem dX10_restore_38 : decode cX10_restore 38 = .ok (.getfield 7, 3) := by decide +kernel
theorem dX10_restore_41 : decode cX10_restore 41 = .ok (.iconst 0, 1) := by decide +kernel
theorem dX10_restore_42 : decode cX10_restore 42 = .ok (.invokestatic 32, 3) := by decide +kernel
theorem dX10_restore_45 : decode cX10_restore 45 = .ok (.aload_n 0, 1) := by decide +kernel
theorem dX10_restore_46 : decode cX10_restore 46 = .ok (.getfield 7, 3) := by decide +kernel
theorem dX10_restore_49 : decode cX10_restore 49 = .ok (.iconst 2, 1) := by decide +kernel
theorem dX10_restore_50 : decode cX10_restore 50 = .ok (.iaload, 1) := by decide +kernel
theorem dX10_restore_51 : decode cX10_restore 51 = .ok (.ireturn, 1) := by decide +kernel
theorem dJ6_bitCount_0f7a4_0 : decode cJ6_bitCount_0f7a4 0 = .ok (.iload_n 0, 1) := by decide +kernel
theorem dJ6_bitCount_0f7a4_1 : decode cJ6_bitCount_0f7a4 1 = .ok (.iload_n 0, 1) := by decide +kernel
theorem dJ6_bitCount_0f7a4_2 : decode cJ6_bitCount_0f7a4 2 = .ok (.iconst 1, 1) := by decide +kernel
theorem dJ6_bitCount_0f7a4_3 : decode cJ6_bitCount_0f7a4 3 = .ok (.iushr, 1) := by decide +kernel
theorem dJ6_bitCount_0f7a4_4 : decode cJ6_bitCount_0f7a4 4 = .ok (.ldc_w 265, 3) := by decide +kernel
theorem dJ6_bitCount_0f7a4_7 : decode cJ6_bitCount_0f7a4 7 = .ok (.iand, 1) := by decide +kernel
theorem dJ6_bitCount_0f7a4_8 : decode cJ6_bitCount_0f7a4 8 = .ok (.isub, 1) := by decide +kernel
theorem dJ6_bitCount_0f7a4_9 : decode cJ6_bitCount_0f7a4 9 = .ok (.istore_n 0, 1) := by decide +kernel
theorem dJ6_bitCount_0f7a4_10 : decode cJ6_bitCount_0f7a4 10 = .ok (.iload_n 0, 1) := by decide +kernel
theorem dJ6_bitCount_0f7a4_11 : decode cJ6_bitCount_0f7a4 11 = .ok (.ldc_w 266, 3) := by decide +kernel
theorem dJ6_bitCount_0f7a4_14 : decode cJ6_bitCount_0f7a4 14 = .ok (.iand, 1) := by decide +kernel
theorem dJ6_bitCount_0f7a4_15 : decode cJ6_bitCount_0f7a4 15 = .ok (.iload_n 0, 1) := by decide +kernel
theorem dJ6_bitCount_0f7a4_16 : decode cJ6_bitCount_0f7a4 16 = .ok (.iconst 2, 1) := by decide +kernel
theorem dJ6_bitCount_0f7a4_17 : decode cJ6_bitCount_0f7a4 17 = .ok (.iushr, 1) := by decide +kernel
theorem dJ6_bitCount_0f7a4_18 : decode cJ6_bitCount_0f7a4 18 = .ok (.ldc_w 266, 3) := by decide +kernel
theorem dJ6_bitCount_0f7a4_21 : decode cJ6_bitCount_0f7a4 21 = .ok (.iand, 1) := by decide +kernel
theorem dJ6_bitCount_0f7a4_22 : decode cJ6_bitCount_0f7a4 22 = .ok (.iadd, 1) := by decide +kernel
theorem dJ6_bitCount_0f7a4_23 : decode cJ6_bitCount_0f7a4 23 = .ok (.istore_n 0, 1) := by decide +kernel
theorem dJ6_bitCount_0f7a4_24 : decode cJ6_bitCount_0f7a4 24 = .ok (.iload_n 0, 1) := by decide +kernel
theorem dJ6_bitCount_0f7a4_25 : decode cJ6_bitCount_0f7a4 25 = .ok (.iload_n 0, 1) := by decide +kernel
theorem dJ6_bitCount_0f7a4_26 : decode cJ6_bitCount_0f7a4 26 = .ok (.iconst 4, 1) := by decide +kernel
theorem dJ6_bitCount_0f7a4_27 : decode cJ6_bitCount_0f7a4 27 = .ok (.iushr, 1) := by decide +kernel
theorem dJ6_bitCount_0f7a4_28 : decode cJ6_bitCount_0f7a4 28 = .ok (.iadd, 1) := by decide +kernel
theorem dJ6_bitCount_0f7a4_29 : decode cJ6_bitCount_0f7a4 29 = .ok (.ldc_w 267, 3) := by decide +kernel
theorem dJ6_bitCount_0f7a4_32 : decode cJ6_bitCount_0f7a4 32 = .ok (.iand, 1) := by decide +kernel
theorem dJ6_bitCount_0f7a4_33 : decode cJ6_bitCount_0f7a4 33 = .ok (.istore_n 0, 1) := by decide +kernel
theorem dJ6_bitCount_0f7a4_34 : decode cJ6_bitCount_0f7a4 34 = .ok (.iload_n 0, 1) := by decide +kernel
theorem dJ6_bitCount_0f7a4_35 : decode cJ6_bitCount_0f7a4 35 = .ok (.iload_n 0, 1) := by decide +kernel
theorem dJ6_bitCount_0f7a4_36 : decode cJ6_bitCount_0f7a4 36 = .ok (.bipush 8, 2) := by decide +kernel
theorem dJ6_bitCount_0f7a4_38 : decode cJ6_bitCount_0f7a4 38 = .ok (.iushr, 1) := by decide +kernel
theorem dJ6_bitCount_0f7a4_39 : decode cJ6_bitCount_0f7a4 39 = .ok (.iadd, 1) := by decide +kernel
theorem dJ6_bitCount_0f7a4_40 : decode cJ6_bitCount_0f7a4 40 = .ok (.istore_n 0, 1) := by decide +kernel
theorem dJ6_bitCount_0f7a4_41 : decode cJ6_bitCount_0f7a4 41 = .ok (.iload_n 0, 1) := by decide +kernel
theorem dJ6_bitCount_0f7a4_42 : decode cJ6_bitCount_0f7a4 42 = .ok (.iload_n 0, 1) := by decide +kernel
theorem dJ6_bitCount_0f7a4_43 : decode cJ6_bitCount_0f7a4 43 = .ok (.bipush 16, 2) := by decide +kernel
theorem dJ6_bitCount_0f7a4_45 : decode cJ6_bitCount_0f7a4 45 = .ok (.iushr, 1) := by decide +kernel
theorem dJ6_bitCount_0f7a4_46 : decode cJ6_bitCount_0f7a4 46 = .ok (.iadd, 1) := by decide +kernel
theorem dJ6_bitCount_0f7a4_47 : decode cJ6_bitCount_0f7a4 47 = .ok (.istore_n 0, 1) := by decide +kernel
theorem dJ6_bitCount_0f7a4_48 : decode cJ6_bitCount_0f7a4 48 = .ok (.iload_n 0, 1) := by decide +kernel
theorem dJ6_bitCount_0f7a4_49 : decode cJ6_bitCount_0f7a4 49 = .ok (.bipush 63, 2) := by decide +kernel
theorem dJ6_bitCount_0f7a4_51 : decode cJ6_bitCount_0f7a4 51 = .ok (.iand, 1) := by decide +kernel
theorem dJ6_bitCount_0f7a4_52 : decode cJ6_bitCount_0f7a4 52 = .ok (.ireturn, 1) := by decide +kernel
theorem dJ9_max_7cf53_0 : decode cJ9_max_7cf53 0 = .ok (.iload_n 0, 1) := by decide +kernel
theorem dJ9_max_7cf53_1 : decode cJ9_max_7cf53 1 = .ok (.iload_n 1, 1) := by decide +kernel
theorem dJ9_max_7cf53_2 : decode cJ9_max_7cf53 2 = .ok (.if_icmp .lt 7, 3) := by decide +kernel
theorem dJ9_max_7cf53_5 : decode cJ9_max_7cf53 5 = .ok (.iload_n 0, 1) := by decide +kernel
theorem dJ9_max_7cf53_6 : decode cJ9_max_7cf53 6 = .ok (.goto 4, 3) := by decide +kernel
theorem dJ9_max_7cf53_9 : decode cJ9_max_7cf53 9 = .ok (.iload_n 1, 1) := by decide +kernel
theorem dJ9_max_7cf53_10 : decode cJ9_max_7cf53 10 = .ok (.ireturn, 1) := by decide +kernel
theorem dJ9_min_7cf53_0 : decode cJ9_min_7cf53 0 = .ok (.iload_n 0, 1) := by decide +kernel
theorem dJ9_min_7cf53_1 : decode cJ9_min_7cf53 1 = .ok (.iload_n 1, 1) := by decide +kernel
theorem dJ9_min_7cf53_2 : decode cJ9_min_7cf53 2 = .ok (.if_icmp .gt 7, 3) := by decide +kernel
theorem dJ9_min_7cf53_5 : decode cJ9_min_7cf53 5 = .ok (.iload_n 0, 1) := by decide +kernel
theorem dJ9_min_7cf53_6 : decode cJ9_min_7cf53 6 = .ok (.goto 4, 3) := by decide +kernel
theorem dJ9_min_7cf53_9 : decode cJ9_min_7cf53 9 = .ok (.iload_n 1, 1) := by decide +kernel
theorem dJ9_min_7cf53_10 : decode cJ9_min_7cf53 10 = .ok (.ireturn, 1) := by decide +kernel
