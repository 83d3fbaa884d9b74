set_option maxRecDepth 20000 in
theorem ggX9_init_X0_init : GoodIn wsX9_init wsX0_init := goodIn_r _ [28, 29, 2, 3, 30, 31, 32, 33, 34, 35, 36, 37, 38, 39, 40, 41, 42, 43, 44, 45, 46, 47, 48, 49, 50, 51, 52, 53, 54, 55, 56, 57, 58, 59, 60, 61, 62, 63, 64, 65, 66, 67, 68, 69, 70, 71, 72, 73, 121, 122, 123, 124, 125, 126, 127, 95, 96, 97, 98, 99, 100, 128, 129, 130, 131, 132, 133, 134, 135, 136, 137, 138, 139, 140, 141] (by decide +kernel) (by decide +kernel)
set_option maxRecDepth 20000 in
theorem gX9_init_X0_init_n11 : GoodIn wsX9_init (wsX0_init) := ggX9_init_X0_init
set_option maxRecDepth 20000 in
theorem ggX9_init_X1_init : GoodIn wsX9_init wsX1_init := goodIn_r _ [76, 77, 2, 3, 78, 79, 5, 6, 27, 28, 29, 30, 31, 32, 33, 34, 35, 36, 37, 38, 39, 40, 41, 42, 43, 44, 45, 46, 47, 48, 49, 50, 51, 52, 53, 54, 55, 56, 57, 58, 59, 60, 61, 62, 63, 64, 65, 66, 67, 68, 69, 70, 71, 72, 73, 108, 109, 110, 95, 96, 97, 98, 99, 100, 121, 122, 123, 124, 125, 126, 127, 128, 129, 130, 131, 132, 133, 134, 135, 136, 137, 138, 139, 140, 141] (by decide +kernel) (by decide +kernel)
set_option maxRecDepth 20000 in
theorem gX9_init_X1_init : GoodIn wsX9_init (wsX1_init) := ggX9_init_X1_init
set_option maxRecDepth 20000 in
theorem ggX9_init_X2_init : GoodIn wsX9_init wsX2_init := goodIn_r _ [81, 82, 2, 3, 83, 84, 111, 112] (by decide +kernel) (by decide +kernel)
set_option maxRecDepth 20000 in
theorem gX9_init_X2_init_n33 : GoodIn wsX9_init (wsX2_init) := ggX9_init_X2_init
set_option maxRecDepth 20000 in
theorem ggX9_init_X3_init : GoodIn wsX9_init wsX3_init := goodIn_r _ [86, 87, 2, 3, 49, 88, 89, 90, 113, 114, 115, 116, 117] (by decide +kernel) (by decide +kernel)
set_option maxRecDepth 20000 in
theorem gX9_init_X3_init_n40 : GoodIn wsX9_init (wsX3_init) := ggX9_init_X3_init
set_option maxRecDepth 20000 in
theorem ggX9_init_X5_init : GoodIn wsX9_init wsX5_init := goodIn_r _ [92, 93, 2, 3, 49, 94, 118, 119, 120] (by decide +kernel) (by decide +kernel)
set_option maxRecDepth 20000 in
theorem gX9_init_X5_init_n47 : GoodIn wsX9_init (wsX5_init) := ggX9_init_X5_init
theorem dX9_init_0 : decode cX9_init 0 = .ok (.aload_n 0, 1) := by decide +kernel
theorem dX9_init_1 : decode cX9_init 1 = .ok (.invokespecial 3, 3) := by decide +kernel
theorem dX9_init_4 : decode cX9_init 4 = .ok (.aload_n 0, 1) := by decide +kernel
theorem dX9_init_5 : decode cX9_init 5 = .ok (.new 9, 3) := by decide +kernel
theorem dX9_init_8 : decode cX9_init 8 = .ok (.dup, 1) := by decide +kernel
theorem dX9_init_9 : decode cX9_init 9 = .ok (.invokespecial 11, 3) := by decide +kernel
theorem dX9_init_12 : decode cX9_init 12 = .ok (.putfield 12, 3) := by decide +kernel
theorem dX9_init_15 : decode cX9_init 15 = .ok (.aload_n 0, 1) := by decide +kernel
theorem dX9_init_16 : decode cX9_init 16 = .ok (.new 16, 3) := by decide +kernel
theorem dX9_init_19 : decode cX9_init 19 = .ok (.dup, 1) := by decide +kernel
theorem dX9_init_20 : decode cX9_init 20 = .ok (.invokespecial 18, 3) := by decide +kernel
theorem dX9_init_23 : decode cX9_init 23 = .ok (.putfield 19, 3) := by decide +kernel
theorem dX9_init_26 : decode cX9_init 26 = .ok (.aload_n 0, 1) := by decide +kernel
theorem dX9_init_27 : decode cX9_init 27 = .ok (.iconst 2, 1) := by decide +kernel
theorem dX9_init_28 : decode cX9_init 28 = .ok (.anewarray 9, 3) := by decide +kernel
theorem dX9_init_31 : decode cX9_init 31 = .ok (.putfield 23, 3) := by decide +kernel
theorem dX9_init_34 : decode cX9_init 34 = .ok (.iconst 0, 1) := by decide +kernel
theorem dX9_init_35 : decode cX9_init 35 = .ok (.istore_n 1, 1) := by decide +kernel
theorem dX9_init_36 : decode cX9_init 36 = .ok (.iload_n 1, 1) := by decide +kernel
theorem dX9_init_37 : decode cX9_init 37 = .ok (.iconst 2, 1) := by decide +kernel
theorem dX9_init_38 : decode cX9_init 38 = .ok (.if_icmp .ge 22, 3) := by decide +kernel
theorem dX9_init_41 : decode cX9_init 41 = .ok (.aload_n 0, 1) := by decide +kernel
theorem dX9_init_42 : decode cX9_init 42 = .ok (.getfield 23, 3) := by decide +kernel
theorem dX9_init_45 : decode cX9_init 45 = .ok (.iload_n 1, 1) := by decide +kernel
theorem dX9_init_46 : decode cX9_init 46 = .ok (.new 9, 3) := by decide +kernel
theorem dX9_init_49 : decode cX9_init 49 = .ok (.dup, 1) := by decide +kernel
theorem dX9_init_50 : decode cX9_init 50 = .ok (.invokespecial 11, 3) := by decide +kernel
theorem dX9_init_53 : decode cX9_init 53 = .ok (.aastore, 1) := by decide +kernel
theorem dX9_init_54 : decode cX9_init 54 = .ok (.iinc 1 1, 3) := by decide +kernel
theorem dX9_init_57 : decode cX9_init 57 = .ok (.goto (-21), 3) := by decide +kernel
theorem dX9_init_60 : decode cX9_init 60 = .ok (.aload_n 0, 1) := by decide +kernel
theorem dX9_init_61 : decode cX9_init 61 = .ok (.iconst 2, 1) := by decide +kernel
theorem dX9_init_62 : decode cX9_init 62 = .ok (.newarray .boolean, 2) := by decide +kernel
theorem dX9_init_64 : decode cX9_init 64 = .ok (.putfield 27, 3) := by decide +kernel
theorem dX9_init_67 : decode cX9_init 67 = .ok (.aload_n 0, 1) := by decide +kernel
theorem dX9_init_68 : decode cX9_init 68 = .ok (.new 31, 3) := by decide +kernel
theorem dX9_init_71 : decode cX9_init 71 = .ok (.dup, 1) := by decide +kernel
theorem dX9_init_72 : decode cX9_init 72 = .ok (.invokespecial 33, 3) := by decide +kernel
theorem dX9_init_75 : decode cX9_init 75 = .ok (.putfield 34, 3) := by decide +kernel
theorem dX9_init_78 : decode cX9_init 78 = .ok (.aload_n 0, 1) := by decide +kernel
theorem dX9_init_79 : decode cX9_init 79 = .ok (.new 38, 3) := by decide +kernel
theorem dX9_init_82 : decode cX9_init 82 = .ok (.dup, 1) := by decide +kernel
theorem dX9_init_83 : decode cX9_init 83 = .ok (.invokespecial 40, 3) := by decide +kernel
theorem dX9_init_86 : decode cX9_init 86 = .ok (.putfield 41, 3) := by decide +kernel
theorem dX9_init_89 : decode cX9_init 89 = .ok (.aload_n 0, 1) := by decide +kernel
theorem dX9_init_90 : decode cX9_init 90 = .ok (.new 45, 3) := by decide +kernel
theorem dX9_init_93 : decode cX9_init 93 = .ok (.dup, 1) := by decide +kernel
theorem dX9_init_94 : decode cX9_init 94 = .ok (.invokespecial 47, 3) := by decide +kernel
theorem dX9_init_97 : decode cX9_init 97 = .ok (.putfield 48, 3) := by decide +kernel
theorem dX9_init_100 : decode cX9_init 100 = .ok (.return_, 1) := by decide +kernel
set_option maxRecDepth 20000 in
theorem ggX9_singer_X9_isToneRange : GoodIn wsX9_singer wsX9_isToneRange := goodIn_r _ [8, 9, 10, 7, 11] (by decide +kernel) (by decide +kernel)
set_option maxRecDepth 20000 in
theorem gX9_singer_X9_isToneRange : GoodIn wsX9_singer (va_wsS RX9 52 yX9_isToneRange wsX9_isToneRange) := goodIn_app (goodIn_of _ (by decide +kernel)) ggX9_singer_X9_isToneRange
set_option maxRecDepth 20000 in
theorem ggX9_singer_X1_keep : GoodIn wsX9_singer wsX1_keep := goodIn_r _ [16, 17, 18, 19, 20, 21, 22, 23, 24, 25, 26, 27, 28, 29, 30, 31, 32, 33, 34, 35, 36, 37, 38, 39, 40, 41, 42, 43, 44, 45, 46, 47, 7, 48, 49, 50, 51, 52, 53, 54, 55, 56, 57, 58, 59, 60, 61, 62, 63, 64, 65, 66, 67, 68, 69, 70, 71, 72, 73, 74, 75, 76, 77, 78, 79, 80, 81, 82, 111, 112, 113, 98, 99, 100, 101, 102, 103, 104, 105, 106, 107, 108, 109, 110, 114, 115, 116, 117, 118, 119, 120, 121, 122, 123, 124, 125, 126, 127] (by decide +kernel) (by decide +kernel)
set_option maxRecDepth 20000 in
theorem gX9_singer_X1_keep : GoodIn wsX9_singer (wsV RX9 66 RX1 yX1_keep wsX1_keep) := goodIn_app (goodIn_of _ (by decide +kernel)) ggX9_singer_X1_keep
set_option maxRecDepth 20000 in
theorem ggX9_singer_X6_add : GoodIn wsX9_singer wsX6_add := goodIn_r _ [86, 40, 43, 44, 87, 88, 89, 38, 90, 41, 104, 105, 106, 107, 108, 109, 110] (by decide +kernel) (by decide +kernel)
set_option maxRecDepth 20000 in
theorem gX9_singer_X6_add : GoodIn wsX9_singer (wsV RX9 70 RX6 yX6_add wsX6_add) := goodIn_app (goodIn_of _ (by decide +kernel)) ggX9_singer_X6_add
theorem dX9_singer_0 : decode cX9_singer 0 = .ok (.iload_n 1, 1) := by decide +kernel
theorem dX9_singer_1 : decode cX9_singer 1 = .ok (.iload_n 2, 1) := by decide +kernel
theorem dX9_singer_2 : decode cX9_singer 2 = .ok (.invokestatic 52, 3) := by decide +kernel
theorem dX9_singer_5 : decode cX9_singer 5 = .ok (.ifCond .ne 6, 3) := by decide +kernel
theorem dX9_singer_8 : decode cX9_singer 8 = .ok (.bipush (-2), 2) := by decide +kernel
theorem dX9_singer_10 : decode cX9_singer 10 = .ok (.ireturn, 1) := by decide +kernel
theorem dX9_singer_11 : decode cX9_singer 11 = .ok (.aload_n 0, 1) := by decide +kernel
theorem dX9_singer_12 : decode cX9_singer 12 = .ok (.getfield 12, 3) := by decide +kernel
theorem dX9_singer_15 : decode cX9_singer 15 = .ok (.getfield 56, 3) := by decide +kernel
theorem dX9_singer_18 : decode cX9_singer 18 = .ok (.getfield 60, 3) := by decide +kernel
theorem dX9_singer_21 : decode cX9_singer 21 = .ok (.bipush 12, 2) := by decide +kernel
theorem dX9_singer_23 : decode cX9_singer 23 = .ok (.if_icmp .lt 6, 3) := by decide +kernel
theorem dX9_singer_26 : decode cX9_singer 26 = .ok (.bipush (-4), 2) := by decide +kernel
theorem dX9_singer_28 : decode cX9_singer 28 = .ok (.ireturn, 1) := by decide +kernel
theorem dX9_singer_29 : decode cX9_singer 29 = .ok (.aload_n 0, 1) := by decide +kernel
theorem dX9_singer_30 : decode cX9_singer 30 = .ok (.getfield 19, 3) := by decide +kernel
theorem dX9_singer_33 : decode cX9_singer 33 = .ok (.aload_n 0, 1) := by decide +kernel
theorem dX9_singer_34 : decode cX9_singer 34 = .ok (.getfield 12, 3) := by decide +kernel
theorem dX9_singer_37 : decode cX9_singer 37 = .ok (.invokevirtual 66, 3) := by decide +kernel
theorem dX9_singer_40 : decode cX9_singer 40 = .ok (.aload_n 0, 1) := by decide +kernel
theorem dX9_singer_41 : decode cX9_singer 41 = .ok (.getfield 12, 3) := by decide +kernel
theorem dX9_singer_44 : decode cX9_singer 44 = .ok (.getfield 56, 3) := by decide +kernel
theorem dX9_singer_47 : decode cX9_singer 47 = .ok (.iload_n 1, 1) := by decide +kernel
theorem dX9_singer_48 : decode cX9_singer 48 = .ok (.iload_n 2, 1) := by decide +kernel
theorem dX9_singer_49 : decode cX9_singer 49 = .ok (.invokevirtual 70, 3) := by decide +kernel
theorem dX9_singer_52 : decode cX9_singer 52 = .ok (.ireturn, 1) := by decide +kernel
set_option maxRecDepth 20000 in
theorem ggX9_song_X9_isToneRange : GoodIn wsX9_song wsX9_isToneRange := goodIn_r _ [8, 9, 10, 7, 11] (by decide +kernel) (by decide +kernel)
set_option maxRecDepth 20000 in
theorem gX9_song_X9_isToneRange : GoodIn wsX9_song (va_wsS RX9 52 yX9_isToneRange wsX9_isToneRange) := goodIn_app (goodIn_of _ (by decide +kernel)) ggX9_song_X9_isToneRange
set_option maxRecDepth 20000 in
theorem ggX9_song_X9_isBetween : GoodIn wsX9_song wsX9_isBetween := goodIn_r _ [11] (by decide +kernel) (by decide +kernel)
set_option maxRecDepth 20000 in
theorem gX9_song_X9_isBetween : GoodIn wsX9_song (va_wsS RX9 74 yX9_isBetween wsX9_isBetween) := goodIn_app (goodIn_of _ (by decide +kernel)) ggX9_song_X9_isBetween
set_option maxRecDepth 20000 in
theorem ggX9_song_X1_keep : GoodIn wsX9_song wsX1_keep := goodIn_r _ [16, 17, 18, 19, 20, 21, 22, 23, 24, 25, 26, 27, 28, 29, 30, 31, 32, 33, 34, 35, 36, 37, 38, 39, 40, 41, 42, 43, 44, 45, 46, 47, 7, 48, 49, 50, 51, 52, 53, 54, 55, 56, 57, 58, 59, 60, 61, 62, 63, 64, 65, 66, 67, 68, 69, 70, 71, 72, 73, 74, 75, 76, 77, 78, 79, 80, 81, 82, 105, 106, 107, 94, 95, 96, 97, 98, 99, 108, 109, 110, 111, 112, 113, 114, 100, 101, 102, 103, 104, 115, 116, 117, 118, 119, 120, 121, 122, 123] (by decide +kernel) (by decide +kernel)
set_option maxRecDepth 20000 in
theorem gX9_song_X1_keep : GoodIn wsX9_song (wsV RX9 66 RX1 yX1_keep wsX1_keep) := goodIn_app (goodIn_of _ (by decide +kernel)) ggX9_song_X1_keep
set_option maxRecDepth 20000 in
theorem ggX9_song_X7_add : GoodIn wsX9_song wsX7_add := goodIn_r _ [86, 59, 60, 61, 62, 100, 101, 102, 103, 104] (by decide +kernel) (by decide +kernel)
set_option maxRecDepth 20000 in
theorem gX9_song_X7_add : GoodIn wsX9_song (wsV RX9 85 RX7 yX7_add wsX7_add) := goodIn_app (goodIn_of _ (by decide +kernel)) ggX9_song_X7_add
theorem dX9_song_0 : decode cX9_song 0 = .ok (.iload_n 1, 1) := by decide +kernel
theorem dX9_song_1 : decode cX9_song 1 = .ok (.iload_n 2, 1) := by decide +kernel
theorem dX9_song_2 : decode cX9_song 2 = .ok (.invokestatic 52, 3) := by decide +kernel
theorem dX9_song_5 : decode cX9_song 5 = .ok (.ifCond .eq 13, 3) := by decide +kernel
theorem dX9_song_8 : decode cX9_song 8 = .ok (.iload_n 3, 1) := by decide +kernel
theorem dX9_song_9 : decode cX9_song 9 = .ok (.iconst 1, 1) := by decide +kernel
theorem dX9_song_10 : decode cX9_song 10 = .ok (.bipush 9, 2) := by decide +kernel
theorem dX9_song_12 : decode cX9_song 12 = .ok (.invokestatic 74, 3) := by decide +kernel
theorem dX9_song_15 : decode cX9_song 15 = .ok (.ifCond .ne 6, 3) := by decide +kernel
theorem dX9_song_18 : decode cX9_song 18 = .ok (.bipush (-2), 2) := by decide +kernel
theorem dX9_song_20 : decode cX9_song 20 = .ok (.ireturn, 1) := by decide +kernel
theorem dX9_song_21 : decode cX9_song 21 = .ok (.aload_n 0, 1) := by decide +kernel
theorem dX9_song_22 : decode cX9_song 22 = .ok (.getfield 12, 3) := by decide +kernel
theorem dX9_song_25 : decode cX9_song 25 = .ok (.getfield 78, 3) := by decide +kernel
theorem dX9_song_28 : decode cX9_song 28 = .ok (.getfield 82, 3) := by decide +kernel
theorem dX9_song_31 : decode cX9_song 31 = .ok (.bipush 16, 2) := by decide +kernel
theorem dX9_song_33 : decode cX9_song 33 = .ok (.if_icmp .lt 6, 3) := by decide +kernel
theorem dX9_song_36 : decode cX9_song 36 = .ok (.bipush (-4), 2) := by decide +kernel
theorem dX9_song_38 : decode cX9_song 38 = .ok (.ireturn, 1) := by decide +kernel
theorem dX9_song_39 : decode cX9_song 39 = .ok (.aload_n 0, 1) := by decide +kernel
theorem dX9_song_40 : decode cX9_song 40 = .ok (.getfield 19, 3) := by decide +kernel
theorem dX9_song_43 : decode cX9_song 43 = .ok (.aload_n 0, 1) := by decide +kernel
theorem dX9_song_44 : decode cX9_song 44 = .ok (.getfield 12, 3) := by decide +kernel
theorem dX9_song_47 : decode cX9_song 47 = .ok (.invokevirtual 66, 3) := by decide +kernel
theorem dX9_song_50 : decode cX9_song 50 = .ok (.aload_n 0, 1) := by decide +kernel
theorem dX9_song_51 : decode cX9_song 51 = .ok (.getfield 12, 3) := by decide +kernel
theorem dX9_song_54 : decode cX9_song 54 = .ok (.getfield 78, 3) := by decide +kernel
theorem dX9_song_57 : decode cX9_song 57 = .ok (.iload_n 1, 1) := by decide +kernel
theorem dX9_song_58 : decode cX9_song 58 = .ok (.iload_n 2, 1) := by decide +kernel
theorem dX9_song_59 : decode cX9_song 59 = .ok (.iload_n 3, 1) := by decide +kernel
theorem dX9_song_60 : decode cX9_song 60 = .ok (.invokevirtual 85, 3) := by decide +kernel
theorem dX9_song_63 : decode cX9_song 63 = .ok (.ireturn, 1) := by decide +kernel
set_option maxRecDepth 20000 in
theorem ggX9_leave_X6_has : GoodIn wsX9_leave wsX6_has := goodIn_r _ [9, 10, 11, 12, 13, 113, 114, 115, 116, 117, 118, 119] (by decide +kernel) (by decide +kernel)
set_option maxRecDepth 20000 in
theorem gX9_leave_X6_has : GoodIn wsX9_leave (wsV RX9 88 RX6 yX6_has wsX6_has) := goodIn_app (goodIn_of _ (by decide +kernel)) ggX9_leave_X6_has
set_option maxRecDepth 20000 in
theorem ggX9_leave_X6_isThere : GoodIn wsX9_leave wsX6_isThere := goodIn_r _ [17, 18, 19, 12, 20, 113, 114, 115, 116, 117, 118, 119] (by decide +kernel) (by decide +kernel)
set_option maxRecDepth 20000 in
theorem gX9_leave_X6_isThere : GoodIn wsX9_leave (wsV RX9 92 RX6 yX6_isThere wsX6_isThere) := goodIn_app (goodIn_of _ (by decide +kernel)) ggX9_leave_X6_isThere
set_option maxRecDepth 20000 in
theorem ggX9_leave_X1_keep : GoodIn wsX9_leave wsX1_keep := goodIn_r _ [25, 26, 27, 28, 29, 30, 31, 32, 33, 34, 35, 36, 37, 38, 39, 40, 41, 42, 43, 44, 45, 46, 8, 47, 10, 18, 48, 49, 50, 51, 52, 53, 12, 54, 55, 56, 57, 58, 59, 60, 61, 62, 63, 64, 65, 66, 67, 68, 69, 70, 71, 72, 73, 74, 75, 76, 77, 78, 79, 80, 81, 82, 83, 84, 85, 86, 87, 88, 120, 121, 122, 107, 108, 109, 110, 111, 112, 113, 114, 115, 116, 117, 118, 119, 123, 124, 125, 126, 127, 128, 129, 130, 131, 132, 133, 134, 135, 136] (by decide +kernel) (by decide +kernel)
set_option maxRecDepth 20000 in
theorem gX9_leave_X1_keep : GoodIn wsX9_leave (wsV RX9 66 RX1 yX1_keep wsX1_keep) := goodIn_app (goodIn_of _ (by decide +kernel)) ggX9_leave_X1_keep
set_option maxRecDepth 20000 in
theorem ggX9_leave_X6_setThere : GoodIn wsX9_leave wsX6_setThere := goodIn_r _ [92, 18, 113, 114, 115, 116, 117, 118, 119] (by decide +kernel) (by decide +kernel)
set_option maxRecDepth 20000 in
theorem gX9_leave_X6_setThere : GoodIn wsX9_leave (wsV RX9 95 RX6 yX6_setThere wsX6_setThere) := goodIn_app (goodIn_of _ (by decide +kernel)) ggX9_leave_X6_setThere
set_option maxRecDepth 20000 in
theorem ggX9_leave_J6_bitCount_0f7a4 : GoodIn wsX9_leave wsJ6_bitCount_0f7a4 := goodIn_r _ [96, 97, 98, 99] (by decide +kernel) (by decide +kernel)
set_option maxRecDepth 20000 in
theorem gX9_leave_J6_bitCount_0f7a4 : GoodIn wsX9_leave (va_wsS RX9 102 yJ6_bitCount_0f7a4 wsJ6_bitCount_0f7a4) := goodIn_app (goodIn_of _ (by decide +kernel)) ggX9_leave_J6_bitCount_0f7a4
theorem dX9_leave_0 : decode cX9_leave 0 = .ok (.aload_n 0, 1) := by decide +kernel
theorem dX9_leave_1 : decode cX9_leave 1 = .ok (.getfield 12, 3) := by decide +kernel
theorem dX9_leave_4 : decode cX9_leave 4 = .ok (.getfield 56, 3) := by decide +kernel
theorem dX9_leave_7 : decode cX9_leave 7 = .ok (.iload_n 1, 1) := by decide +kernel
theorem dX9_leave_8 : decode cX9_leave 8 = .ok (.invokevirtual 88, 3) := by decide +kernel
theorem dX9_leave_11 : decode cX9_leave 11 = .ok (.ifCond .ne 5, 3) := by decide +kernel
theorem dX9_leave_14 : decode cX9_leave 14 = .ok (.iconst (-1), 1) := by decide +kernel
theorem dX9_leave_15 : decode cX9_leave 15 = .ok (.ireturn, 1) := by decide +kernel
theorem dX9_leave_16 : decode cX9_leave 16 = .ok (.iload_n 2, 1) := by decide +kernel
theorem dX9_leave_17 : decode cX9_leave 17 = .ok (.aload_n 0, 1) := by decide +kernel
theorem dX9_leave_18 : decode cX9_leave 18 = .ok (.getfield 12, 3) := by decide +kernel
theorem dX9_leave_21 : decode cX9_leave 21 = .ok (.getfield 56, 3) := by decide +kernel
theorem dX9_leave_24 : decode cX9_leave 24 = .ok (.iload_n 1, 1) := by decide +kernel
theorem dX9_leave_25 : decode cX9_leave 25 = .ok (.invokevirtual 92, 3) := by decide +kernel
theorem dX9_leave_28 : decode cX9_leave 28 = .ok (.if_icmp .eq 6, 3) := by decide +kernel
theorem dX9_leave_31 : decode cX9_leave 31 = .ok (.bipush (-5), 2) := by decide +kernel
theorem dX9_leave_33 : decode cX9_leave 33 = .ok (.ireturn, 1) := by decide +kernel
theorem dX9_leave_34 : decode cX9_leave 34 = .ok (.aload_n 0, 1) := by decide +kernel
theorem dX9_leave_35 : decode cX9_leave 35 = .ok (.getfield 19, 3) := by decide +kernel
theorem dX9_leave_38 : decode cX9_leave 38 = .ok (.aload_n 0, 1) := by decide +kernel
theorem dX9_leave_39 : decode cX9_leave 39 = .ok (.getfield 12, 3) := by decide +kernel
theorem dX9_leave_42 : decode cX9_leave 42 = .ok (.invokevirtual 66, 3) := by decide +kernel
theorem dX9_leave_45 : decode cX9_leave 45 = .ok (.aload_n 0, 1) := by decide +kernel
theorem dX9_leave_46 : decode cX9_leave 46 = .ok (.getfield 12, 3) := by decide +kernel
theorem dX9_leave_49 : decode cX9_leave 49 = .ok (.getfield 56, 3) := by decide +kernel
theorem dX9_leave_52 : decode cX9_leave 52 = .ok (.iload_n 1, 1) := by decide +kernel
theorem dX9_leave_53 : decode cX9_leave 53 = .ok (.iload_n 2, 1) := by decide +kernel
theorem dX9_leave_54 : decode cX9_leave 54 = .ok (.ifCond .ne 7, 3) := by decide +kernel
theorem dX9_leave_57 : decode cX9_leave 57 = .ok (.iconst 1, 1) := by decide +kernel
theorem dX9_leave_58 : decode cX9_leave 58 = .ok (.goto 4, 3) := by decide +kernel
theorem dX9_leave_61 : decode cX9_leave 61 = .ok (.iconst 0, 1) := by decide +kernel
theorem dX9_leave_62 : decode cX9_leave 62 = .ok (.invokevirtual 95, 3) := by decide +kernel
theorem dX9_leave_65 : decode cX9_leave 65 = .ok (.aload_n 0, 1) := by decide +kernel
theorem dX9_leave_66 : decode cX9_leave 66 = .ok (.getfield 12, 3) := by decide +kernel
theorem dX9_leave_69 : decode cX9_leave 69 = .ok (.getfield 56, 3) := by decide +kernel
theorem dX9_leave_72 : decode cX9_leave 72 = .ok (.getfield 99, 3) := by decide +kernel
theorem dX9_leave_75 : decode cX9_leave 75 = .ok (.invokestatic 102, 3) := by decide +kernel
theorem dX9_leave_78 : decode cX9_leave 78 = .ok (.ireturn, 1) := by decide +kernel
set_option maxRecDepth 20000 in
theorem ggX9_wish_X0_errorOfWish : GoodIn wsX9_wish wsX0_errorOfWish := goodIn_r _ [9, 10, 11, 12, 8, 13, 14, 15, 16, 17, 18, 19, 20, 21, 22, 23, 24, 25, 26, 27, 28, 29, 30, 31, 32, 33, 34, 35, 36, 37, 38, 39, 40, 41, 42, 43, 44, 45, 46, 47, 48, 49, 50, 51, 52, 53, 124, 125, 126, 127, 128, 129, 134, 135, 136, 137, 138, 139, 140, 141, 142, 143, 144, 145] (by decide +kernel) (by decide +kernel)
set_option maxRecDepth 20000 in
theorem gX9_wish_X0_errorOfWish : GoodIn wsX9_wish (wsV RX9 115 RX0 yX0_errorOfWish wsX0_errorOfWish) := goodIn_app (goodIn_of _ (by decide +kernel)) ggX9_wish_X0_errorOfWish
set_option maxRecDepth 20000 in
theorem ggX9_wish_X1_keep : GoodIn wsX9_wish wsX1_keep := goodIn_r _ [58, 59, 60, 61, 62, 42, 39, 43, 63, 64, 65, 8, 66, 14, 15, 67, 68, 69, 70, 71, 72, 73, 19, 74, 21, 75, 76, 77, 78, 79, 80, 81, 23, 82, 83, 84, 85, 86, 87, 88, 89, 90, 28, 91, 30, 52, 53, 92, 93, 94, 95, 96, 97, 98, 99, 100, 101, 102, 103, 104, 105, 106, 107, 108, 109, 110, 111, 112, 146, 147, 148, 124, 125, 126, 127, 128, 129, 134, 135, 136, 137, 138, 139, 140, 141, 142, 143, 144, 145, 130, 131, 132, 133, 149, 150, 151, 152, 153] (by decide +kernel) (by decide +kernel)
set_option maxRecDepth 20000 in
theorem gX9_wish_X1_keep : GoodIn wsX9_wish (wsV RX9 66 RX1 yX1_keep wsX1_keep) := goodIn_app (goodIn_of _ (by decide +kernel)) ggX9_wish_X1_keep
set_option maxRecDepth 20000 in
theorem ggX9_wish_X8_add : GoodIn wsX9_wish wsX8_add := goodIn_r _ [116, 99, 100, 101, 102, 130, 131, 132, 133] (by decide +kernel) (by decide +kernel)
set_option maxRecDepth 20000 in
theorem gX9_wish_X8_add : GoodIn wsX9_wish (wsV RX9 119 RX8 yX8_add wsX8_add) := goodIn_app (goodIn_of _ (by decide +kernel)) ggX9_wish_X8_add
theorem dX9_wish_0 : decode cX9_wish 0 = .ok (.aload_n 0, 1) := by decide +kernel
theorem dX9_wish_1 : decode cX9_wish 1 = .ok (.getfield 12, 3) := by decide +kernel
theorem dX9_wish_4 : decode cX9_wish 4 = .ok (.iload_n 1, 1) := by decide +kernel
theorem dX9_wish_5 : decode cX9_wish 5 = .ok (.iload_n 2, 1) := by decide +kernel
theorem dX9_wish_6 : decode cX9_wish 6 = .ok (.iload_n 3, 1) := by decide +kernel
theorem dX9_wish_7 : decode cX9_wish 7 = .ok (.aload_n 0, 1) := by decide +kernel
theorem dX9_wish_8 : decode cX9_wish 8 = .ok (.getfield 12, 3) := by decide +kernel
theorem dX9_wish_11 : decode cX9_wish 11 = .ok (.getfield 108, 3) := by decide +kernel
theorem dX9_wish_14 : decode cX9_wish 14 = .ok (.getfield 112, 3) := by decide +kernel
theorem dX9_wish_17 : decode cX9_wish 17 = .ok (.invokevirtual 115, 3) := by decide +kernel
theorem dX9_wish_20 : decode cX9_wish 20 = .ok (.istore 4, 2) := by decide +kernel
theorem dX9_wish_22 : decode cX9_wish 22 = .ok (.iload 4, 2) := by decide +kernel
theorem dX9_wish_24 : decode cX9_wish 24 = .ok (.ifCond .eq 6, 3) := by decide +kernel
theorem dX9_wish_27 : decode cX9_wish 27 = .ok (.iload 4, 2) := by decide +kernel
theorem dX9_wish_29 : decode cX9_wish 29 = .ok (.ireturn, 1) := by decide +kernel
theorem dX9_wish_30 : decode cX9_wish 30 = .ok (.aload_n 0, 1) := by decide +kernel
theorem dX9_wish_31 : decode cX9_wish 31 = .ok (.getfield 19, 3) := by decide +kernel
theorem dX9_wish_34 : decode cX9_wish 34 = .ok (.aload_n 0, 1) := by decide +kernel
theorem dX9_wish_35 : decode cX9_wish 35 = .ok (.getfield 12, 3) := by decide +kernel
theorem dX9_wish_38 : decode cX9_wish 38 = .ok (.invokevirtual 66, 3) := by decide +kernel
theorem dX9_wish_41 : decode cX9_wish 41 = .ok (.aload_n 0, 1) := by decide +kernel
theorem dX9_wish_42 : decode cX9_wish 42 = .ok (.getfield 12, 3) := by decide +kernel
theorem dX9_wish_45 : decode cX9_wish 45 = .ok (.getfield 108, 3) := by decide +kernel
theorem dX9_wish_48 : decode cX9_wish 48 = .ok (.iload_n 1, 1) := by decide +kernel
theorem dX9_wish_49 : decode cX9_wish 49 = .ok (.iload_n 2, 1) := by decide +kernel
theorem dX9_wish_50 : decode cX9_wish 50 = .ok (.iload_n 3, 1) := by decide +kernel
theorem dX9_wish_51 : decode cX9_wish 51 = .ok (.invokevirtual 119, 3) := by decide +kernel
theorem dX9_wish_54 : decode cX9_wish 54 = .ok (.ireturn, 1) := by decide +kernel
set_option maxRecDepth 20000 in
theorem ggX9_takeBack_X8_has : GoodIn wsX9_takeBack wsX8_has := goodIn_r _ [9, 10, 11, 12, 13, 100, 101, 102, 103] (by decide +kernel) (by decide +kernel)
set_option maxRecDepth 20000 in
theorem gX9_takeBack_X8_has : GoodIn wsX9_takeBack (wsV RX9 120 RX8 yX8_has wsX8_has) := goodIn_app (goodIn_of _ (by decide +kernel)) ggX9_takeBack_X8_has
set_option maxRecDepth 20000 in
theorem ggX9_takeBack_X1_keep : GoodIn wsX9_takeBack wsX1_keep := goodIn_r _ [18, 19, 20, 21, 22, 23, 24, 25, 26, 27, 28, 29, 30, 31, 32, 33, 34, 35, 36, 37, 38, 39, 40, 41, 42, 43, 44, 45, 46, 47, 48, 49, 12, 50, 51, 52, 53, 54, 55, 56, 57, 58, 59, 60, 61, 62, 63, 64, 65, 66, 67, 68, 8, 69, 10, 70, 71, 72, 73, 74, 75, 76, 77, 78, 79, 80, 81, 82, 104, 105, 106, 94, 95, 96, 97, 98, 99, 107, 108, 109, 110, 111, 112, 113, 114, 115, 116, 117, 118, 100, 101, 102, 103, 119, 120, 121, 122, 123] (by decide +kernel) (by decide +kernel)
set_option maxRecDepth 20000 in
theorem gX9_takeBack_X1_keep : GoodIn wsX9_takeBack (wsV RX9 66 RX1 yX1_keep wsX1_keep) := goodIn_app (goodIn_of _ (by decide +kernel)) ggX9_takeBack_X1_keep
set_option maxRecDepth 20000 in
theorem ggX9_takeBack_X8_removeAt : GoodIn wsX9_takeBack wsX8_removeAt := goodIn_r _ [86, 10, 70, 71, 72, 100, 101, 102, 103] (by decide +kernel) (by decide +kernel)
set_option maxRecDepth 20000 in
theorem gX9_takeBack_X8_removeAt : GoodIn wsX9_takeBack (wsV RX9 121 RX8 yX8_removeAt wsX8_removeAt) := goodIn_app (goodIn_of _ (by decide +kernel)) ggX9_takeBack_X8_removeAt
theorem dX9_takeBack_0 : decode cX9_takeBack 0 = .ok (.aload_n 0, 1) := by decide +kernel
theorem dX9_takeBack_1 : decode cX9_takeBack 1 = .ok (.getfield 12, 3) := by decide +kernel
theorem dX9_takeBack_4 : decode cX9_takeBack 4 = .ok (.getfield 108, 3) := by decide +kernel
theorem dX9_takeBack_7 : decode cX9_takeBack 7 = .ok (.iload_n 1, 1) := by decide +kernel
theorem dX9_takeBack_8 : decode cX9_takeBack 8 = .ok (.invokevirtual 120, 3) := by decide +kernel
theorem dX9_takeBack_11 : decode cX9_takeBack 11 = .ok (.ifCond .ne 5, 3) := by decide +kernel
theorem dX9_takeBack_14 : decode cX9_takeBack 14 = .ok (.iconst (-1), 1) := by decide +kernel
theorem dX9_takeBack_15 : decode cX9_takeBack 15 = .ok (.ireturn, 1) := by decide +kernel
theorem dX9_takeBack_16 : decode cX9_takeBack 16 = .ok (.aload_n 0, 1) := by decide +kernel
theorem dX9_takeBack_17 : decode cX9_takeBack 17 = .ok (.getfield 19, 3) := by decide +kernel
theorem dX9_takeBack_20 : decode cX9_takeBack 20 = .ok (.aload_n 0, 1) := by decide +kernel
theorem dX9_takeBack_21 : decode cX9_takeBack 21 = .ok (.getfield 12, 3) := by decide +kernel
theorem dX9_takeBack_24 : decode cX9_takeBack 24 = .ok (.invokevirtual 66, 3) := by decide +kernel
theorem dX9_takeBack_27 : decode cX9_takeBack 27 = .ok (.aload_n 0, 1) := by decide +kernel
theorem dX9_takeBack_28 : decode cX9_takeBack 28 = .ok (.getfield 12, 3) := by decide +kernel
theorem dX9_takeBack_31 : decode cX9_takeBack 31 = .ok (.getfield 108, 3) := by decide +kernel
theorem dX9_takeBack_34 : decode cX9_takeBack 34 = .ok (.iload_n 1, 1) := by decide +kernel
theorem dX9_takeBack_35 : decode cX9_takeBack 35 = .ok (.invokevirtual 121, 3) := by decide +kernel
theorem dX9_takeBack_38 : decode cX9_takeBack 38 = .ok (.aload_n 0, 1) := by decide +kernel
theorem dX9_takeBack_39 : decode cX9_takeBack 39 = .ok (.getfield 12, 3) := by decide +kernel
theorem dX9_takeBack_42 : decode cX9_takeBack 42 = .ok (.getfield 108, 3) := by decide +kernel
theorem dX9_takeBack_45 : decode cX9_takeBack 45 = .ok (.getfield 112, 3) := by decide +kernel
theorem dX9_takeBack_48 : decode cX9_takeBack 48 = .ok (.ireturn, 1) := by decide +kernel
set_option maxRecDepth 20000 in
theorem ggX9_sing_X9_isBetween : GoodIn wsX9_sing wsX9_isBetween := goodIn_r _ [6] (by decide +kernel) (by decide +kernel)
set_option maxRecDepth 20000 in
theorem gX9_sing_X9_isBetween : GoodIn wsX9_sing (va_wsS RX9 74 yX9_isBetween wsX9_isBetween) := goodIn_app (goodIn_of _ (by decide +kernel)) ggX9_sing_X9_isBetween
set_option maxRecDepth 20000 in
theorem ggX9_sing_X1_keep : GoodIn wsX9_sing wsX1_keep := goodIn_r _ [11, 12, 13, 14, 15, 16, 17, 18, 19, 20, 21, 22, 23, 24, 25, 26, 27, 28, 29, 30, 31, 32, 33, 34, 35, 36, 37, 38, 39, 40, 41, 42, 5, 43, 44, 45, 46, 47, 48, 49, 50, 51, 52, 53, 54, 55, 56, 57, 58, 59, 60, 61, 62, 63, 64, 65, 66, 67, 68, 69, 70, 71, 72, 73, 74, 75, 76, 77, 152, 153, 154, 155, 156, 157, 158, 159, 160, 161, 162, 163, 164, 165, 166, 167, 168, 169, 170, 171, 172, 173, 174, 175, 176, 177, 178, 179, 180, 181] (by decide +kernel) (by decide +kernel)
set_option maxRecDepth 20000 in
theorem gX9_sing_X1_keep : GoodIn wsX9_sing (wsV RX9 66 RX1 yX1_keep wsX1_keep) := goodIn_app (goodIn_of _ (by decide +kernel)) ggX9_sing_X1_keep
set_option maxRecDepth 20000 in
theorem ggX9_sing_X0_nextWish : GoodIn wsX9_sing wsX0_nextWish := goodIn_r _ [81, 26, 24, 82, 83, 84, 85, 86, 87, 62, 88, 89, 90, 91, 92, 64, 93, 94, 95, 96, 65, 66, 97, 98, 99, 100, 101, 102, 103, 104, 105, 106, 107, 108, 109, 5, 110, 111, 112, 113, 114, 115, 116, 17, 117, 155, 156, 157, 158, 159, 160, 161, 162, 163, 164, 165, 166, 167, 173, 174, 175, 176] (by decide +kernel) (by decide +kernel)
set_option maxRecDepth 20000 in
theorem gX9_sing_X0_nextWish : GoodIn wsX9_sing (wsV RX9 125 RX0 yX0_nextWish wsX0_nextWish) := goodIn_app (goodIn_of _ (by decide +kernel)) ggX9_sing_X0_nextWish
set_option maxRecDepth 20000 in
theorem ggX9_sing_X0_singTurn : GoodIn wsX9_sing wsX0_singTurn := goodIn_r _ [121, 26, 122, 27, 123, 124, 28, 24, 25, 125, 29, 126, 127, 128, 22, 129, 130, 131, 132, 133, 71, 134, 73, 135, 16, 17, 18, 74, 75, 76, 77, 136, 94, 95, 62, 96, 65, 66, 137, 138, 139, 33, 140, 35, 40, 41, 37, 109, 5, 110, 141, 142, 143, 144, 64, 67, 155, 156, 157, 158, 159, 160, 173, 174, 175, 176, 168, 169, 170, 171, 172, 177, 178, 179, 180, 181, 161, 162, 163, 164, 165, 166, 167] (by decide +kernel) (by decide +kernel)
set_option maxRecDepth 20000 in
theorem gX9_sing_X0_singTurn : GoodIn wsX9_sing (wsV RX9 129 RX0 yX0_singTurn wsX0_singTurn) := goodIn_app (goodIn_of _ (by decide +kernel)) ggX9_sing_X0_singTurn
theorem dX9_sing_0 : decode cX9_sing 0 = .ok (.iload_n 1, 1) := by decide +kernel
theorem dX9_sing_1 : decode cX9_sing 1 = .ok (.iconst 1, 1) := by decide +kernel
theorem dX9_sing_2 : decode cX9_sing 2 = .ok (.bipush 20, 2) := by decide +kernel
theorem dX9_sing_4 : decode cX9_sing 4 = .ok (.invokestatic 74, 3) := by decide +kernel
theorem dX9_sing_7 : decode cX9_sing 7 = .ok (.ifCond .ne 6, 3) := by decide +kernel
theorem dX9_sing_10 : decode cX9_sing 10 = .ok (.bipush (-2), 2) := by decide +kernel
theorem dX9_sing_12 : decode cX9_sing 12 = .ok (.ireturn, 1) := by decide +kernel
theorem dX9_sing_13 : decode cX9_sing 13 = .ok (.aload_n 0, 1) := by decide +kernel
theorem dX9_sing_14 : decode cX9_sing 14 = .ok (.getfield 19, 3) := by decide +kernel
theorem dX9_sing_17 : decode cX9_sing 17 = .ok (.aload_n 0, 1) := by decide +kernel
theorem dX9_sing_18 : decode cX9_sing 18 = .ok (.getfield 12, 3) := by decide +kernel
theorem dX9_sing_21 : decode cX9_sing 21 = .ok (.invokevirtual 66, 3) := by decide +kernel
theorem dX9_sing_24 : decode cX9_sing 24 = .ok (.iconst 0, 1) := by decide +kernel
theorem dX9_sing_25 : decode cX9_sing 25 = .ok (.istore_n 2, 1) := by decide +kernel
theorem dX9_sing_26 : decode cX9_sing 26 = .ok (.iload_n 2, 1) := by decide +kernel
theorem dX9_sing_27 : decode cX9_sing 27 = .ok (.iload_n 1, 1) := by decide +kernel
theorem dX9_sing_28 : decode cX9_sing 28 = .ok (.if_icmp .ge 33, 3) := by decide +kernel
theorem dX9_sing_31 : decode cX9_sing 31 = .ok (.aload_n 0, 1) := by decide +kernel
theorem dX9_sing_32 : decode cX9_sing 32 = .ok (.getfield 12, 3) := by decide +kernel
theorem dX9_sing_35 : decode cX9_sing 35 = .ok (.invokevirtual 125, 3) := by decide +kernel
theorem dX9_sing_38 : decode cX9_sing 38 = .ok (.istore_n 3, 1) := by decide +kernel
theorem dX9_sing_39 : decode cX9_sing 39 = .ok (.iload_n 3, 1) := by decide +kernel
theorem dX9_sing_40 : decode cX9_sing 40 = .ok (.bipush (-6), 2) := by decide +kernel
theorem dX9_sing_42 : decode cX9_sing 42 = .ok (.if_icmp .ne 5, 3) := by decide +kernel
theorem dX9_sing_45 : decode cX9_sing 45 = .ok (.iload_n 2, 1) := by decide +kernel
theorem dX9_sing_46 : decode cX9_sing 46 = .ok (.ireturn, 1) := by decide +kernel
theorem dX9_sing_47 : decode cX9_sing 47 = .ok (.aload_n 0, 1) := by decide +kernel
theorem dX9_sing_48 : decode cX9_sing 48 = .ok (.getfield 12, 3) := by decide +kernel
theorem dX9_sing_51 : decode cX9_sing 51 = .ok (.iload_n 3, 1) := by decide +kernel
theorem dX9_sing_52 : decode cX9_sing 52 = .ok (.invokevirtual 129, 3) := by decide +kernel
theorem dX9_sing_55 : decode cX9_sing 55 = .ok (.iinc 2 1, 3) := by decide +kernel
theorem dX9_sing_58 : decode cX9_sing 58 = .ok (.goto (-32), 3) := by decide +kernel
theorem dX9_sing_61 : decode cX9_sing 61 = .ok (.iload_n 1, 1) := by decide +kernel
theorem dX9_sing_62 : decode cX9_sing 62 = .ok (.ireturn, 1) := by decide +kernel
set_option maxRecDepth 20000 in
theorem ggX9_of_X6_has : GoodIn wsX9_of wsX6_has := goodIn_r _ [13, 14, 15, 16, 17, 54, 55, 56, 57, 58, 59, 60] (by decide +kernel) (by decide +kernel)
set_option maxRecDepth 20000 in
theorem gX9_of_X6_has : GoodIn wsX9_of (wsV RX9 88 RX6 yX6_has wsX6_has) := goodIn_app (goodIn_of _ (by decide +kernel)) ggX9_of_X6_has
set_option maxRecDepth 20000 in
theorem ggX9_of_X6_isThere : GoodIn wsX9_of wsX6_isThere := goodIn_r _ [21, 22, 23, 16, 24, 54, 55, 56, 57, 58, 59, 60] (by decide +kernel) (by decide +kernel)
set_option maxRecDepth 20000 in
theorem gX9_of_X6_isThere : GoodIn wsX9_of (wsV RX9 92 RX6 yX6_isThere wsX6_isThere) := goodIn_app (goodIn_of _ (by decide +kernel)) ggX9_of_X6_isThere
set_option maxRecDepth 20000 in
theorem ggX9_of_X9_asNumber : GoodIn wsX9_of wsX9_asNumber := goodIn_r _ [27] (by decide +kernel) (by decide +kernel)
set_option maxRecDepth 20000 in
theorem gX9_of_X9_asNumber : GoodIn wsX9_of (va_wsS RX9 159 yX9_asNumber wsX9_asNumber) := goodIn_app (goodIn_of _ (by decide +kernel)) ggX9_of_X9_asNumber
set_option maxRecDepth 20000 in
theorem ggX9_of_X9_isIn : GoodIn wsX9_of wsX9_isIn := goodIn_r _ [24] (by decide +kernel) (by decide +kernel)
set_option maxRecDepth 20000 in
theorem gX9_of_X9_isIn : GoodIn wsX9_of (va_wsS RX9 169 yX9_isIn wsX9_isIn) := goodIn_app (goodIn_of _ (by decide +kernel)) ggX9_of_X9_isIn
set_option maxRecDepth 20000 in
theorem ggX9_of_X8_numberWith : GoodIn wsX9_of wsX8_numberWith := goodIn_r _ [33, 34, 35, 36, 37, 32, 38, 39, 40, 23, 16, 24, 61, 62, 63, 64] (by decide +kernel) (by decide +kernel)
set_option maxRecDepth 20000 in
theorem gX9_of_X8_numberWith : GoodIn wsX9_of (wsV RX9 172 RX8 yX8_numberWith wsX8_numberWith) := goodIn_app (goodIn_of _ (by decide +kernel)) ggX9_of_X8_numberWith
theorem dX9_of_0 : decode cX9_of 0 = .ok (.aload_n 0, 1) := by decide +kernel
theorem dX9_of_1 : decode cX9_of 1 = .ok (.getfield 12, 3) := by decide +kernel
theorem dX9_of_4 : decode cX9_of 4 = .ok (.getfield 56, 3) := by decide +kernel
theorem dX9_of_7 : decode cX9_of 7 = .ok (.astore_n 3, 1) := by decide +kernel
theorem dX9_of_8 : decode cX9_of 8 = .ok (.aload_n 3, 1) := by decide +kernel
theorem dX9_of_9 : decode cX9_of 9 = .ok (.iload_n 1, 1) := by decide +kernel
theorem dX9_of_10 : decode cX9_of 10 = .ok (.invokevirtual 88, 3) := by decide +kernel
theorem dX9_of_13 : decode cX9_of 13 = .ok (.ifCond .ne 5, 3) := by decide +kernel
theorem dX9_of_16 : decode cX9_of 16 = .ok (.iconst (-1), 1) := by decide +kernel
theorem dX9_of_17 : decode cX9_of 17 = .ok (.ireturn, 1) := by decide +kernel
theorem dX9_of_18 : decode cX9_of 18 = .ok (.iload_n 2, 1) := by decide +kernel
theorem dX9_of_19 : decode cX9_of 19 = .ok (.tableswitch 102 0 6 #[41, 48, 55, 64, 71, 83, 95], 41) := by decide +kernel
theorem dX9_of_60 : decode cX9_of 60 = .ok (.aload_n 3, 1) := by decide +kernel
theorem dX9_of_61 : decode cX9_of 61 = .ok (.getfield 153, 3) := by decide +kernel
theorem dX9_of_64 : decode cX9_of 64 = .ok (.iload_n 1, 1) := by decide +kernel
theorem dX9_of_65 : decode cX9_of 65 = .ok (.iaload, 1) := by decide +kernel
theorem dX9_of_66 : decode cX9_of 66 = .ok (.ireturn, 1) := by decide +kernel
theorem dX9_of_67 : decode cX9_of 67 = .ok (.aload_n 3, 1) := by decide +kernel
theorem dX9_of_68 : decode cX9_of 68 = .ok (.getfield 156, 3) := by decide +kernel
theorem dX9_of_71 : decode cX9_of 71 = .ok (.iload_n 1, 1) := by decide +kernel
theorem dX9_of_72 : decode cX9_of 72 = .ok (.iaload, 1) := by decide +kernel
theorem dX9_of_73 : decode cX9_of 73 = .ok (.ireturn, 1) := by decide +kernel
theorem dX9_of_74 : decode cX9_of 74 = .ok (.aload_n 3, 1) := by decide +kernel
theorem dX9_of_75 : decode cX9_of 75 = .ok (.iload_n 1, 1) := by decide +kernel
theorem dX9_of_76 : decode cX9_of 76 = .ok (.invokevirtual 92, 3) := by decide +kernel
theorem dX9_of_79 : decode cX9_of 79 = .ok (.invokestatic 159, 3) := by decide +kernel
theorem dX9_of_82 : decode cX9_of 82 = .ok (.ireturn, 1) := by decide +kernel
theorem dX9_of_83 : decode cX9_of 83 = .ok (.aload_n 3, 1) := by decide +kernel
theorem dX9_of_84 : decode cX9_of 84 = .ok (.getfield 163, 3) := by decide +kernel
theorem dX9_of_87 : decode cX9_of 87 = .ok (.iload_n 1, 1) := by decide +kernel
theorem dX9_of_88 : decode cX9_of 88 = .ok (.iaload, 1) := by decide +kernel
theorem dX9_of_89 : decode cX9_of 89 = .ok (.ireturn, 1) := by decide +kernel
theorem dX9_of_90 : decode cX9_of 90 = .ok (.aload_n 3, 1) := by decide +kernel
theorem dX9_of_91 : decode cX9_of 91 = .ok (.getfield 166, 3) := by decide +kernel
theorem dX9_of_94 : decode cX9_of 94 = .ok (.iload_n 1, 1) := by decide +kernel
theorem dX9_of_95 : decode cX9_of 95 = .ok (.invokestatic 169, 3) := by decide +kernel
theorem dX9_of_98 : decode cX9_of 98 = .ok (.invokestatic 159, 3) := by decide +kernel
theorem dX9_of_101 : decode cX9_of 101 = .ok (.ireturn, 1) := by decide +kernel
theorem dX9_of_102 : decode cX9_of 102 = .ok (.aload_n 0, 1) := by decide +kernel
theorem dX9_of_103 : decode cX9_of 103 = .ok (.getfield 12, 3) := by decide +kernel
theorem dX9_of_106 : decode cX9_of 106 = .ok (.getfield 108, 3) := by decide +kernel
theorem dX9_of_109 : decode cX9_of 109 = .ok (.iload_n 1, 1) := by decide +kernel
theorem dX9_of_110 : decode cX9_of 110 = .ok (.invokevirtual 172, 3) := by decide +kernel
theorem dX9_of_113 : decode cX9_of 113 = .ok (.ireturn, 1) := by decide +kernel
theorem dX9_of_114 : decode cX9_of 114 = .ok (.aload_n 3, 1) := by decide +kernel
theorem dX9_of_115 : decode cX9_of 115 = .ok (.getfield 175, 3) := by decide +kernel
theorem dX9_of_118 : decode cX9_of 118 = .ok (.iload_n 1, 1) := by decide +kernel
theorem dX9_of_119 : decode cX9_of 119 = .ok (.iaload, 1) := by decide +kernel
theorem dX9_of_120 : decode cX9_of 120 = .ok (.ireturn, 1) := by decide +kernel
theorem dX9_of_121 : decode cX9_of 121 = .ok (.bipush (-2), 2) := by decide +kernel
theorem dX9_of_123 : decode cX9_of 123 = .ok (.ireturn, 1) := by decide +kernel
set_option maxRecDepth 20000 in
theorem ggX9_inQueue_X8_has : GoodIn wsX9_inQueue wsX8_has := goodIn_r _ [14, 15, 16, 17, 18, 88, 89, 90, 91] (by decide +kernel) (by decide +kernel)
set_option maxRecDepth 20000 in
theorem gX9_inQueue_X8_has : GoodIn wsX9_inQueue (wsV RX9 120 RX8 yX8_has wsX8_has) := goodIn_app (goodIn_of _ (by decide +kernel)) ggX9_inQueue_X8_has
set_option maxRecDepth 20000 in
theorem ggX9_inQueue_X0_keyAndTen : GoodIn wsX9_inQueue wsX0_keyAndTen := goodIn_r _ [23, 24, 25, 26, 27, 28, 29, 30, 31, 32, 33, 34, 35, 36, 37, 38, 39, 40, 41, 42, 43, 44, 45, 82, 83, 84, 85, 86, 87, 92, 93, 94, 95, 96, 97, 98, 99, 100, 101, 102, 103] (by decide +kernel) (by decide +kernel)
set_option maxRecDepth 20000 in
theorem gX9_inQueue_X0_keyAndTen : GoodIn wsX9_inQueue (wsV RX9 181 RX0 yX0_keyAndTen wsX0_keyAndTen) := goodIn_app (goodIn_of _ (by decide +kernel)) ggX9_inQueue_X0_keyAndTen
set_option maxRecDepth 20000 in
theorem ggX9_inQueue_X8_readyOnes : GoodIn wsX9_inQueue wsX8_readyOnes := goodIn_r _ [49, 50, 51, 52, 13, 53, 15, 54, 55, 56, 57, 58, 59, 88, 89, 90, 91] (by decide +kernel) (by decide +kernel)
set_option maxRecDepth 20000 in
theorem gX9_inQueue_X8_readyOnes : GoodIn wsX9_inQueue (wsV RX9 184 RX8 yX8_readyOnes wsX8_readyOnes) := goodIn_app (goodIn_of _ (by decide +kernel)) ggX9_inQueue_X8_readyOnes
set_option maxRecDepth 20000 in
theorem ggX9_inQueue_X9_isIn : GoodIn wsX9_inQueue wsX9_isIn := goodIn_r _ [62] (by decide +kernel) (by decide +kernel)
set_option maxRecDepth 20000 in
theorem gX9_inQueue_X9_isIn : GoodIn wsX9_inQueue (va_wsS RX9 169 yX9_isIn wsX9_isIn) := goodIn_app (goodIn_of _ (by decide +kernel)) ggX9_inQueue_X9_isIn
set_option maxRecDepth 20000 in
theorem ggX9_inQueue_X9_asNumber : GoodIn wsX9_inQueue wsX9_asNumber := goodIn_r _ [65] (by decide +kernel) (by decide +kernel)
set_option maxRecDepth 20000 in
theorem gX9_inQueue_X9_asNumber : GoodIn wsX9_inQueue (va_wsS RX9 159 yX9_asNumber wsX9_asNumber) := goodIn_app (goodIn_of _ (by decide +kernel)) ggX9_inQueue_X9_asNumber
set_option maxRecDepth 20000 in
theorem ggX9_inQueue_X8_freshOnes : GoodIn wsX9_inQueue wsX8_freshOnes := goodIn_r _ [69, 50, 51, 52, 13, 53, 15, 54, 55, 56, 57, 58, 59, 88, 89, 90, 91] (by decide +kernel) (by decide +kernel)
set_option maxRecDepth 20000 in
theorem gX9_inQueue_X8_freshOnes : GoodIn wsX9_inQueue (wsV RX9 187 RX8 yX8_freshOnes wsX8_freshOnes) := goodIn_app (goodIn_of _ (by decide +kernel)) ggX9_inQueue_X8_freshOnes
set_option maxRecDepth 20000 in
theorem ggX9_inQueue_X8_turnsFor : GoodIn wsX9_inQueue wsX8_turnsFor := goodIn_r _ [73, 58, 59, 74, 28, 29, 30, 88, 89, 90, 91] (by decide +kernel) (by decide +kernel)
set_option maxRecDepth 20000 in
theorem gX9_inQueue_X8_turnsFor : GoodIn wsX9_inQueue (wsV RX9 190 RX8 yX8_turnsFor wsX8_turnsFor) := goodIn_app (goodIn_of _ (by decide +kernel)) ggX9_inQueue_X8_turnsFor
theorem dX9_inQueue_0 : decode cX9_inQueue 0 = .ok (.aload_n 0, 1) := by decide +kernel
theorem dX9_inQueue_1 : decode cX9_inQueue 1 = .ok (.getfield 12, 3) := by decide +kernel
theorem dX9_inQueue_4 : decode cX9_inQueue 4 = .ok (.getfield 108, 3) := by decide +kernel
theorem dX9_inQueue_7 : decode cX9_inQueue 7 = .ok (.astore_n 3, 1) := by decide +kernel
theorem dX9_inQueue_8 : decode cX9_inQueue 8 = .ok (.aload_n 3, 1) := by decide +kernel
theorem dX9_inQueue_9 : decode cX9_inQueue 9 = .ok (.iload_n 1, 1) := by decide +kernel
theorem dX9_inQueue_10 : decode cX9_inQueue 10 = .ok (.invokevirtual 120, 3) := by decide +kernel
theorem dX9_inQueue_13 : decode cX9_inQueue 13 = .ok (.ifCond .ne 5, 3) := by decide +kernel
theorem dX9_inQueue_16 : decode cX9_inQueue 16 = .ok (.iconst (-1), 1) := by decide +kernel
theorem dX9_inQueue_17 : decode cX9_inQueue 17 = .ok (.ireturn, 1) := by decide +kernel
theorem dX9_inQueue_18 : decode cX9_inQueue 18 = .ok (.iload_n 2, 1) := by decide +kernel
theorem dX9_inQueue_19 : decode cX9_inQueue 19 = .ok (.tableswitch 148 0 6 #[41, 48, 55, 62, 88, 110, 132], 41) := by decide +kernel
theorem dX9_inQueue_60 : decode cX9_inQueue 60 = .ok (.aload_n 3, 1) := by decide +kernel
theorem dX9_inQueue_61 : decode cX9_inQueue 61 = .ok (.getfield 178, 3) := by decide +kernel
theorem dX9_inQueue_64 : decode cX9_inQueue 64 = .ok (.iload_n 1, 1) := by decide +kernel
theorem dX9_inQueue_65 : decode cX9_inQueue 65 = .ok (.iaload, 1) := by decide +kernel
theorem dX9_inQueue_66 : decode cX9_inQueue 66 = .ok (.ireturn, 1) := by decide +kernel
theorem dX9_inQueue_67 : decode cX9_inQueue 67 = .ok (.aload_n 3, 1) := by decide +kernel
theorem dX9_inQueue_68 : decode cX9_inQueue 68 = .ok (.getfield 179, 3) := by decide +kernel
theorem dX9_inQueue_71 : decode cX9_inQueue 71 = .ok (.iload_n 1, 1) := by decide +kernel
theorem dX9_inQueue_72 : decode cX9_inQueue 72 = .ok (.iaload, 1) := by decide +kernel
theorem dX9_inQueue_73 : decode cX9_inQueue 73 = .ok (.ireturn, 1) := by decide +kernel
theorem dX9_inQueue_74 : decode cX9_inQueue 74 = .ok (.aload_n 3, 1) := by decide +kernel
theorem dX9_inQueue_75 : decode cX9_inQueue 75 = .ok (.getfield 180, 3) := by decide +kernel
theorem dX9_inQueue_78 : decode cX9_inQueue 78 = .ok (.iload_n 1, 1) := by decide +kernel
theorem dX9_inQueue_79 : decode cX9_inQueue 79 = .ok (.iaload, 1) := by decide +kernel
theorem dX9_inQueue_80 : decode cX9_inQueue 80 = .ok (.ireturn, 1) := by decide +kernel
theorem dX9_inQueue_81 : decode cX9_inQueue 81 = .ok (.aload_n 0, 1) := by decide +kernel
theorem dX9_inQueue_82 : decode cX9_inQueue 82 = .ok (.getfield 12, 3) := by decide +kernel
theorem dX9_inQueue_85 : decode cX9_inQueue 85 = .ok (.aload_n 3, 1) := by decide +kernel
theorem dX9_inQueue_86 : decode cX9_inQueue 86 = .ok (.getfield 178, 3) := by decide +kernel
theorem dX9_inQueue_89 : decode cX9_inQueue 89 = .ok (.iload_n 1, 1) := by decide +kernel
theorem dX9_inQueue_90 : decode cX9_inQueue 90 = .ok (.iaload, 1) := by decide +kernel
theorem dX9_inQueue_91 : decode cX9_inQueue 91 = .ok (.aload_n 3, 1) := by decide +kernel
theorem dX9_inQueue_92 : decode cX9_inQueue 92 = .ok (.getfield 179, 3) := by decide +kernel
theorem dX9_inQueue_95 : decode cX9_inQueue 95 = .ok (.iload_n 1, 1) := by decide +kernel
theorem dX9_inQueue_96 : decode cX9_inQueue 96 = .ok (.iaload, 1) := by decide +kernel
theorem dX9_inQueue_97 : decode cX9_inQueue 97 = .ok (.aload_n 3, 1) := by decide +kernel
theorem dX9_inQueue_98 : decode cX9_inQueue 98 = .ok (.getfield 180, 3) := by decide +kernel
theorem dX9_inQueue_101 : decode cX9_inQueue 101 = .ok (.iload_n 1, 1) := by decide +kernel
theorem dX9_inQueue_102 : decode cX9_inQueue 102 = .ok (.iaload, 1) := by decide +kernel
theorem dX9_inQueue_103 : decode cX9_inQueue 103 = .ok (.invokevirtual 181, 3) := by decide +kernel
theorem dX9_inQueue_106 : decode cX9_inQueue 106 = .ok (.ireturn, 1) := by decide +kernel
theorem dX9_inQueue_107 : decode cX9_inQueue 107 = .ok (.aload_n 3, 1) := by decide +kernel
theorem dX9_inQueue_108 : decode cX9_inQueue 108 = .ok (.aload_n 0, 1) := by decide +kernel
theorem dX9_inQueue_109 : decode cX9_inQueue 109 = .ok (.getfield 12, 3) := by decide +kernel
theorem dX9_inQueue_112 : decode cX9_inQueue 112 = .ok (.getfield 56, 3) := by decide +kernel
theorem dX9_inQueue_115 : decode cX9_inQueue 115 = .ok (.getfield 99, 3) := by decide +kernel
theorem dX9_inQueue_118 : decode cX9_inQueue 118 = .ok (.invokevirtual 184, 3) := by decide +kernel
theorem dX9_inQueue_121 : decode cX9_inQueue 121 = .ok (.iload_n 1, 1) := by decide +kernel
theorem dX9_inQueue_122 : decode cX9_inQueue 122 = .ok (.invokestatic 169, 3) := by decide +kernel
theorem dX9_inQueue_125 : decode cX9_inQueue 125 = .ok (.invokestatic 159, 3) := by decide +kernel
theorem dX9_inQueue_128 : decode cX9_inQueue 128 = .ok (.ireturn, 1) := by decide +kernel
theorem dX9_inQueue_129 : decode cX9_inQueue 129 = .ok (.aload_n 3, 1) := by decide +kernel
theorem dX9_inQueue_130 : decode cX9_inQueue 130 = .ok (.aload_n 0, 1) := by decide +kernel
theorem dX9_inQueue_131 : decode cX9_inQueue 131 = .ok (.getfield 12, 3) := by decide +kernel
theorem dX9_inQueue_134 : decode cX9_inQueue 134 = .ok (.getfield 56, 3) := by decide +kernel
theorem dX9_inQueue_137 : decode cX9_inQueue 137 = .ok (.getfield 166, 3) := by decide +kernel
theorem dX9_inQueue_140 : decode cX9_inQueue 140 = .ok (.invokevirtual 187, 3) := by decide +kernel
theorem dX9_inQueue_143 : decode cX9_inQueue 143 = .ok (.iload_n 1, 1) := by decide +kernel
theorem dX9_inQueue_144 : decode cX9_inQueue 144 = .ok (.invokestatic 169, 3) := by decide +kernel
theorem dX9_inQueue_147 : decode cX9_inQueue 147 = .ok (.invokestatic 159, 3) := by decide +kernel
theorem dX9_inQueue_150 : decode cX9_inQueue 150 = .ok (.ireturn, 1) := by decide +kernel
theorem dX9_inQueue_151 : decode cX9_inQueue 151 = .ok (.aload_n 3, 1) := by decide +kernel
theorem dX9_inQueue_152 : decode cX9_inQueue 152 = .ok (.iload_n 1, 1) := by decide +kernel
theorem dX9_inQueue_153 : decode cX9_inQueue 153 = .ok (.aload_n 0, 1) := by decide +kernel
theorem dX9_inQueue_154 : decode cX9_inQueue 154 = .ok (.getfield 12, 3) := by decide +kernel
theorem dX9_inQueue_157 : decode cX9_inQueue 157 = .ok (.getfield 56, 3) := by decide +kernel
theorem dX9_inQueue_160 : decode cX9_inQueue 160 = .ok (.getfield 163, 3) := by decide +kernel
theorem dX9_inQueue_163 : decode cX9_inQueue 163 = .ok (.invokevirtual 190, 3) := by decide +kernel
theorem dX9_inQueue_166 : decode cX9_inQueue 166 = .ok (.ireturn, 1) := by decide +kernel
theorem dX9_inQueue_167 : decode cX9_inQueue 167 = .ok (.bipush (-2), 2) := by decide +kernel
theorem dX9_inQueue_169 : decode cX9_inQueue 169 = .ok (.ireturn, 1) := by decide +kernel
set_option maxRecDepth 20000 in
theorem ggX9_key_X0_errorOfNames : GoodIn wsX9_key wsX0_errorOfNames := goodIn_r _ [6, 7, 8, 9, 10, 11, 12, 13, 14, 15, 16, 17, 18, 19, 20, 21, 22, 23, 54, 55, 56, 57, 58, 59, 60, 61, 62, 63, 64, 65, 66, 67, 68, 69, 70, 71] (by decide +kernel) (by decide +kernel)
set_option maxRecDepth 20000 in
theorem gX9_key_X0_errorOfNames : GoodIn wsX9_key (wsV RX9 194 RX0 yX0_errorOfNames wsX0_errorOfNames) := goodIn_app (goodIn_of _ (by decide +kernel)) ggX9_key_X0_errorOfNames
set_option maxRecDepth 20000 in
theorem ggX9_key_X0_keyAndTen : GoodIn wsX9_key wsX0_keyAndTen := goodIn_r _ [27, 7, 28, 29, 30, 31, 32, 33, 34, 35, 36, 8, 37, 38, 39, 21, 40, 41, 42, 43, 44, 45, 46, 54, 55, 56, 57, 58, 59, 60, 61, 62, 63, 64, 65, 66, 67, 68, 69, 70, 71] (by decide +kernel) (by decide +kernel)
set_option maxRecDepth 20000 in
theorem gX9_key_X0_keyAndTen : GoodIn wsX9_key (wsV RX9 181 RX0 yX0_keyAndTen wsX0_keyAndTen) := goodIn_app (goodIn_of _ (by decide +kernel)) ggX9_key_X0_keyAndTen
theorem dX9_key_0 : decode cX9_key 0 = .ok (.aload_n 0, 1) := by decide +kernel
theorem dX9_key_1 : decode cX9_key 1 = .ok (.getfield 12, 3) := by decide +kernel
theorem dX9_key_4 : decode cX9_key 4 = .ok (.iload_n 1, 1) := by decide +kernel
theorem dX9_key_5 : decode cX9_key 5 = .ok (.iload_n 2, 1) := by decide +kernel
theorem dX9_key_6 : decode cX9_key 6 = .ok (.iload_n 3, 1) := by decide +kernel
theorem dX9_key_7 : decode cX9_key 7 = .ok (.invokevirtual 194, 3) := by decide +kernel
theorem dX9_key_10 : decode cX9_key 10 = .ok (.istore 4, 2) := by decide +kernel
theorem dX9_key_12 : decode cX9_key 12 = .ok (.iload 4, 2) := by decide +kernel
theorem dX9_key_14 : decode cX9_key 14 = .ok (.ifCond .eq 6, 3) := by decide +kernel
theorem dX9_key_17 : decode cX9_key 17 = .ok (.iload 4, 2) := by decide +kernel
theorem dX9_key_19 : decode cX9_key 19 = .ok (.ireturn, 1) := by decide +kernel
theorem dX9_key_20 : decode cX9_key 20 = .ok (.aload_n 0, 1) := by decide +kernel
theorem dX9_key_21 : decode cX9_key 21 = .ok (.getfield 12, 3) := by decide +kernel
theorem dX9_key_24 : decode cX9_key 24 = .ok (.iload_n 1, 1) := by decide +kernel
theorem dX9_key_25 : decode cX9_key 25 = .ok (.iload_n 2, 1) := by decide +kernel
theorem dX9_key_26 : decode cX9_key 26 = .ok (.iload_n 3, 1) := by decide +kernel
theorem dX9_key_27 : decode cX9_key 27 = .ok (.invokevirtual 181, 3) := by decide +kernel
theorem dX9_key_30 : decode cX9_key 30 = .ok (.ireturn, 1) := by decide +kernel
set_option maxRecDepth 20000 in
theorem ggX9_ofSong_X7_has : GoodIn wsX9_ofSong wsX7_has := goodIn_r _ [11, 12, 13, 14, 15, 60, 61, 62, 63, 64] (by decide +kernel) (by decide +kernel)
set_option maxRecDepth 20000 in
theorem gX9_ofSong_X7_has : GoodIn wsX9_ofSong (wsV RX9 197 RX7 yX7_has wsX7_has) := goodIn_app (goodIn_of _ (by decide +kernel)) ggX9_ofSong_X7_has
set_option maxRecDepth 20000 in
theorem ggX9_ofSong_X0_singersWithKey : GoodIn wsX9_ofSong wsX0_singersWithKey := goodIn_r _ [20, 21, 22, 23, 24, 25, 19, 26, 27, 28, 29, 30, 31, 32, 33, 34, 35, 36, 37, 38, 39, 10, 40, 41, 42, 43, 44, 45, 46, 54, 55, 56, 57, 58, 59, 65, 66, 67, 68, 69, 70, 71, 60, 61, 62, 63, 64] (by decide +kernel) (by decide +kernel)
set_option maxRecDepth 20000 in
theorem gX9_ofSong_X0_singersWithKey : GoodIn wsX9_ofSong (wsV RX9 202 RX0 yX0_singersWithKey wsX0_singersWithKey) := goodIn_app (goodIn_of _ (by decide +kernel)) ggX9_ofSong_X0_singersWithKey
theorem dX9_ofSong_0 : decode cX9_ofSong 0 = .ok (.aload_n 0, 1) := by decide +kernel
theorem dX9_ofSong_1 : decode cX9_ofSong 1 = .ok (.getfield 12, 3) := by decide +kernel
theorem dX9_ofSong_4 : decode cX9_ofSong 4 = .ok (.getfield 78, 3) := by decide +kernel
theorem dX9_ofSong_7 : decode cX9_ofSong 7 = .ok (.astore_n 3, 1) := by decide +kernel
theorem dX9_ofSong_8 : decode cX9_ofSong 8 = .ok (.aload_n 3, 1) := by decide +kernel
theorem dX9_ofSong_9 : decode cX9_ofSong 9 = .ok (.iload_n 1, 1) := by decide +kernel
theorem dX9_ofSong_10 : decode cX9_ofSong 10 = .ok (.invokevirtual 197, 3) := by decide +kernel
theorem dX9_ofSong_13 : decode cX9_ofSong 13 = .ok (.ifCond .ne 5, 3) := by decide +kernel
theorem dX9_ofSong_16 : decode cX9_ofSong 16 = .ok (.iconst (-1), 1) := by decide +kernel
theorem dX9_ofSong_17 : decode cX9_ofSong 17 = .ok (.ireturn, 1) := by decide +kernel
theorem dX9_ofSong_18 : decode cX9_ofSong 18 = .ok (.iload_n 2, 1) := by decide +kernel
theorem dX9_ofSong_19 : decode cX9_ofSong 19 = .ok (.tableswitch 70 0 4 #[33, 40, 47, 54, 63], 33) := by decide +kernel
theorem dX9_ofSong_52 : decode cX9_ofSong 52 = .ok (.aload_n 3, 1) := by decide +kernel
theorem dX9_ofSong_53 : decode cX9_ofSong 53 = .ok (.getfield 198, 3) := by decide +kernel
theorem dX9_ofSong_56 : decode cX9_ofSong 56 = .ok (.iload_n 1, 1) := by decide +kernel
theorem dX9_ofSong_57 : decode cX9_ofSong 57 = .ok (.iaload, 1) := by decide +kernel
theorem dX9_ofSong_58 : decode cX9_ofSong 58 = .ok (.ireturn, 1) := by decide +kernel
theorem dX9_ofSong_59 : decode cX9_ofSong 59 = .ok (.aload_n 3, 1) := by decide +kernel
theorem dX9_ofSong_60 : decode cX9_ofSong 60 = .ok (.getfield 199, 3) := by decide +kernel
theorem dX9_ofSong_63 : decode cX9_ofSong 63 = .ok (.iload_n 1, 1) := by decide +kernel
theorem dX9_ofSong_64 : decode cX9_ofSong 64 = .ok (.iaload, 1) := by decide +kernel
theorem dX9_ofSong_65 : decode cX9_ofSong 65 = .ok (.ireturn, 1) := by decide +kernel
theorem dX9_ofSong_66 : decode cX9_ofSong 66 = .ok (.aload_n 3, 1) := by decide +kernel
theorem dX9_ofSong_67 : decode cX9_ofSong 67 = .ok (.getfield 200, 3) := by decide +kernel
theorem dX9_ofSong_70 : decode cX9_ofSong 70 = .ok (.iload_n 1, 1) := by decide +kernel
theorem dX9_ofSong_71 : decode cX9_ofSong 71 = .ok (.iaload, 1) := by decide +kernel
theorem dX9_ofSong_72 : decode cX9_ofSong 72 = .ok (.ireturn, 1) := by decide +kernel
theorem dX9_ofSong_73 : decode cX9_ofSong 73 = .ok (.aload_n 0, 1) := by decide +kernel
theorem dX9_ofSong_74 : decode cX9_ofSong 74 = .ok (.getfield 12, 3) := by decide +kernel
theorem dX9_ofSong_77 : decode cX9_ofSong 77 = .ok (.iload_n 1, 1) := by decide +kernel
theorem dX9_ofSong_78 : decode cX9_ofSong 78 = .ok (.invokevirtual 202, 3) := by decide +kernel
theorem dX9_ofSong_81 : decode cX9_ofSong 81 = .ok (.ireturn, 1) := by decide +kernel
theorem dX9_ofSong_82 : decode cX9_ofSong 82 = .ok (.aload_n 3, 1) := by decide +kernel
theorem dX9_ofSong_83 : decode cX9_ofSong 83 = .ok (.getfield 205, 3) := by decide +kernel
theorem dX9_ofSong_86 : decode cX9_ofSong 86 = .ok (.iload_n 1, 1) := by decide +kernel
theorem dX9_ofSong_87 : decode cX9_ofSong 87 = .ok (.iaload, 1) := by decide +kernel
theorem dX9_ofSong_88 : decode cX9_ofSong 88 = .ok (.ireturn, 1) := by decide +kernel
theorem dX9_ofSong_89 : decode cX9_ofSong 89 = .ok (.bipush (-2), 2) := by decide +kernel
theorem dX9_ofSong_91 : decode cX9_ofSong 91 = .ok (.ireturn, 1) := by decide +kernel
set_option maxRecDepth 20000 in
theorem ggX9_past_X9_isBetween : GoodIn wsX9_past wsX9_isBetween := goodIn_r _ [11] (by decide +kernel) (by decide +kernel)
set_option maxRecDepth 20000 in
theorem gX9_past_X9_isBetween : GoodIn wsX9_past (va_wsS RX9 74 yX9_isBetween wsX9_isBetween) := goodIn_app (goodIn_of _ (by decide +kernel)) ggX9_past_X9_isBetween
theorem dX9_past_0 : decode cX9_past 0 = .ok (.aload_n 0, 1) := by decide +kernel
theorem dX9_past_1 : decode cX9_past 1 = .ok (.getfield 12, 3) := by decide +kernel
theorem dX9_past_4 : decode cX9_past 4 = .ok (.getfield 208, 3) := by decide +kernel
theorem dX9_past_7 : decode cX9_past 7 = .ok (.astore_n 3, 1) := by decide +kernel
theorem dX9_past_8 : decode cX9_past 8 = .ok (.iload_n 1, 1) := by decide +kernel
theorem dX9_past_9 : decode cX9_past 9 = .ok (.iconst 0, 1) := by decide +kernel
theorem dX9_past_10 : decode cX9_past 10 = .ok (.aload_n 3, 1) := by decide +kernel
theorem dX9_past_11 : decode cX9_past 11 = .ok (.getfield 212, 3) := by decide +kernel
theorem dX9_past_14 : decode cX9_past 14 = .ok (.iconst 1, 1) := by decide +kernel
theorem dX9_past_15 : decode cX9_past 15 = .ok (.isub, 1) := by decide +kernel
theorem dX9_past_16 : decode cX9_past 16 = .ok (.invokestatic 74, 3) := by decide +kernel
theorem dX9_past_19 : decode cX9_past 19 = .ok (.ifCond .ne 5, 3) := by decide +kernel
theorem dX9_past_22 : decode cX9_past 22 = .ok (.iconst (-1), 1) := by decide +kernel
theorem dX9_past_23 : decode cX9_past 23 = .ok (.ireturn, 1) := by decide +kernel
theorem dX9_past_24 : decode cX9_past 24 = .ok (.iload_n 2, 1) := by decide +kernel
theorem dX9_past_25 : decode cX9_past 25 = .ok (.tableswitch 59 0 3 #[31, 38, 45, 52], 31) := by decide +kernel
theorem dX9_past_56 : decode cX9_past 56 = .ok (.aload_n 3, 1) := by decide +kernel
theorem dX9_past_57 : decode cX9_past 57 = .ok (.getfield 215, 3) := by decide +kernel
theorem dX9_past_60 : decode cX9_past 60 = .ok (.iload_n 1, 1) := by decide +kernel
theorem dX9_past_61 : decode cX9_past 61 = .ok (.iaload, 1) := by decide +kernel
theorem dX9_past_62 : decode cX9_past 62 = .ok (.ireturn, 1) := by decide +kernel
theorem dX9_past_63 : decode cX9_past 63 = .ok (.aload_n 3, 1) := by decide +kernel
theorem dX9_past_64 : decode cX9_past 64 = .ok (.getfield 216, 3) := by decide +kernel
theorem dX9_past_67 : decode cX9_past 67 = .ok (.iload_n 1, 1) := by decide +kernel
theorem dX9_past_68 : decode cX9_past 68 = .ok (.iaload, 1) := by decide +kernel
theorem dX9_past_69 : decode cX9_past 69 = .ok (.ireturn, 1) := by decide +kernel
theorem dX9_past_70 : decode cX9_past 70 = .ok (.aload_n 3, 1) := by decide +kernel
theorem dX9_past_71 : decode cX9_past 71 = .ok (.getfield 217, 3) := by decide +kernel
theorem dX9_past_74 : decode cX9_past 74 = .ok (.iload_n 1, 1) := by decide +kernel
theorem dX9_past_75 : decode cX9_past 75 = .ok (.iaload, 1) := by decide +kernel
theorem dX9_past_76 : decode cX9_past 76 = .ok (.ireturn, 1) := by decide +kernel
theorem dX9_past_77 : decode cX9_past 77 = .ok (.aload_n 3, 1) := by decide +kernel
theorem dX9_past_78 : decode cX9_past 78 = .ok (.getfield 218, 3) := by decide +kernel
theorem dX9_past_81 : decode cX9_past 81 = .ok (.iload_n 1, 1) := by decide +kernel
theorem dX9_past_82 : decode cX9_past 82 = .ok (.iaload, 1) := by decide +kernel
theorem dX9_past_83 : decode cX9_past 83 = .ok (.ireturn, 1) := by decide +kernel
theorem dX9_past_84 : decode cX9_past 84 = .ok (.bipush (-2), 2) := by decide +kernel
theorem dX9_past_86 : decode cX9_past 86 = .ok (.ireturn, 1) := by decide +kernel
set_option maxRecDepth 20000 in
theorem ggX9_count_X8_readyOnes : GoodIn wsX9_count wsX8_readyOnes := goodIn_r _ [20, 21, 22, 23, 19, 24, 25, 26, 27, 28, 29, 30, 31, 98, 99, 100, 101] (by decide +kernel) (by decide +kernel)
set_option maxRecDepth 20000 in
theorem gX9_count_X8_readyOnes : GoodIn wsX9_count (wsV RX9 184 RX8 yX8_readyOnes wsX8_readyOnes) := goodIn_app (goodIn_of _ (by decide +kernel)) ggX9_count_X8_readyOnes
set_option maxRecDepth 20000 in
theorem ggX9_count_J6_bitCount_0f7a4 : GoodIn wsX9_count wsJ6_bitCount_0f7a4 := goodIn_r _ [35, 36, 37, 38] (by decide +kernel) (by decide +kernel)
set_option maxRecDepth 20000 in
theorem gX9_count_J6_bitCount_0f7a4 : GoodIn wsX9_count (va_wsS RX9 102 yJ6_bitCount_0f7a4 wsJ6_bitCount_0f7a4) := goodIn_app (goodIn_of _ (by decide +kernel)) ggX9_count_J6_bitCount_0f7a4
set_option maxRecDepth 20000 in
theorem ggX9_count_X0_nextWish : GoodIn wsX9_count wsX0_nextWish := goodIn_r _ [43, 44, 45, 46, 47, 48, 49, 17, 18, 19, 20, 21, 22, 23, 24, 25, 26, 27, 28, 29, 30, 31, 50, 51, 52, 53, 54, 55, 56, 57, 58, 59, 60, 61, 62, 63, 64, 65, 66, 67, 68, 69, 70, 71, 72, 80, 81, 82, 83, 84, 85, 86, 87, 88, 89, 90, 91, 92, 98, 99, 100, 101] (by decide +kernel) (by decide +kernel)
set_option maxRecDepth 20000 in
theorem gX9_count_X0_nextWish : GoodIn wsX9_count (wsV RX9 125 RX0 yX0_nextWish wsX0_nextWish) := goodIn_app (goodIn_of _ (by decide +kernel)) ggX9_count_X0_nextWish
theorem dX9_count_0 : decode cX9_count 0 = .ok (.iload_n 1, 1) := by decide +kernel
theorem dX9_count_1 : decode cX9_count 1 = .ok (.tableswitch 178 0 10 #[59, 70, 81, 92, 103, 127, 135, 143, 151, 162, 170], 59) := by decide +kernel
theorem dX9_count_60 : decode cX9_count 60 = .ok (.aload_n 0, 1) := by decide +kernel
theorem dX9_count_61 : decode cX9_count 61 = .ok (.getfield 12, 3) := by decide +kernel
theorem dX9_count_64 : decode cX9_count 64 = .ok (.getfield 56, 3) := by decide +kernel
theorem dX9_count_67 : decode cX9_count 67 = .ok (.getfield 60, 3) := by decide +kernel
theorem dX9_count_70 : decode cX9_count 70 = .ok (.ireturn, 1) := by decide +kernel
theorem dX9_count_71 : decode cX9_count 71 = .ok (.aload_n 0, 1) := by decide +kernel
theorem dX9_count_72 : decode cX9_count 72 = .ok (.getfield 12, 3) := by decide +kernel
theorem dX9_count_75 : decode cX9_count 75 = .ok (.getfield 56, 3) := by decide +kernel
theorem dX9_count_78 : decode cX9_count 78 = .ok (.getfield 99, 3) := by decide +kernel
theorem dX9_count_81 : decode cX9_count 81 = .ok (.ireturn, 1) := by decide +kernel
theorem dX9_count_82 : decode cX9_count 82 = .ok (.aload_n 0, 1) := by decide +kernel
theorem dX9_count_83 : decode cX9_count 83 = .ok (.getfield 12, 3) := by decide +kernel
theorem dX9_count_86 : decode cX9_count 86 = .ok (.getfield 78, 3) := by decide +kernel
theorem dX9_count_89 : decode cX9_count 89 = .ok (.getfield 82, 3) := by decide +kernel
theorem dX9_count_92 : decode cX9_count 92 = .ok (.ireturn, 1) := by decide +kernel
theorem dX9_count_93 : decode cX9_count 93 = .ok (.aload_n 0, 1) := by decide +kernel
theorem dX9_count_94 : decode cX9_count 94 = .ok (.getfield 12, 3) := by decide +kernel
theorem dX9_count_97 : decode cX9_count 97 = .ok (.getfield 108, 3) := by decide +kernel
theorem dX9_count_100 : decode cX9_count 100 = .ok (.getfield 112, 3) := by decide +kernel
theorem dX9_count_103 : decode cX9_count 103 = .ok (.ireturn, 1) := by decide +kernel
theorem dX9_count_104 : decode cX9_count 104 = .ok (.aload_n 0, 1) := by decide +kernel
theorem dX9_count_105 : decode cX9_count 105 = .ok (.getfield 12, 3) := by decide +kernel
theorem dX9_count_108 : decode cX9_count 108 = .ok (.getfield 108, 3) := by decide +kernel
theorem dX9_count_111 : decode cX9_count 111 = .ok (.aload_n 0, 1) := by decide +kernel
theorem dX9_count_112 : decode cX9_count 112 = .ok (.getfield 12, 3) := by decide +kernel
theorem dX9_count_115 : decode cX9_count 115 = .ok (.getfield 56, 3) := by decide +kernel
theorem dX9_count_118 : decode cX9_count 118 = .ok (.getfield 99, 3) := by decide +kernel
theorem dX9_count_121 : decode cX9_count 121 = .ok (.invokevirtual 184, 3) := by decide +kernel
theorem dX9_count_124 : decode cX9_count 124 = .ok (.invokestatic 102, 3) := by decide +kernel
theorem dX9_count_127 : decode cX9_count 127 = .ok (.ireturn, 1) := by decide +kernel
theorem dX9_count_128 : decode cX9_count 128 = .ok (.aload_n 0, 1) := by decide +kernel
theorem dX9_count_129 : decode cX9_count 129 = .ok (.getfield 12, 3) := by decide +kernel
theorem dX9_count_132 : decode cX9_count 132 = .ok (.invokevirtual 125, 3) := by decide +kernel
theorem dX9_count_135 : decode cX9_count 135 = .ok (.ireturn, 1) := by decide +kernel
theorem dX9_count_136 : decode cX9_count 136 = .ok (.aload_n 0, 1) := by decide +kernel
theorem dX9_count_137 : decode cX9_count 137 = .ok (.getfield 12, 3) := by decide +kernel
theorem dX9_count_140 : decode cX9_count 140 = .ok (.getfield 221, 3) := by decide +kernel
theorem dX9_count_143 : decode cX9_count 143 = .ok (.ireturn, 1) := by decide +kernel
theorem dX9_count_144 : decode cX9_count 144 = .ok (.aload_n 0, 1) := by decide +kernel
theorem dX9_count_145 : decode cX9_count 145 = .ok (.getfield 12, 3) := by decide +kernel
theorem dX9_count_148 : decode cX9_count 148 = .ok (.getfield 224, 3) := by decide +kernel
theorem dX9_count_151 : decode cX9_count 151 = .ok (.ireturn, 1) := by decide +kernel
theorem dX9_count_152 : decode cX9_count 152 = .ok (.aload_n 0, 1) := by decide +kernel
theorem dX9_count_153 : decode cX9_count 153 = .ok (.getfield 12, 3) := by decide +kernel
theorem dX9_count_156 : decode cX9_count 156 = .ok (.getfield 56, 3) := by decide +kernel
theorem dX9_count_159 : decode cX9_count 159 = .ok (.getfield 166, 3) := by decide +kernel
theorem dX9_count_162 : decode cX9_count 162 = .ok (.ireturn, 1) := by decide +kernel
theorem dX9_count_163 : decode cX9_count 163 = .ok (.aload_n 0, 1) := by decide +kernel
theorem dX9_count_164 : decode cX9_count 164 = .ok (.getfield 34, 3) := by decide +kernel
theorem dX9_count_167 : decode cX9_count 167 = .ok (.getfield 150, 3) := by decide +kernel
theorem dX9_count_170 : decode cX9_count 170 = .ok (.ireturn, 1) := by decide +kernel
theorem dX9_count_171 : decode cX9_count 171 = .ok (.aload_n 0, 1) := by decide +kernel
theorem dX9_count_172 : decode cX9_count 172 = .ok (.getfield 19, 3) := by decide +kernel
theorem dX9_count_175 : decode cX9_count 175 = .ok (.getfield 227, 3) := by decide +kernel
theorem dX9_count_178 : decode cX9_count 178 = .ok (.ireturn, 1) := by decide +kernel
theorem dX9_count_179 : decode cX9_count 179 = .ok (.bipush (-2), 2) := by decide +kernel
theorem dX9_count_181 : decode cX9_count 181 = .ok (.ireturn, 1) := by decide +kernel
set_option maxRecDepth 20000 in
theorem ggX9_turnOf_X8_has : GoodIn wsX9_turnOf wsX8_has := goodIn_r _ [10, 11, 12, 13, 14, 112, 113, 114, 115] (by decide +kernel) (by decide +kernel)
set_option maxRecDepth 20000 in
theorem gX9_turnOf_X8_has : GoodIn wsX9_turnOf (wsV RX9 120 RX8 yX8_has wsX8_has) := goodIn_app (goodIn_of _ (by decide +kernel)) ggX9_turnOf_X8_has
set_option maxRecDepth 20000 in
theorem ggX9_turnOf_X9_isBetween : GoodIn wsX9_turnOf wsX9_isBetween := goodIn_r _ [14] (by decide +kernel) (by decide +kernel)
set_option maxRecDepth 20000 in
theorem gX9_turnOf_X9_isBetween : GoodIn wsX9_turnOf (va_wsS RX9 74 yX9_isBetween wsX9_isBetween) := goodIn_app (goodIn_of _ (by decide +kernel)) ggX9_turnOf_X9_isBetween
set_option maxRecDepth 20000 in
theorem ggX9_turnOf_X0_isReady : GoodIn wsX9_turnOf wsX0_isReady := goodIn_r _ [20, 21, 22, 23, 24, 25, 26, 9, 27, 28, 29, 30, 31, 11, 32, 33, 34, 35, 36, 37, 38, 13, 39, 103, 104, 105, 106, 107, 108, 116, 117, 118, 119, 120, 121, 122, 112, 113, 114, 115] (by decide +kernel) (by decide +kernel)
set_option maxRecDepth 20000 in
theorem gX9_turnOf_X0_isReady : GoodIn wsX9_turnOf (wsV RX9 228 RX0 yX0_isReady wsX0_isReady) := goodIn_app (goodIn_of _ (by decide +kernel)) ggX9_turnOf_X0_isReady
set_option maxRecDepth 20000 in
theorem ggX9_turnOf_X5_lookAhead : GoodIn wsX9_turnOf wsX5_lookAhead := goodIn_r _ [44, 45, 46, 47, 48, 49, 50, 51, 52, 53, 54, 13, 55, 56, 57, 58, 59, 60, 61, 62, 63, 64, 25, 26, 9, 27, 28, 29, 30, 31, 11, 32, 33, 34, 35, 36, 37, 65, 66, 67, 68, 69, 70, 71, 72, 73, 74, 75, 76, 38, 39, 77, 78, 79, 80, 81, 82, 83, 84, 85, 86, 19, 87, 88, 89, 21, 90, 91, 92, 93, 94, 43, 95, 103, 104, 105, 106, 107, 108, 116, 117, 118, 119, 120, 121, 122, 109, 110, 111, 112, 113, 114, 115, 123, 124, 125, 126, 127] (by decide +kernel) (by decide +kernel)
set_option maxRecDepth 20000 in
theorem gX9_turnOf_X5_lookAhead : GoodIn wsX9_turnOf (wsV RX9 231 RX5 yX5_lookAhead wsX5_lookAhead) := goodIn_app (goodIn_of _ (by decide +kernel)) ggX9_turnOf_X5_lookAhead
theorem dX9_turnOf_0 : decode cX9_turnOf 0 = .ok (.aload_n 0, 1) := by decide +kernel
theorem dX9_turnOf_1 : decode cX9_turnOf 1 = .ok (.getfield 12, 3) := by decide +kernel
theorem dX9_turnOf_4 : decode cX9_turnOf 4 = .ok (.getfield 108, 3) := by decide +kernel
theorem dX9_turnOf_7 : decode cX9_turnOf 7 = .ok (.iload_n 1, 1) := by decide +kernel
theorem dX9_turnOf_8 : decode cX9_turnOf 8 = .ok (.invokevirtual 120, 3) := by decide +kernel
theorem dX9_turnOf_11 : decode cX9_turnOf 11 = .ok (.ifCond .ne 5, 3) := by decide +kernel
theorem dX9_turnOf_14 : decode cX9_turnOf 14 = .ok (.iconst (-1), 1) := by decide +kernel
theorem dX9_turnOf_15 : decode cX9_turnOf 15 = .ok (.ireturn, 1) := by decide +kernel
theorem dX9_turnOf_16 : decode cX9_turnOf 16 = .ok (.iload_n 2, 1) := by decide +kernel
theorem dX9_turnOf_17 : decode cX9_turnOf 17 = .ok (.iconst 0, 1) := by decide +kernel
theorem dX9_turnOf_18 : decode cX9_turnOf 18 = .ok (.iconst 1, 1) := by decide +kernel
theorem dX9_turnOf_19 : decode cX9_turnOf 19 = .ok (.invokestatic 74, 3) := by decide +kernel
theorem dX9_turnOf_22 : decode cX9_turnOf 22 = .ok (.ifCond .ne 6, 3) := by decide +kernel
theorem dX9_turnOf_25 : decode cX9_turnOf 25 = .ok (.bipush (-2), 2) := by decide +kernel
theorem dX9_turnOf_27 : decode cX9_turnOf 27 = .ok (.ireturn, 1) := by decide +kernel
theorem dX9_turnOf_28 : decode cX9_turnOf 28 = .ok (.aload_n 0, 1) := by decide +kernel
theorem dX9_turnOf_29 : decode cX9_turnOf 29 = .ok (.getfield 12, 3) := by decide +kernel
theorem dX9_turnOf_32 : decode cX9_turnOf 32 = .ok (.iload_n 1, 1) := by decide +kernel
theorem dX9_turnOf_33 : decode cX9_turnOf 33 = .ok (.invokevirtual 228, 3) := by decide +kernel
theorem dX9_turnOf_36 : decode cX9_turnOf 36 = .ok (.ifCond .ne 6, 3) := by decide +kernel
theorem dX9_turnOf_39 : decode cX9_turnOf 39 = .ok (.bipush (-6), 2) := by decide +kernel
theorem dX9_turnOf_41 : decode cX9_turnOf 41 = .ok (.ireturn, 1) := by decide +kernel
theorem dX9_turnOf_42 : decode cX9_turnOf 42 = .ok (.aload_n 0, 1) := by decide +kernel
theorem dX9_turnOf_43 : decode cX9_turnOf 43 = .ok (.getfield 48, 3) := by decide +kernel
theorem dX9_turnOf_46 : decode cX9_turnOf 46 = .ok (.aload_n 0, 1) := by decide +kernel
theorem dX9_turnOf_47 : decode cX9_turnOf 47 = .ok (.getfield 12, 3) := by decide +kernel
theorem dX9_turnOf_50 : decode cX9_turnOf 50 = .ok (.iload_n 1, 1) := by decide +kernel
theorem dX9_turnOf_51 : decode cX9_turnOf 51 = .ok (.bipush (-6), 2) := by decide +kernel
theorem dX9_turnOf_53 : decode cX9_turnOf 53 = .ok (.invokevirtual 231, 3) := by decide +kernel
theorem dX9_turnOf_56 : decode cX9_turnOf 56 = .ok (.iload_n 2, 1) := by decide +kernel
theorem dX9_turnOf_57 : decode cX9_turnOf 57 = .ok (.ifCond .ne 13, 3) := by decide +kernel
theorem dX9_turnOf_60 : decode cX9_turnOf 60 = .ok (.aload_n 0, 1) := by decide +kernel
theorem dX9_turnOf_61 : decode cX9_turnOf 61 = .ok (.getfield 48, 3) := by decide +kernel
theorem dX9_turnOf_64 : decode cX9_turnOf 64 = .ok (.getfield 235, 3) := by decide +kernel
theorem dX9_turnOf_67 : decode cX9_turnOf 67 = .ok (.goto 10, 3) := by decide +kernel
theorem dX9_turnOf_70 : decode cX9_turnOf 70 = .ok (.aload_n 0, 1) := by decide +kernel
theorem dX9_turnOf_71 : decode cX9_turnOf 71 = .ok (.getfield 48, 3) := by decide +kernel
theorem dX9_turnOf_74 : decode cX9_turnOf 74 = .ok (.getfield 238, 3) := by decide +kernel
theorem dX9_turnOf_77 : decode cX9_turnOf 77 = .ok (.ireturn, 1) := by decide +kernel
set_option maxRecDepth 20000 in
theorem ggX9_endOfAll_X8_readyOnes : GoodIn wsX9_endOfAll wsX8_readyOnes := goodIn_r _ [11, 12, 13, 14, 10, 15, 16, 17, 18, 19, 20, 21, 22, 56, 57, 58, 59] (by decide +kernel) (by decide +kernel)
set_option maxRecDepth 20000 in
theorem gX9_endOfAll_X8_readyOnes : GoodIn wsX9_endOfAll (wsV RX9 184 RX8 yX8_readyOnes wsX8_readyOnes) := goodIn_app (goodIn_of _ (by decide +kernel)) ggX9_endOfAll_X8_readyOnes
set_option maxRecDepth 20000 in
theorem ggX9_endOfAll_X9_isIn : GoodIn wsX9_endOfAll wsX9_isIn := goodIn_r _ [26] (by decide +kernel) (by decide +kernel)
set_option maxRecDepth 20000 in
theorem gX9_endOfAll_X9_isIn : GoodIn wsX9_endOfAll (va_wsS RX9 169 yX9_isIn wsX9_isIn) := goodIn_app (goodIn_of _ (by decide +kernel)) ggX9_endOfAll_X9_isIn
set_option maxRecDepth 20000 in
theorem ggX9_endOfAll_X0_lengthOfWish : GoodIn wsX9_endOfAll wsX0_lengthOfWish := goodIn_r _ [31, 32, 33, 34, 35, 43, 44, 45, 46, 47, 48, 60, 61, 62, 63, 64, 56, 57, 58, 59] (by decide +kernel) (by decide +kernel)
set_option maxRecDepth 20000 in
theorem gX9_endOfAll_X0_lengthOfWish : GoodIn wsX9_endOfAll (wsV RX9 239 RX0 yX0_lengthOfWish wsX0_lengthOfWish) := goodIn_app (goodIn_of _ (by decide +kernel)) ggX9_endOfAll_X0_lengthOfWish
theorem dX9_endOfAll_0 : decode cX9_endOfAll 0 = .ok (.aload_n 0, 1) := by decide +kernel
theorem dX9_endOfAll_1 : decode cX9_endOfAll 1 = .ok (.getfield 12, 3) := by decide +kernel
theorem dX9_endOfAll_4 : decode cX9_endOfAll 4 = .ok (.getfield 108, 3) := by decide +kernel
theorem dX9_endOfAll_7 : decode cX9_endOfAll 7 = .ok (.aload_n 0, 1) := by decide +kernel
theorem dX9_endOfAll_8 : decode cX9_endOfAll 8 = .ok (.getfield 12, 3) := by decide +kernel
theorem dX9_endOfAll_11 : decode cX9_endOfAll 11 = .ok (.getfield 56, 3) := by decide +kernel
theorem dX9_endOfAll_14 : decode cX9_endOfAll 14 = .ok (.getfield 99, 3) := by decide +kernel
theorem dX9_endOfAll_17 : decode cX9_endOfAll 17 = .ok (.invokevirtual 184, 3) := by decide +kernel
theorem dX9_endOfAll_20 : decode cX9_endOfAll 20 = .ok (.istore_n 1, 1) := by decide +kernel
theorem dX9_endOfAll_21 : decode cX9_endOfAll 21 = .ok (.aload_n 0, 1) := by decide +kernel
theorem dX9_endOfAll_22 : decode cX9_endOfAll 22 = .ok (.getfield 12, 3) := by decide +kernel
theorem dX9_endOfAll_25 : decode cX9_endOfAll 25 = .ok (.getfield 221, 3) := by decide +kernel
theorem dX9_endOfAll_28 : decode cX9_endOfAll 28 = .ok (.istore_n 2, 1) := by decide +kernel
theorem dX9_endOfAll_29 : decode cX9_endOfAll 29 = .ok (.iconst 0, 1) := by decide +kernel
theorem dX9_endOfAll_30 : decode cX9_endOfAll 30 = .ok (.istore_n 3, 1) := by decide +kernel
theorem dX9_endOfAll_31 : decode cX9_endOfAll 31 = .ok (.iload_n 3, 1) := by decide +kernel
theorem dX9_endOfAll_32 : decode cX9_endOfAll 32 = .ok (.aload_n 0, 1) := by decide +kernel
theorem dX9_endOfAll_33 : decode cX9_endOfAll 33 = .ok (.getfield 12, 3) := by decide +kernel
theorem dX9_endOfAll_36 : decode cX9_endOfAll 36 = .ok (.getfield 108, 3) := by decide +kernel
theorem dX9_endOfAll_39 : decode cX9_endOfAll 39 = .ok (.getfield 112, 3) := by decide +kernel
theorem dX9_endOfAll_42 : decode cX9_endOfAll 42 = .ok (.if_icmp .ge 28, 3) := by decide +kernel
theorem dX9_endOfAll_45 : decode cX9_endOfAll 45 = .ok (.iload_n 1, 1) := by decide +kernel
theorem dX9_endOfAll_46 : decode cX9_endOfAll 46 = .ok (.iload_n 3, 1) := by decide +kernel
theorem dX9_endOfAll_47 : decode cX9_endOfAll 47 = .ok (.invokestatic 169, 3) := by decide +kernel
theorem dX9_endOfAll_50 : decode cX9_endOfAll 50 = .ok (.ifCond .eq 14, 3) := by decide +kernel
theorem dX9_endOfAll_53 : decode cX9_endOfAll 53 = .ok (.iload_n 2, 1) := by decide +kernel
theorem dX9_endOfAll_54 : decode cX9_endOfAll 54 = .ok (.aload_n 0, 1) := by decide +kernel
theorem dX9_endOfAll_55 : decode cX9_endOfAll 55 = .ok (.getfield 12, 3) := by decide +kernel
theorem dX9_endOfAll_58 : decode cX9_endOfAll 58 = .ok (.iload_n 3, 1) := by decide +kernel
theorem dX9_endOfAll_59 : decode cX9_endOfAll 59 = .ok (.invokevirtual 239, 3) := by decide +kernel
theorem dX9_endOfAll_62 : decode cX9_endOfAll 62 = .ok (.iadd, 1) := by decide +kernel
theorem dX9_endOfAll_63 : decode cX9_endOfAll 63 = .ok (.istore_n 2, 1) := by decide +kernel
theorem dX9_endOfAll_64 : decode cX9_endOfAll 64 = .ok (.iinc 3 1, 3) := by decide +kernel
theorem dX9_endOfAll_67 : decode cX9_endOfAll 67 = .ok (.goto (-36), 3) := by decide +kernel
theorem dX9_endOfAll_70 : decode cX9_endOfAll 70 = .ok (.iload_n 2, 1) := by decide +kernel
theorem dX9_endOfAll_71 : decode cX9_endOfAll 71 = .ok (.ireturn, 1) := by decide +kernel
set_option maxRecDepth 20000 in
theorem ggX9_ifLeft_X6_has : GoodIn wsX9_ifLeft wsX6_has := goodIn_r _ [10, 11, 12, 13, 14, 51, 52, 53, 54, 55, 56, 57] (by decide +kernel) (by decide +kernel)
set_option maxRecDepth 20000 in
theorem gX9_ifLeft_X6_has : GoodIn wsX9_ifLeft (wsV RX9 88 RX6 yX6_has wsX6_has) := goodIn_app (goodIn_of _ (by decide +kernel)) ggX9_ifLeft_X6_has
set_option maxRecDepth 20000 in
theorem ggX9_ifLeft_X8_readyOnes : GoodIn wsX9_ifLeft wsX8_readyOnes := goodIn_r _ [19, 20, 21, 22, 18, 23, 24, 25, 26, 27, 28, 29, 30, 58, 59, 60, 61] (by decide +kernel) (by decide +kernel)
set_option maxRecDepth 20000 in
theorem gX9_ifLeft_X8_readyOnes : GoodIn wsX9_ifLeft (wsV RX9 184 RX8 yX8_readyOnes wsX8_readyOnes) := goodIn_app (goodIn_of _ (by decide +kernel)) ggX9_ifLeft_X8_readyOnes
set_option maxRecDepth 20000 in
theorem ggX9_ifLeft_J6_bitCount_0f7a4 : GoodIn wsX9_ifLeft wsJ6_bitCount_0f7a4 := goodIn_r _ [34, 35, 36, 37] (by decide +kernel) (by decide +kernel)
set_option maxRecDepth 20000 in
theorem gX9_ifLeft_J6_bitCount_0f7a4 : GoodIn wsX9_ifLeft (va_wsS RX9 102 yJ6_bitCount_0f7a4 wsJ6_bitCount_0f7a4) := goodIn_app (goodIn_of _ (by decide +kernel)) ggX9_ifLeft_J6_bitCount_0f7a4
theorem dX9_ifLeft_0 : decode cX9_ifLeft 0 = .ok (.aload_n 0, 1) := by decide +kernel
theorem dX9_ifLeft_1 : decode cX9_ifLeft 1 = .ok (.getfield 12, 3) := by decide +kernel
theorem dX9_ifLeft_4 : decode cX9_ifLeft 4 = .ok (.getfield 56, 3) := by decide +kernel
theorem dX9_ifLeft_7 : decode cX9_ifLeft 7 = .ok (.iload_n 1, 1) := by decide +kernel
theorem dX9_ifLeft_8 : decode cX9_ifLeft 8 = .ok (.invokevirtual 88, 3) := by decide +kernel
theorem dX9_ifLeft_11 : decode cX9_ifLeft 11 = .ok (.ifCond .ne 5, 3) := by decide +kernel
theorem dX9_ifLeft_14 : decode cX9_ifLeft 14 = .ok (.iconst (-1), 1) := by decide +kernel
theorem dX9_ifLeft_15 : decode cX9_ifLeft 15 = .ok (.ireturn, 1) := by decide +kernel
theorem dX9_ifLeft_16 : decode cX9_ifLeft 16 = .ok (.aload_n 0, 1) := by decide +kernel
theorem dX9_ifLeft_17 : decode cX9_ifLeft 17 = .ok (.getfield 12, 3) := by decide +kernel
theorem dX9_ifLeft_20 : decode cX9_ifLeft 20 = .ok (.getfield 56, 3) := by decide +kernel
theorem dX9_ifLeft_23 : decode cX9_ifLeft 23 = .ok (.getfield 99, 3) := by decide +kernel
theorem dX9_ifLeft_26 : decode cX9_ifLeft 26 = .ok (.iconst 1, 1) := by decide +kernel
theorem dX9_ifLeft_27 : decode cX9_ifLeft 27 = .ok (.iload_n 1, 1) := by decide +kernel
theorem dX9_ifLeft_28 : decode cX9_ifLeft 28 = .ok (.ishl, 1) := by decide +kernel
theorem dX9_ifLeft_29 : decode cX9_ifLeft 29 = .ok (.iconst (-1), 1) := by decide +kernel
theorem dX9_ifLeft_30 : decode cX9_ifLeft 30 = .ok (.ixor, 1) := by decide +kernel
theorem dX9_ifLeft_31 : decode cX9_ifLeft 31 = .ok (.iand, 1) := by decide +kernel
theorem dX9_ifLeft_32 : decode cX9_ifLeft 32 = .ok (.istore_n 2, 1) := by decide +kernel
theorem dX9_ifLeft_33 : decode cX9_ifLeft 33 = .ok (.aload_n 0, 1) := by decide +kernel
theorem dX9_ifLeft_34 : decode cX9_ifLeft 34 = .ok (.getfield 12, 3) := by decide +kernel
theorem dX9_ifLeft_37 : decode cX9_ifLeft 37 = .ok (.getfield 108, 3) := by decide +kernel
theorem dX9_ifLeft_40 : decode cX9_ifLeft 40 = .ok (.getfield 112, 3) := by decide +kernel
theorem dX9_ifLeft_43 : decode cX9_ifLeft 43 = .ok (.aload_n 0, 1) := by decide +kernel
theorem dX9_ifLeft_44 : decode cX9_ifLeft 44 = .ok (.getfield 12, 3) := by decide +kernel
theorem dX9_ifLeft_47 : decode cX9_ifLeft 47 = .ok (.getfield 108, 3) := by decide +kernel
theorem dX9_ifLeft_50 : decode cX9_ifLeft 50 = .ok (.iload_n 2, 1) := by decide +kernel
theorem dX9_ifLeft_51 : decode cX9_ifLeft 51 = .ok (.invokevirtual 184, 3) := by decide +kernel
theorem dX9_ifLeft_54 : decode cX9_ifLeft 54 = .ok (.invokestatic 102, 3) := by decide +kernel
theorem dX9_ifLeft_57 : decode cX9_ifLeft 57 = .ok (.isub, 1) := by decide +kernel
theorem dX9_ifLeft_58 : decode cX9_ifLeft 58 = .ok (.ireturn, 1) := by decide +kernel
set_option maxRecDepth 20000 in
theorem ggX9_heldUpBy_X8_has : GoodIn wsX9_heldUpBy wsX8_has := goodIn_r _ [8, 9, 10, 11, 12, 113, 114, 115, 116] (by decide +kernel) (by decide +kernel)
set_option maxRecDepth 20000 in
theorem gX9_heldUpBy_X8_has : GoodIn wsX9_heldUpBy (wsV RX9 120 RX8 yX8_has wsX8_has) := goodIn_app (goodIn_of _ (by decide +kernel)) ggX9_heldUpBy_X8_has
set_option maxRecDepth 20000 in
theorem ggX9_heldUpBy_X9_isBetween : GoodIn wsX9_heldUpBy wsX9_isBetween := goodIn_r _ [12] (by decide +kernel) (by decide +kernel)
set_option maxRecDepth 20000 in
theorem gX9_heldUpBy_X9_isBetween : GoodIn wsX9_heldUpBy (va_wsS RX9 74 yX9_isBetween wsX9_isBetween) := goodIn_app (goodIn_of _ (by decide +kernel)) ggX9_heldUpBy_X9_isBetween
set_option maxRecDepth 20000 in
theorem ggX9_heldUpBy_X0_isReady : GoodIn wsX9_heldUpBy wsX0_isReady := goodIn_r _ [18, 19, 20, 21, 22, 23, 24, 7, 25, 26, 27, 28, 29, 9, 30, 31, 32, 33, 34, 35, 36, 11, 37, 107, 108, 109, 110, 111, 112, 117, 118, 119, 120, 121, 122, 123, 113, 114, 115, 116] (by decide +kernel) (by decide +kernel)
set_option maxRecDepth 20000 in
theorem gX9_heldUpBy_X0_isReady : GoodIn wsX9_heldUpBy (wsV RX9 228 RX0 yX0_isReady wsX0_isReady) := goodIn_app (goodIn_of _ (by decide +kernel)) ggX9_heldUpBy_X0_isReady
set_option maxRecDepth 20000 in
theorem ggX9_heldUpBy_X9_beginWithout : GoodIn wsX9_heldUpBy wsX9_beginWithout := goodIn_r _ [41, 42, 1, 43, 44, 45, 46, 47, 48, 49, 50, 51, 52, 53, 54, 55, 56, 57, 58, 11, 59, 60, 61, 62, 63, 64, 65, 66, 67, 68, 23, 24, 7, 25, 26, 27, 28, 29, 9, 30, 31, 32, 33, 34, 35, 69, 70, 71, 72, 73, 74, 75, 76, 77, 78, 79, 80, 36, 37, 81, 82, 83, 84, 85, 86, 87, 88, 89, 90, 17, 91, 92, 93, 19, 94, 95, 96, 97, 98, 99, 100, 101, 102, 103, 104, 105, 106, 124, 125, 126, 107, 108, 109, 110, 111, 112, 117, 118, 119, 120, 121, 122, 123, 113, 114, 115, 116, 127, 128, 129, 130, 131] (by decide +kernel) (by decide +kernel)
set_option maxRecDepth 20000 in
theorem gX9_heldUpBy_X9_beginWithout : GoodIn wsX9_heldUpBy (wsV RX9 242 RX9 yX9_beginWithout wsX9_beginWithout) := goodIn_app (goodIn_of _ (by decide +kernel)) ggX9_heldUpBy_X9_beginWithout
theorem dX9_heldUpBy_0 : decode cX9_heldUpBy 0 = .ok (.aload_n 0, 1) := by decide +kernel
theorem dX9_heldUpBy_1 : decode cX9_heldUpBy 1 = .ok (.getfield 12, 3) := by decide +kernel
theorem dX9_heldUpBy_4 : decode cX9_heldUpBy 4 = .ok (.getfield 108, 3) := by decide +kernel
theorem dX9_heldUpBy_7 : decode cX9_heldUpBy 7 = .ok (.iload_n 1, 1) := by decide +kernel
theorem dX9_heldUpBy_8 : decode cX9_heldUpBy 8 = .ok (.invokevirtual 120, 3) := by decide +kernel
theorem dX9_heldUpBy_11 : decode cX9_heldUpBy 11 = .ok (.ifCond .ne 5, 3) := by decide +kernel
theorem dX9_heldUpBy_14 : decode cX9_heldUpBy 14 = .ok (.iconst (-1), 1) := by decide +kernel
theorem dX9_heldUpBy_15 : decode cX9_heldUpBy 15 = .ok (.ireturn, 1) := by decide +kernel
theorem dX9_heldUpBy_16 : decode cX9_heldUpBy 16 = .ok (.iload_n 2, 1) := by decide +kernel
theorem dX9_heldUpBy_17 : decode cX9_heldUpBy 17 = .ok (.iconst 0, 1) := by decide +kernel
theorem dX9_heldUpBy_18 : decode cX9_heldUpBy 18 = .ok (.iconst 1, 1) := by decide +kernel
theorem dX9_heldUpBy_19 : decode cX9_heldUpBy 19 = .ok (.invokestatic 74, 3) := by decide +kernel
theorem dX9_heldUpBy_22 : decode cX9_heldUpBy 22 = .ok (.ifCond .ne 6, 3) := by decide +kernel
theorem dX9_heldUpBy_25 : decode cX9_heldUpBy 25 = .ok (.bipush (-2), 2) := by decide +kernel
theorem dX9_heldUpBy_27 : decode cX9_heldUpBy 27 = .ok (.ireturn, 1) := by decide +kernel
theorem dX9_heldUpBy_28 : decode cX9_heldUpBy 28 = .ok (.aload_n 0, 1) := by decide +kernel
theorem dX9_heldUpBy_29 : decode cX9_heldUpBy 29 = .ok (.getfield 12, 3) := by decide +kernel
theorem dX9_heldUpBy_32 : decode cX9_heldUpBy 32 = .ok (.iload_n 1, 1) := by decide +kernel
theorem dX9_heldUpBy_33 : decode cX9_heldUpBy 33 = .ok (.invokevirtual 228, 3) := by decide +kernel
theorem dX9_heldUpBy_36 : decode cX9_heldUpBy 36 = .ok (.ifCond .eq 17, 3) := by decide +kernel
theorem dX9_heldUpBy_39 : decode cX9_heldUpBy 39 = .ok (.aload_n 0, 1) := by decide +kernel
theorem dX9_heldUpBy_40 : decode cX9_heldUpBy 40 = .ok (.getfield 12, 3) := by decide +kernel
theorem dX9_heldUpBy_43 : decode cX9_heldUpBy 43 = .ok (.getfield 108, 3) := by decide +kernel
theorem dX9_heldUpBy_46 : decode cX9_heldUpBy 46 = .ok (.getfield 112, 3) := by decide +kernel
theorem dX9_heldUpBy_49 : decode cX9_heldUpBy 49 = .ok (.iconst 1, 1) := by decide +kernel
theorem dX9_heldUpBy_50 : decode cX9_heldUpBy 50 = .ok (.if_icmp .ne 6, 3) := by decide +kernel
theorem dX9_heldUpBy_53 : decode cX9_heldUpBy 53 = .ok (.bipush (-6), 2) := by decide +kernel
theorem dX9_heldUpBy_55 : decode cX9_heldUpBy 55 = .ok (.ireturn, 1) := by decide +kernel
theorem dX9_heldUpBy_56 : decode cX9_heldUpBy 56 = .ok (.aload_n 0, 1) := by decide +kernel
theorem dX9_heldUpBy_57 : decode cX9_heldUpBy 57 = .ok (.iload_n 1, 1) := by decide +kernel
theorem dX9_heldUpBy_58 : decode cX9_heldUpBy 58 = .ok (.bipush (-6), 2) := by decide +kernel
theorem dX9_heldUpBy_60 : decode cX9_heldUpBy 60 = .ok (.invokevirtual 242, 3) := by decide +kernel
theorem dX9_heldUpBy_63 : decode cX9_heldUpBy 63 = .ok (.istore_n 3, 1) := by decide +kernel
theorem dX9_heldUpBy_64 : decode cX9_heldUpBy 64 = .ok (.bipush (-6), 2) := by decide +kernel
theorem dX9_heldUpBy_66 : decode cX9_heldUpBy 66 = .ok (.istore 4, 2) := by decide +kernel
theorem dX9_heldUpBy_68 : decode cX9_heldUpBy 68 = .ok (.iconst 0, 1) := by decide +kernel
theorem dX9_heldUpBy_69 : decode cX9_heldUpBy 69 = .ok (.istore 5, 2) := by decide +kernel
theorem dX9_heldUpBy_71 : decode cX9_heldUpBy 71 = .ok (.iconst 0, 1) := by decide +kernel
theorem dX9_heldUpBy_72 : decode cX9_heldUpBy 72 = .ok (.istore 6, 2) := by decide +kernel
theorem dX9_heldUpBy_74 : decode cX9_heldUpBy 74 = .ok (.iload 6, 2) := by decide +kernel
theorem dX9_heldUpBy_76 : decode cX9_heldUpBy 76 = .ok (.aload_n 0, 1) := by decide +kernel
theorem dX9_heldUpBy_77 : decode cX9_heldUpBy 77 = .ok (.getfield 12, 3) := by decide +kernel
theorem dX9_heldUpBy_80 : decode cX9_heldUpBy 80 = .ok (.getfield 108, 3) := by decide +kernel
theorem dX9_heldUpBy_83 : decode cX9_heldUpBy 83 = .ok (.getfield 112, 3) := by decide +kernel
theorem dX9_heldUpBy_86 : decode cX9_heldUpBy 86 = .ok (.if_icmp .ge 51, 3) := by decide +kernel
theorem dX9_heldUpBy_89 : decode cX9_heldUpBy 89 = .ok (.iload 6, 2) := by decide +kernel
theorem dX9_heldUpBy_91 : decode cX9_heldUpBy 91 = .ok (.iload_n 1, 1) := by decide +kernel
theorem dX9_heldUpBy_92 : decode cX9_heldUpBy 92 = .ok (.if_icmp .ne 6, 3) := by decide +kernel
theorem dX9_heldUpBy_95 : decode cX9_heldUpBy 95 = .ok (.goto 36, 3) := by decide +kernel
theorem dX9_heldUpBy_98 : decode cX9_heldUpBy 98 = .ok (.iload_n 3, 1) := by decide +kernel
theorem dX9_heldUpBy_99 : decode cX9_heldUpBy 99 = .ok (.aload_n 0, 1) := by decide +kernel
theorem dX9_heldUpBy_100 : decode cX9_heldUpBy 100 = .ok (.iload_n 1, 1) := by decide +kernel
theorem dX9_heldUpBy_101 : decode cX9_heldUpBy 101 = .ok (.iload 6, 2) := by decide +kernel
theorem dX9_heldUpBy_103 : decode cX9_heldUpBy 103 = .ok (.invokevirtual 242, 3) := by decide +kernel
theorem dX9_heldUpBy_106 : decode cX9_heldUpBy 106 = .ok (.isub, 1) := by decide +kernel
theorem dX9_heldUpBy_107 : decode cX9_heldUpBy 107 = .ok (.istore 7, 2) := by decide +kernel
theorem dX9_heldUpBy_109 : decode cX9_heldUpBy 109 = .ok (.iload 4, 2) := by decide +kernel
theorem dX9_heldUpBy_111 : decode cX9_heldUpBy 111 = .ok (.bipush (-6), 2) := by decide +kernel
theorem dX9_heldUpBy_113 : decode cX9_heldUpBy 113 = .ok (.if_icmp .eq 10, 3) := by decide +kernel
theorem dX9_heldUpBy_116 : decode cX9_heldUpBy 116 = .ok (.iload 7, 2) := by decide +kernel
theorem dX9_heldUpBy_118 : decode cX9_heldUpBy 118 = .ok (.iload 5, 2) := by decide +kernel
theorem dX9_heldUpBy_120 : decode cX9_heldUpBy 120 = .ok (.if_icmp .le 11, 3) := by decide +kernel
theorem dX9_heldUpBy_123 : decode cX9_heldUpBy 123 = .ok (.iload 6, 2) := by decide +kernel
theorem dX9_heldUpBy_125 : decode cX9_heldUpBy 125 = .ok (.istore 4, 2) := by decide +kernel
theorem dX9_heldUpBy_127 : decode cX9_heldUpBy 127 = .ok (.iload 7, 2) := by decide +kernel
theorem dX9_heldUpBy_129 : decode cX9_heldUpBy 129 = .ok (.istore 5, 2) := by decide +kernel
theorem dX9_heldUpBy_131 : decode cX9_heldUpBy 131 = .ok (.iinc 6 1, 3) := by decide +kernel
theorem dX9_heldUpBy_134 : decode cX9_heldUpBy 134 = .ok (.goto (-60), 3) := by decide +kernel
theorem dX9_heldUpBy_137 : decode cX9_heldUpBy 137 = .ok (.iload_n 2, 1) := by decide +kernel
theorem dX9_heldUpBy_138 : decode cX9_heldUpBy 138 = .ok (.ifCond .ne 8, 3) := by decide +kernel
theorem dX9_heldUpBy_141 : decode cX9_heldUpBy 141 = .ok (.iload 4, 2) := by decide +kernel
theorem dX9_heldUpBy_143 : decode cX9_heldUpBy 143 = .ok (.goto 5, 3) := by decide +kernel
theorem dX9_heldUpBy_146 : decode cX9_heldUpBy 146 = .ok (.iload 5, 2) := by decide +kernel
theorem dX9_heldUpBy_148 : decode cX9_heldUpBy 148 = .ok (.ireturn, 1) := by decide +kernel
set_option maxRecDepth 20000 in
theorem ggX9_together_X6_has : GoodIn wsX9_together wsX6_has := goodIn_r _ [9, 10, 11, 12, 13, 59, 60, 61, 62, 63, 64, 65] (by decide +kernel) (by decide +kernel)
set_option maxRecDepth 20000 in
theorem gX9_together_X6_has : GoodIn wsX9_together (wsV RX9 88 RX6 yX6_has wsX6_has) := goodIn_app (goodIn_of _ (by decide +kernel)) ggX9_together_X6_has
set_option maxRecDepth 20000 in
theorem ggX9_together_X0_keyAndTen : GoodIn wsX9_together wsX0_keyAndTen := goodIn_r _ [18, 19, 20, 21, 22, 23, 24, 25, 26, 27, 28, 29, 30, 31, 32, 33, 34, 35, 36, 37, 38, 39, 40, 48, 49, 50, 51, 52, 53, 59, 60, 61, 62, 63, 64, 65, 54, 55, 56, 57, 58] (by decide +kernel) (by decide +kernel)
set_option maxRecDepth 20000 in
theorem gX9_together_X0_keyAndTen : GoodIn wsX9_together (wsV RX9 181 RX0 yX0_keyAndTen wsX0_keyAndTen) := goodIn_app (goodIn_of _ (by decide +kernel)) ggX9_together_X0_keyAndTen
theorem dX9_together_0 : decode cX9_together 0 = .ok (.aload_n 0, 1) := by decide +kernel
theorem dX9_together_1 : decode cX9_together 1 = .ok (.getfield 12, 3) := by decide +kernel
theorem dX9_together_4 : decode cX9_together 4 = .ok (.getfield 56, 3) := by decide +kernel
theorem dX9_together_7 : decode cX9_together 7 = .ok (.iload_n 1, 1) := by decide +kernel
theorem dX9_together_8 : decode cX9_together 8 = .ok (.invokevirtual 88, 3) := by decide +kernel
theorem dX9_together_11 : decode cX9_together 11 = .ok (.ifCond .eq 17, 3) := by decide +kernel
theorem dX9_together_14 : decode cX9_together 14 = .ok (.aload_n 0, 1) := by decide +kernel
theorem dX9_together_15 : decode cX9_together 15 = .ok (.getfield 12, 3) := by decide +kernel
theorem dX9_together_18 : decode cX9_together 18 = .ok (.getfield 56, 3) := by decide +kernel
theorem dX9_together_21 : decode cX9_together 21 = .ok (.iload_n 2, 1) := by decide +kernel
theorem dX9_together_22 : decode cX9_together 22 = .ok (.invokevirtual 88, 3) := by decide +kernel
theorem dX9_together_25 : decode cX9_together 25 = .ok (.ifCond .ne 5, 3) := by decide +kernel
theorem dX9_together_28 : decode cX9_together 28 = .ok (.iconst (-1), 1) := by decide +kernel
theorem dX9_together_29 : decode cX9_together 29 = .ok (.ireturn, 1) := by decide +kernel
theorem dX9_together_30 : decode cX9_together 30 = .ok (.iload_n 1, 1) := by decide +kernel
theorem dX9_together_31 : decode cX9_together 31 = .ok (.iload_n 2, 1) := by decide +kernel
theorem dX9_together_32 : decode cX9_together 32 = .ok (.if_icmp .ne 6, 3) := by decide +kernel
theorem dX9_together_35 : decode cX9_together 35 = .ok (.bipush (-2), 2) := by decide +kernel
theorem dX9_together_37 : decode cX9_together 37 = .ok (.ireturn, 1) := by decide +kernel
theorem dX9_together_38 : decode cX9_together 38 = .ok (.iconst 0, 1) := by decide +kernel
theorem dX9_together_39 : decode cX9_together 39 = .ok (.istore_n 3, 1) := by decide +kernel
theorem dX9_together_40 : decode cX9_together 40 = .ok (.iconst 0, 1) := by decide +kernel
theorem dX9_together_41 : decode cX9_together 41 = .ok (.istore 4, 2) := by decide +kernel
theorem dX9_together_43 : decode cX9_together 43 = .ok (.iload 4, 2) := by decide +kernel
theorem dX9_together_45 : decode cX9_together 45 = .ok (.aload_n 0, 1) := by decide +kernel
theorem dX9_together_46 : decode cX9_together 46 = .ok (.getfield 12, 3) := by decide +kernel
theorem dX9_together_49 : decode cX9_together 49 = .ok (.getfield 78, 3) := by decide +kernel
theorem dX9_together_52 : decode cX9_together 52 = .ok (.getfield 82, 3) := by decide +kernel
theorem dX9_together_55 : decode cX9_together 55 = .ok (.if_icmp .ge 28, 3) := by decide +kernel
theorem dX9_together_58 : decode cX9_together 58 = .ok (.aload_n 0, 1) := by decide +kernel
theorem dX9_together_59 : decode cX9_together 59 = .ok (.getfield 12, 3) := by decide +kernel
theorem dX9_together_62 : decode cX9_together 62 = .ok (.iload_n 1, 1) := by decide +kernel
theorem dX9_together_63 : decode cX9_together 63 = .ok (.iload_n 2, 1) := by decide +kernel
theorem dX9_together_64 : decode cX9_together 64 = .ok (.iload 4, 2) := by decide +kernel
theorem dX9_together_66 : decode cX9_together 66 = .ok (.invokevirtual 181, 3) := by decide +kernel
theorem dX9_together_69 : decode cX9_together 69 = .ok (.bipush (-6), 2) := by decide +kernel
theorem dX9_together_71 : decode cX9_together 71 = .ok (.if_icmp .eq 6, 3) := by decide +kernel
theorem dX9_together_74 : decode cX9_together 74 = .ok (.iinc 3 1, 3) := by decide +kernel
theorem dX9_together_77 : decode cX9_together 77 = .ok (.iinc 4 1, 3) := by decide +kernel
theorem dX9_together_80 : decode cX9_together 80 = .ok (.goto (-37), 3) := by decide +kernel
theorem dX9_together_83 : decode cX9_together 83 = .ok (.iload_n 3, 1) := by decide +kernel
theorem dX9_together_84 : decode cX9_together 84 = .ok (.ireturn, 1) := by decide +kernel
theorem dX9_isBetween_0 : decode cX9_isBetween 0 = .ok (.iload_n 0, 1) := by decide +kernel
theorem dX9_isBetween_1 : decode cX9_isBetween 1 = .ok (.iload_n 1, 1) := by decide +kernel
theorem dX9_isBetween_2 : decode cX9_isBetween 2 = .ok (.if_icmp .lt 12, 3) := by decide +kernel
theorem dX9_isBetween_5 : decode cX9_isBetween 5 = .ok (.iload_n 0, 1) := by decide +kernel
theorem dX9_isBetween_6 : decode cX9_isBetween 6 = .ok (.iload_n 2, 1) := by decide +kernel
theorem dX9_isBetween_7 : decode cX9_isBetween 7 = .ok (.if_icmp .gt 7, 3) := by decide +kernel
theorem dX9_isBetween_10 : decode cX9_isBetween 10 = .ok (.iconst 1, 1) := by decide +kernel
theorem dX9_isBetween_11 : decode cX9_isBetween 11 = .ok (.goto 4, 3) := by decide +kernel
theorem dX9_isBetween_14 : decode cX9_isBetween 14 = .ok (.iconst 0, 1) := by decide +kernel
theorem dX9_isBetween_15 : decode cX9_isBetween 15 = .ok (.ireturn, 1) := by decide +kernel
set_option maxRecDepth 20000 in
theorem ggX9_isToneRange_X9_isBetween : GoodIn wsX9_isToneRange wsX9_isBetween := goodIn_r _ [4] (by decide +kernel) (by decide +kernel)
set_option maxRecDepth 20000 in
theorem gX9_isToneRange_X9_isBetween : GoodIn wsX9_isToneRange (va_wsS RX9 74 yX9_isBetween wsX9_isBetween) := goodIn_app (goodIn_of _ (by decide +kernel)) ggX9_isToneRange_X9_isBetween
theorem dX9_isToneRange_0 : decode cX9_isToneRange 0 = .ok (.iload_n 0, 1) := by decide +kernel
theorem dX9_isToneRange_1 : decode cX9_isToneRange 1 = .ok (.iconst 0, 1) := by decide +kernel
theorem dX9_isToneRange_2 : decode cX9_isToneRange 2 = .ok (.bipush 60, 2) := by decide +kernel
theorem dX9_isToneRange_4 : decode cX9_isToneRange 4 = .ok (.invokestatic 74, 3) := by decide +kernel
theorem dX9_isToneRange_7 : decode cX9_isToneRange 7 = .ok (.ifCond .eq 17, 3) := by decide +kernel
theorem dX9_isToneRange_10 : decode cX9_isToneRange 10 = .ok (.iload_n 1, 1) := by decide +kernel
theorem dX9_isToneRange_11 : decode cX9_isToneRange 11 = .ok (.iload_n 0, 1) := by decide +kernel
theorem dX9_isToneRange_12 : decode cX9_isToneRange 12 = .ok (.bipush 60, 2) := by decide +kernel
theorem dX9_isToneRange_14 : decode cX9_isToneRange 14 = .ok (.invokestatic 74, 3) := by decide +kernel
theorem dX9_isToneRange_17 : decode cX9_isToneRange 17 = .ok (.ifCond .eq 7, 3) := by decide +kernel
theorem dX9_isToneRange_20 : decode cX9_isToneRange 20 = .ok (.iconst 1, 1) := by decide +kernel
theorem dX9_isToneRange_21 : decode cX9_isToneRange 21 = .ok (.goto 4, 3) := by decide +kernel
theorem dX9_isToneRange_24 : decode cX9_isToneRange 24 = .ok (.iconst 0, 1) := by decide +kernel
theorem dX9_isToneRange_25 : decode cX9_isToneRange 25 = .ok (.ireturn, 1) := by decide +kernel
theorem dX9_isIn_0 : decode cX9_isIn 0 = .ok (.iload_n 0, 1) := by decide +kernel
theorem dX9_isIn_1 : decode cX9_isIn 1 = .ok (.iload_n 1, 1) := by decide +kernel
theorem dX9_isIn_2 : decode cX9_isIn 2 = .ok (.ishr, 1) := by decide +kernel
theorem dX9_isIn_3 : decode cX9_isIn 3 = .ok (.iconst 1, 1) := by decide +kernel
theorem dX9_isIn_4 : decode cX9_isIn 4 = .ok (.iand, 1) := by decide +kernel
theorem dX9_isIn_5 : decode cX9_isIn 5 = .ok (.iconst 1, 1) := by decide +kernel
theorem dX9_isIn_6 : decode cX9_isIn 6 = .ok (.if_icmp .ne 7, 3) := by decide +kernel
theorem dX9_isIn_9 : decode cX9_isIn 9 = .ok (.iconst 1, 1) := by decide +kernel
theorem dX9_isIn_10 : decode cX9_isIn 10 = .ok (.goto 4, 3) := by decide +kernel
theorem dX9_isIn_13 : decode cX9_isIn 13 = .ok (.iconst 0, 1) := by decide +kernel
theorem dX9_isIn_14 : decode cX9_isIn 14 = .ok (.ireturn, 1) := by decide +kernel
theorem dX9_asNumber_0 : decode cX9_asNumber 0 = .ok (.iload_n 0, 1) := by decide +kernel
theorem dX9_asNumber_1 : decode cX9_asNumber 1 = .ok (.ifCond .eq 7, 3) := by decide +kernel
theorem dX9_asNumber_4 : decode cX9_asNumber 4 = .ok (.iconst 1, 1) := by decide +kernel
theorem dX9_asNumber_5 : decode cX9_asNumber 5 = .ok (.goto 4, 3) := by decide +kernel
theorem dX9_asNumber_8 : decode cX9_asNumber 8 = .ok (.iconst 0, 1) := by decide +kernel
theorem dX9_asNumber_9 : decode cX9_asNumber 9 = .ok (.ireturn, 1) := by decide +kernel
theorem dX9_copyRow_0 : decode cX9_copyRow 0 = .ok (.aload_n 0, 1) := by decide +kernel
theorem dX9_copyRow_1 : decode cX9_copyRow 1 = .ok (.iconst 0, 1) := by decide +kernel
theorem dX9_copyRow_2 : decode cX9_copyRow 2 = .ok (.aload_n 1, 1) := by decide +kernel
theorem dX9_copyRow_3 : decode cX9_copyRow 3 = .ok (.iconst 0, 1) := by decide +kernel
theorem dX9_copyRow_4 : decode cX9_copyRow 4 = .ok (.aload_n 0, 1) := by decide +kernel
theorem dX9_copyRow_5 : decode cX9_copyRow 5 = .ok (.arraylength, 1) := by decide +kernel
theorem dX9_copyRow_6 : decode cX9_copyRow 6 = .ok (.aload_n 1, 1) := by decide +kernel
theorem dX9_copyRow_7 : decode cX9_copyRow 7 = .ok (.arraylength, 1) := by decide +kernel
theorem dX9_copyRow_8 : decode cX9_copyRow 8 = .ok (.invokestatic 259, 3) := by decide +kernel
theorem dX9_copyRow_11 : decode cX9_copyRow 11 = .ok (.invokestatic 264, 3) := by decide +kernel
theorem dX9_copyRow_14 : decode cX9_copyRow 14 = .ok (.return_, 1) := by decide +kernel
set_option maxRecDepth 20000 in
theorem ggX9_beginWithout_X5_lookAhead : GoodIn wsX9_beginWithout wsX5_lookAhead := goodIn_r _ [8, 9, 10, 11, 12, 13, 14, 15, 16, 17, 18, 19, 20, 21, 22, 23, 24, 25, 26, 27, 28, 29, 30, 31, 32, 33, 34, 35, 36, 37, 38, 39, 40, 41, 42, 43, 44, 45, 46, 47, 48, 49, 50, 51, 52, 53, 54, 55, 56, 57, 58, 59, 60, 61, 62, 63, 64, 65, 66, 67, 68, 69, 70, 71, 72, 73, 74, 75, 76, 77, 78, 7, 79, 90, 91, 92, 93, 94, 95, 96, 97, 98, 99, 100, 101, 102, 87, 88, 89, 103, 104, 105, 106, 107, 108, 109, 110, 111] (by decide +kernel) (by decide +kernel)
set_option maxRecDepth 20000 in
theorem gX9_beginWithout_X5_lookAhead : GoodIn wsX9_beginWithout (wsV RX9 231 RX5 yX5_lookAhead wsX5_lookAhead) := goodIn_app (goodIn_of _ (by decide +kernel)) ggX9_beginWithout_X5_lookAhead
theorem dX9_beginWithout_0 : decode cX9_beginWithout 0 = .ok (.aload_n 0, 1) := by decide +kernel
theorem dX9_beginWithout_1 : decode cX9_beginWithout 1 = .ok (.getfield 48, 3) := by decide +kernel
theorem dX9_beginWithout_4 : decode cX9_beginWithout 4 = .ok (.aload_n 0, 1) := by decide +kernel
theorem dX9_beginWithout_5 : decode cX9_beginWithout 5 = .ok (.getfield 12, 3) := by decide +kernel
theorem dX9_beginWithout_8 : decode cX9_beginWithout 8 = .ok (.iload_n 1, 1) := by decide +kernel
theorem dX9_beginWithout_9 : decode cX9_beginWithout 9 = .ok (.iload_n 2, 1) := by decide +kernel
theorem dX9_beginWithout_10 : decode cX9_beginWithout 10 = .ok (.invokevirtual 231, 3) := by decide +kernel
theorem dX9_beginWithout_13 : decode cX9_beginWithout 13 = .ok (.aload_n 0, 1) := by decide +kernel
theorem dX9_beginWithout_14 : decode cX9_beginWithout 14 = .ok (.getfield 48, 3) := by decide +kernel
theorem dX9_beginWithout_17 : decode cX9_beginWithout 17 = .ok (.getfield 238, 3) := by decide +kernel
theorem dX9_beginWithout_20 : decode cX9_beginWithout 20 = .ok (.ireturn, 1) := by decide +kernel
