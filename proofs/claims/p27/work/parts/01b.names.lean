set_option maxRecDepth 20000 in
theorem ggX0_init_X6_init : GoodIn wsX0_init wsX6_init := goodIn_r _ [21, 22, 2, 3, 23, 24, 25, 26, 27, 48, 49, 50, 51, 52, 53, 54] (by decide +kernel) (by decide +kernel)
set_option maxRecDepth 20000 in
theorem gX0_init_X6_init_n11 : GoodIn wsX0_init (wsX6_init) := ggX0_init_X6_init
set_option maxRecDepth 20000 in
theorem ggX0_init_X7_init : GoodIn wsX0_init wsX7_init := goodIn_r _ [29, 30, 2, 3, 23, 31, 32, 33, 34, 61, 62, 63, 64, 65] (by decide +kernel) (by decide +kernel)
set_option maxRecDepth 20000 in
theorem gX0_init_X7_init_n20 : GoodIn wsX0_init (wsX7_init) := ggX0_init_X7_init
set_option maxRecDepth 20000 in
theorem ggX0_init_X8_init : GoodIn wsX0_init wsX8_init := goodIn_r _ [36, 37, 2, 3, 23, 38, 39, 40, 66, 67, 68, 69] (by decide +kernel) (by decide +kernel)
set_option maxRecDepth 20000 in
theorem gX0_init_X8_init_n27 : GoodIn wsX0_init (wsX8_init) := ggX0_init_X8_init
set_option maxRecDepth 20000 in
theorem ggX0_init_X4_init : GoodIn wsX0_init wsX4_init := goodIn_r _ [42, 43, 2, 3, 23, 44, 45, 46, 47, 70, 71, 72, 73, 74] (by decide +kernel) (by decide +kernel)
set_option maxRecDepth 20000 in
theorem gX0_init_X4_init_n34 : GoodIn wsX0_init (wsX4_init) := ggX0_init_X4_init
theorem dX0_init_0 : decode cX0_init 0 = .ok (.aload_n 0, 1) := by decide +kernel
theorem dX0_init_1 : decode cX0_init 1 = .ok (.invokespecial 3, 3) := by decide +kernel
theorem dX0_init_4 : decode cX0_init 4 = .ok (.aload_n 0, 1) := by decide +kernel
theorem dX0_init_5 : decode cX0_init 5 = .ok (.new 9, 3) := by decide +kernel
theorem dX0_init_8 : decode cX0_init 8 = .ok (.dup, 1) := by decide +kernel
theorem dX0_init_9 : decode cX0_init 9 = .ok (.invokespecial 11, 3) := by decide +kernel
theorem dX0_init_12 : decode cX0_init 12 = .ok (.putfield 12, 3) := by decide +kernel
theorem dX0_init_15 : decode cX0_init 15 = .ok (.aload_n 0, 1) := by decide +kernel
theorem dX0_init_16 : decode cX0_init 16 = .ok (.new 18, 3) := by decide +kernel
theorem dX0_init_19 : decode cX0_init 19 = .ok (.dup, 1) := by decide +kernel
theorem dX0_init_20 : decode cX0_init 20 = .ok (.invokespecial 20, 3) := by decide +kernel
theorem dX0_init_23 : decode cX0_init 23 = .ok (.putfield 21, 3) := by decide +kernel
theorem dX0_init_26 : decode cX0_init 26 = .ok (.aload_n 0, 1) := by decide +kernel
theorem dX0_init_27 : decode cX0_init 27 = .ok (.new 25, 3) := by decide +kernel
theorem dX0_init_30 : decode cX0_init 30 = .ok (.dup, 1) := by decide +kernel
theorem dX0_init_31 : decode cX0_init 31 = .ok (.invokespecial 27, 3) := by decide +kernel
theorem dX0_init_34 : decode cX0_init 34 = .ok (.putfield 28, 3) := by decide +kernel
theorem dX0_init_37 : decode cX0_init 37 = .ok (.aload_n 0, 1) := by decide +kernel
theorem dX0_init_38 : decode cX0_init 38 = .ok (.new 32, 3) := by decide +kernel
theorem dX0_init_41 : decode cX0_init 41 = .ok (.dup, 1) := by decide +kernel
theorem dX0_init_42 : decode cX0_init 42 = .ok (.invokespecial 34, 3) := by decide +kernel
theorem dX0_init_45 : decode cX0_init 45 = .ok (.putfield 35, 3) := by decide +kernel
theorem dX0_init_48 : decode cX0_init 48 = .ok (.return_, 1) := by decide +kernel
set_option maxRecDepth 20000 in
theorem ggX0_errorOfNames_X6_has : GoodIn wsX0_errorOfNames wsX6_has := goodIn_r _ [7, 8, 9, 10, 11, 24, 25, 26, 27, 28, 29, 30] (by decide +kernel) (by decide +kernel)
set_option maxRecDepth 20000 in
theorem gX0_errorOfNames_X6_has : GoodIn wsX0_errorOfNames (wsV RX0 39 RX6 yX6_has wsX6_has) := goodIn_app (goodIn_of _ (by decide +kernel)) ggX0_errorOfNames_X6_has
set_option maxRecDepth 20000 in
theorem ggX0_errorOfNames_X7_has : GoodIn wsX0_errorOfNames wsX7_has := goodIn_r _ [16, 17, 9, 10, 11, 31, 32, 33, 34, 35] (by decide +kernel) (by decide +kernel)
set_option maxRecDepth 20000 in
theorem gX0_errorOfNames_X7_has : GoodIn wsX0_errorOfNames (wsV RX0 43 RX7 yX7_has wsX7_has) := goodIn_app (goodIn_of _ (by decide +kernel)) ggX0_errorOfNames_X7_has
theorem dX0_errorOfNames_0 : decode cX0_errorOfNames 0 = .ok (.aload_n 0, 1) := by decide +kernel
theorem dX0_errorOfNames_1 : decode cX0_errorOfNames 1 = .ok (.getfield 12, 3) := by decide +kernel
theorem dX0_errorOfNames_4 : decode cX0_errorOfNames 4 = .ok (.iload_n 1, 1) := by decide +kernel
theorem dX0_errorOfNames_5 : decode cX0_errorOfNames 5 = .ok (.invokevirtual 39, 3) := by decide +kernel
theorem dX0_errorOfNames_8 : decode cX0_errorOfNames 8 = .ok (.ifCond .eq 31, 3) := by decide +kernel
theorem dX0_errorOfNames_11 : decode cX0_errorOfNames 11 = .ok (.iload_n 2, 1) := by decide +kernel
theorem dX0_errorOfNames_12 : decode cX0_errorOfNames 12 = .ok (.bipush (-6), 2) := by decide +kernel
theorem dX0_errorOfNames_14 : decode cX0_errorOfNames 14 = .ok (.if_icmp .eq 14, 3) := by decide +kernel
theorem dX0_errorOfNames_17 : decode cX0_errorOfNames 17 = .ok (.aload_n 0, 1) := by decide +kernel
theorem dX0_errorOfNames_18 : decode cX0_errorOfNames 18 = .ok (.getfield 12, 3) := by decide +kernel
theorem dX0_errorOfNames_21 : decode cX0_errorOfNames 21 = .ok (.iload_n 2, 1) := by decide +kernel
theorem dX0_errorOfNames_22 : decode cX0_errorOfNames 22 = .ok (.invokevirtual 39, 3) := by decide +kernel
theorem dX0_errorOfNames_25 : decode cX0_errorOfNames 25 = .ok (.ifCond .eq 14, 3) := by decide +kernel
theorem dX0_errorOfNames_28 : decode cX0_errorOfNames 28 = .ok (.aload_n 0, 1) := by decide +kernel
theorem dX0_errorOfNames_29 : decode cX0_errorOfNames 29 = .ok (.getfield 21, 3) := by decide +kernel
theorem dX0_errorOfNames_32 : decode cX0_errorOfNames 32 = .ok (.iload_n 3, 1) := by decide +kernel
theorem dX0_errorOfNames_33 : decode cX0_errorOfNames 33 = .ok (.invokevirtual 43, 3) := by decide +kernel
theorem dX0_errorOfNames_36 : decode cX0_errorOfNames 36 = .ok (.ifCond .ne 5, 3) := by decide +kernel
theorem dX0_errorOfNames_39 : decode cX0_errorOfNames 39 = .ok (.iconst (-1), 1) := by decide +kernel
theorem dX0_errorOfNames_40 : decode cX0_errorOfNames 40 = .ok (.ireturn, 1) := by decide +kernel
theorem dX0_errorOfNames_41 : decode cX0_errorOfNames 41 = .ok (.iload_n 1, 1) := by decide +kernel
theorem dX0_errorOfNames_42 : decode cX0_errorOfNames 42 = .ok (.iload_n 2, 1) := by decide +kernel
theorem dX0_errorOfNames_43 : decode cX0_errorOfNames 43 = .ok (.if_icmp .ne 8, 3) := by decide +kernel
theorem dX0_errorOfNames_46 : decode cX0_errorOfNames 46 = .ok (.bipush (-2), 2) := by decide +kernel
theorem dX0_errorOfNames_48 : decode cX0_errorOfNames 48 = .ok (.goto 4, 3) := by decide +kernel
theorem dX0_errorOfNames_51 : decode cX0_errorOfNames 51 = .ok (.iconst 0, 1) := by decide +kernel
theorem dX0_errorOfNames_52 : decode cX0_errorOfNames 52 = .ok (.ireturn, 1) := by decide +kernel
set_option maxRecDepth 20000 in
theorem ggX0_errorOfWish_X0_errorOfNames : GoodIn wsX0_errorOfWish wsX0_errorOfNames := goodIn_r _ [5, 6, 7, 8, 9, 10, 11, 12, 13, 14, 15, 16, 17, 18, 19, 20, 21, 22, 46, 47, 48, 49, 50, 51, 52, 53, 54, 55, 56, 57, 58, 59, 60, 61, 62, 63] (by decide +kernel) (by decide +kernel)
set_option maxRecDepth 20000 in
theorem gX0_errorOfWish_X0_errorOfNames : GoodIn wsX0_errorOfWish (wsV RX0 44 RX0 yX0_errorOfNames wsX0_errorOfNames) := goodIn_app (goodIn_of _ (by decide +kernel)) ggX0_errorOfWish_X0_errorOfNames
set_option maxRecDepth 20000 in
theorem ggX0_errorOfWish_X0_keyAndTen : GoodIn wsX0_errorOfWish wsX0_keyAndTen := goodIn_r _ [26, 6, 27, 28, 29, 30, 31, 32, 33, 34, 35, 7, 36, 37, 38, 20, 39, 40, 41, 42, 43, 44, 45, 46, 47, 48, 49, 50, 51, 52, 53, 54, 55, 56, 57, 58, 59, 60, 61, 62, 63] (by decide +kernel) (by decide +kernel)
set_option maxRecDepth 20000 in
theorem gX0_errorOfWish_X0_keyAndTen : GoodIn wsX0_errorOfWish (wsV RX0 48 RX0 yX0_keyAndTen wsX0_keyAndTen) := goodIn_app (goodIn_of _ (by decide +kernel)) ggX0_errorOfWish_X0_keyAndTen
theorem dX0_errorOfWish_0 : decode cX0_errorOfWish 0 = .ok (.aload_n 0, 1) := by decide +kernel
theorem dX0_errorOfWish_1 : decode cX0_errorOfWish 1 = .ok (.iload_n 1, 1) := by decide +kernel
theorem dX0_errorOfWish_2 : decode cX0_errorOfWish 2 = .ok (.iload_n 2, 1) := by decide +kernel
theorem dX0_errorOfWish_3 : decode cX0_errorOfWish 3 = .ok (.iload_n 3, 1) := by decide +kernel
theorem dX0_errorOfWish_4 : decode cX0_errorOfWish 4 = .ok (.invokevirtual 44, 3) := by decide +kernel
theorem dX0_errorOfWish_7 : decode cX0_errorOfWish 7 = .ok (.istore 5, 2) := by decide +kernel
theorem dX0_errorOfWish_9 : decode cX0_errorOfWish 9 = .ok (.iload 5, 2) := by decide +kernel
theorem dX0_errorOfWish_11 : decode cX0_errorOfWish 11 = .ok (.ifCond .eq 6, 3) := by decide +kernel
theorem dX0_errorOfWish_14 : decode cX0_errorOfWish 14 = .ok (.iload 5, 2) := by decide +kernel
theorem dX0_errorOfWish_16 : decode cX0_errorOfWish 16 = .ok (.ireturn, 1) := by decide +kernel
theorem dX0_errorOfWish_17 : decode cX0_errorOfWish 17 = .ok (.iload 4, 2) := by decide +kernel
theorem dX0_errorOfWish_19 : decode cX0_errorOfWish 19 = .ok (.bipush 20, 2) := by decide +kernel
theorem dX0_errorOfWish_21 : decode cX0_errorOfWish 21 = .ok (.if_icmp .lt 6, 3) := by decide +kernel
theorem dX0_errorOfWish_24 : decode cX0_errorOfWish 24 = .ok (.bipush (-4), 2) := by decide +kernel
theorem dX0_errorOfWish_26 : decode cX0_errorOfWish 26 = .ok (.ireturn, 1) := by decide +kernel
theorem dX0_errorOfWish_27 : decode cX0_errorOfWish 27 = .ok (.aload_n 0, 1) := by decide +kernel
theorem dX0_errorOfWish_28 : decode cX0_errorOfWish 28 = .ok (.iload_n 1, 1) := by decide +kernel
theorem dX0_errorOfWish_29 : decode cX0_errorOfWish 29 = .ok (.iload_n 2, 1) := by decide +kernel
theorem dX0_errorOfWish_30 : decode cX0_errorOfWish 30 = .ok (.iload_n 3, 1) := by decide +kernel
theorem dX0_errorOfWish_31 : decode cX0_errorOfWish 31 = .ok (.invokevirtual 48, 3) := by decide +kernel
theorem dX0_errorOfWish_34 : decode cX0_errorOfWish 34 = .ok (.bipush (-6), 2) := by decide +kernel
theorem dX0_errorOfWish_36 : decode cX0_errorOfWish 36 = .ok (.if_icmp .ne 8, 3) := by decide +kernel
theorem dX0_errorOfWish_39 : decode cX0_errorOfWish 39 = .ok (.bipush (-5), 2) := by decide +kernel
theorem dX0_errorOfWish_41 : decode cX0_errorOfWish 41 = .ok (.goto 4, 3) := by decide +kernel
theorem dX0_errorOfWish_44 : decode cX0_errorOfWish 44 = .ok (.iconst 0, 1) := by decide +kernel
theorem dX0_errorOfWish_45 : decode cX0_errorOfWish 45 = .ok (.ireturn, 1) := by decide +kernel
set_option maxRecDepth 20000 in
theorem ggX0_keyAndTen_X7_keyAndTenBetween : GoodIn wsX0_keyAndTen wsX7_keyAndTenBetween := goodIn_r _ [16, 17, 18, 19, 15, 20, 21, 22, 36, 37, 38, 39, 40] (by decide +kernel) (by decide +kernel)
set_option maxRecDepth 20000 in
theorem gX0_keyAndTen_X7_keyAndTenBetween : GoodIn wsX0_keyAndTen (wsV RX0 67 RX7 yX7_keyAndTenBetween wsX7_keyAndTenBetween) := goodIn_app (goodIn_of _ (by decide +kernel)) ggX0_keyAndTen_X7_keyAndTenBetween
theorem dX0_keyAndTen_0 : decode cX0_keyAndTen 0 = .ok (.aload_n 0, 1) := by decide +kernel
theorem dX0_keyAndTen_1 : decode cX0_keyAndTen 1 = .ok (.getfield 12, 3) := by decide +kernel
theorem dX0_keyAndTen_4 : decode cX0_keyAndTen 4 = .ok (.getfield 51, 3) := by decide +kernel
theorem dX0_keyAndTen_7 : decode cX0_keyAndTen 7 = .ok (.iload_n 1, 1) := by decide +kernel
theorem dX0_keyAndTen_8 : decode cX0_keyAndTen 8 = .ok (.iaload, 1) := by decide +kernel
theorem dX0_keyAndTen_9 : decode cX0_keyAndTen 9 = .ok (.istore 4, 2) := by decide +kernel
theorem dX0_keyAndTen_11 : decode cX0_keyAndTen 11 = .ok (.aload_n 0, 1) := by decide +kernel
theorem dX0_keyAndTen_12 : decode cX0_keyAndTen 12 = .ok (.getfield 12, 3) := by decide +kernel
theorem dX0_keyAndTen_15 : decode cX0_keyAndTen 15 = .ok (.getfield 55, 3) := by decide +kernel
theorem dX0_keyAndTen_18 : decode cX0_keyAndTen 18 = .ok (.iload_n 1, 1) := by decide +kernel
theorem dX0_keyAndTen_19 : decode cX0_keyAndTen 19 = .ok (.iaload, 1) := by decide +kernel
theorem dX0_keyAndTen_20 : decode cX0_keyAndTen 20 = .ok (.istore 5, 2) := by decide +kernel
theorem dX0_keyAndTen_22 : decode cX0_keyAndTen 22 = .ok (.iload_n 2, 1) := by decide +kernel
theorem dX0_keyAndTen_23 : decode cX0_keyAndTen 23 = .ok (.bipush (-6), 2) := by decide +kernel
theorem dX0_keyAndTen_25 : decode cX0_keyAndTen 25 = .ok (.if_icmp .eq 35, 3) := by decide +kernel
theorem dX0_keyAndTen_28 : decode cX0_keyAndTen 28 = .ok (.iload 4, 2) := by decide +kernel
theorem dX0_keyAndTen_30 : decode cX0_keyAndTen 30 = .ok (.aload_n 0, 1) := by decide +kernel
theorem dX0_keyAndTen_31 : decode cX0_keyAndTen 31 = .ok (.getfield 12, 3) := by decide +kernel
theorem dX0_keyAndTen_34 : decode cX0_keyAndTen 34 = .ok (.getfield 51, 3) := by decide +kernel
theorem dX0_keyAndTen_37 : decode cX0_keyAndTen 37 = .ok (.iload_n 2, 1) := by decide +kernel
theorem dX0_keyAndTen_38 : decode cX0_keyAndTen 38 = .ok (.iaload, 1) := by decide +kernel
theorem dX0_keyAndTen_39 : decode cX0_keyAndTen 39 = .ok (.invokestatic 58, 3) := by decide +kernel
theorem dX0_keyAndTen_42 : decode cX0_keyAndTen 42 = .ok (.istore 4, 2) := by decide +kernel
theorem dX0_keyAndTen_44 : decode cX0_keyAndTen 44 = .ok (.iload 5, 2) := by decide +kernel
theorem dX0_keyAndTen_46 : decode cX0_keyAndTen 46 = .ok (.aload_n 0, 1) := by decide +kernel
theorem dX0_keyAndTen_47 : decode cX0_keyAndTen 47 = .ok (.getfield 12, 3) := by decide +kernel
theorem dX0_keyAndTen_50 : decode cX0_keyAndTen 50 = .ok (.getfield 55, 3) := by decide +kernel
theorem dX0_keyAndTen_53 : decode cX0_keyAndTen 53 = .ok (.iload_n 2, 1) := by decide +kernel
theorem dX0_keyAndTen_54 : decode cX0_keyAndTen 54 = .ok (.iaload, 1) := by decide +kernel
theorem dX0_keyAndTen_55 : decode cX0_keyAndTen 55 = .ok (.invokestatic 64, 3) := by decide +kernel
theorem dX0_keyAndTen_58 : decode cX0_keyAndTen 58 = .ok (.istore 5, 2) := by decide +kernel
theorem dX0_keyAndTen_60 : decode cX0_keyAndTen 60 = .ok (.aload_n 0, 1) := by decide +kernel
theorem dX0_keyAndTen_61 : decode cX0_keyAndTen 61 = .ok (.getfield 21, 3) := by decide +kernel
theorem dX0_keyAndTen_64 : decode cX0_keyAndTen 64 = .ok (.iload 4, 2) := by decide +kernel
theorem dX0_keyAndTen_66 : decode cX0_keyAndTen 66 = .ok (.iload 5, 2) := by decide +kernel
theorem dX0_keyAndTen_68 : decode cX0_keyAndTen 68 = .ok (.iload_n 3, 1) := by decide +kernel
theorem dX0_keyAndTen_69 : decode cX0_keyAndTen 69 = .ok (.invokevirtual 67, 3) := by decide +kernel
theorem dX0_keyAndTen_72 : decode cX0_keyAndTen 72 = .ok (.ireturn, 1) := by decide +kernel
set_option maxRecDepth 20000 in
theorem ggX0_singersWithKey_X0_keyAndTen : GoodIn wsX0_singersWithKey wsX0_keyAndTen := goodIn_r _ [7, 1, 8, 9, 10, 11, 12, 13, 14, 15, 16, 17, 18, 19, 20, 21, 22, 23, 24, 25, 26, 27, 28, 29, 30, 31, 32, 33, 34, 35, 36, 37, 38, 39, 40, 41, 42, 43, 44, 45, 46] (by decide +kernel) (by decide +kernel)
set_option maxRecDepth 20000 in
theorem gX0_singersWithKey_X0_keyAndTen : GoodIn wsX0_singersWithKey (wsV RX0 48 RX0 yX0_keyAndTen wsX0_keyAndTen) := goodIn_app (goodIn_of _ (by decide +kernel)) ggX0_singersWithKey_X0_keyAndTen
theorem dX0_singersWithKey_0 : decode cX0_singersWithKey 0 = .ok (.iconst 0, 1) := by decide +kernel
theorem dX0_singersWithKey_1 : decode cX0_singersWithKey 1 = .ok (.istore_n 2, 1) := by decide +kernel
theorem dX0_singersWithKey_2 : decode cX0_singersWithKey 2 = .ok (.iconst 0, 1) := by decide +kernel
theorem dX0_singersWithKey_3 : decode cX0_singersWithKey 3 = .ok (.istore_n 3, 1) := by decide +kernel
theorem dX0_singersWithKey_4 : decode cX0_singersWithKey 4 = .ok (.iload_n 3, 1) := by decide +kernel
theorem dX0_singersWithKey_5 : decode cX0_singersWithKey 5 = .ok (.aload_n 0, 1) := by decide +kernel
theorem dX0_singersWithKey_6 : decode cX0_singersWithKey 6 = .ok (.getfield 12, 3) := by decide +kernel
theorem dX0_singersWithKey_9 : decode cX0_singersWithKey 9 = .ok (.getfield 70, 3) := by decide +kernel
theorem dX0_singersWithKey_12 : decode cX0_singersWithKey 12 = .ok (.if_icmp .ge 28, 3) := by decide +kernel
theorem dX0_singersWithKey_15 : decode cX0_singersWithKey 15 = .ok (.aload_n 0, 1) := by decide +kernel
theorem dX0_singersWithKey_16 : decode cX0_singersWithKey 16 = .ok (.iload_n 3, 1) := by decide +kernel
theorem dX0_singersWithKey_17 : decode cX0_singersWithKey 17 = .ok (.bipush (-6), 2) := by decide +kernel
theorem dX0_singersWithKey_19 : decode cX0_singersWithKey 19 = .ok (.iload_n 1, 1) := by decide +kernel
theorem dX0_singersWithKey_20 : decode cX0_singersWithKey 20 = .ok (.invokevirtual 48, 3) := by decide +kernel
theorem dX0_singersWithKey_23 : decode cX0_singersWithKey 23 = .ok (.bipush (-6), 2) := by decide +kernel
theorem dX0_singersWithKey_25 : decode cX0_singersWithKey 25 = .ok (.if_icmp .eq 9, 3) := by decide +kernel
theorem dX0_singersWithKey_28 : decode cX0_singersWithKey 28 = .ok (.iload_n 2, 1) := by decide +kernel
theorem dX0_singersWithKey_29 : decode cX0_singersWithKey 29 = .ok (.iconst 1, 1) := by decide +kernel
theorem dX0_singersWithKey_30 : decode cX0_singersWithKey 30 = .ok (.iload_n 3, 1) := by decide +kernel
theorem dX0_singersWithKey_31 : decode cX0_singersWithKey 31 = .ok (.ishl, 1) := by decide +kernel
theorem dX0_singersWithKey_32 : decode cX0_singersWithKey 32 = .ok (.ior, 1) := by decide +kernel
theorem dX0_singersWithKey_33 : decode cX0_singersWithKey 33 = .ok (.istore_n 2, 1) := by decide +kernel
theorem dX0_singersWithKey_34 : decode cX0_singersWithKey 34 = .ok (.iinc 3 1, 3) := by decide +kernel
theorem dX0_singersWithKey_37 : decode cX0_singersWithKey 37 = .ok (.goto (-33), 3) := by decide +kernel
theorem dX0_singersWithKey_40 : decode cX0_singersWithKey 40 = .ok (.iload_n 2, 1) := by decide +kernel
theorem dX0_singersWithKey_41 : decode cX0_singersWithKey 41 = .ok (.ireturn, 1) := by decide +kernel
set_option maxRecDepth 20000 in
theorem ggX0_isReady_X8_readyOnes : GoodIn wsX0_isReady wsX8_readyOnes := goodIn_r _ [8, 9, 10, 11, 7, 12, 13, 14, 15, 16, 17, 18, 19, 36, 37, 38, 39] (by decide +kernel) (by decide +kernel)
set_option maxRecDepth 20000 in
theorem gX0_isReady_X8_readyOnes : GoodIn wsX0_isReady (wsV RX0 77 RX8 yX8_readyOnes wsX8_readyOnes) := goodIn_app (goodIn_of _ (by decide +kernel)) ggX0_isReady_X8_readyOnes
set_option maxRecDepth 20000 in
theorem ggX0_isReady_X9_isIn : GoodIn wsX0_isReady wsX9_isIn := goodIn_r _ [22] (by decide +kernel) (by decide +kernel)
set_option maxRecDepth 20000 in
theorem gX0_isReady_X9_isIn_n81 : GoodIn wsX0_isReady (wsX9_isIn) := ggX0_isReady_X9_isIn
theorem dX0_isReady_0 : decode cX0_isReady 0 = .ok (.aload_n 0, 1) := by decide +kernel
theorem dX0_isReady_1 : decode cX0_isReady 1 = .ok (.getfield 28, 3) := by decide +kernel
theorem dX0_isReady_4 : decode cX0_isReady 4 = .ok (.aload_n 0, 1) := by decide +kernel
theorem dX0_isReady_5 : decode cX0_isReady 5 = .ok (.getfield 12, 3) := by decide +kernel
theorem dX0_isReady_8 : decode cX0_isReady 8 = .ok (.getfield 74, 3) := by decide +kernel
theorem dX0_isReady_11 : decode cX0_isReady 11 = .ok (.invokevirtual 77, 3) := by decide +kernel
theorem dX0_isReady_14 : decode cX0_isReady 14 = .ok (.iload_n 1, 1) := by decide +kernel
theorem dX0_isReady_15 : decode cX0_isReady 15 = .ok (.invokestatic 81, 3) := by decide +kernel
theorem dX0_isReady_18 : decode cX0_isReady 18 = .ok (.ireturn, 1) := by decide +kernel
theorem dX0_lengthOfWish_0 : decode cX0_lengthOfWish 0 = .ok (.aload_n 0, 1) := by decide +kernel
theorem dX0_lengthOfWish_1 : decode cX0_lengthOfWish 1 = .ok (.getfield 21, 3) := by decide +kernel
theorem dX0_lengthOfWish_4 : decode cX0_lengthOfWish 4 = .ok (.getfield 85, 3) := by decide +kernel
theorem dX0_lengthOfWish_7 : decode cX0_lengthOfWish 7 = .ok (.aload_n 0, 1) := by decide +kernel
theorem dX0_lengthOfWish_8 : decode cX0_lengthOfWish 8 = .ok (.getfield 28, 3) := by decide +kernel
theorem dX0_lengthOfWish_11 : decode cX0_lengthOfWish 11 = .ok (.getfield 88, 3) := by decide +kernel
theorem dX0_lengthOfWish_14 : decode cX0_lengthOfWish 14 = .ok (.iload_n 1, 1) := by decide +kernel
theorem dX0_lengthOfWish_15 : decode cX0_lengthOfWish 15 = .ok (.iaload, 1) := by decide +kernel
theorem dX0_lengthOfWish_16 : decode cX0_lengthOfWish 16 = .ok (.iaload, 1) := by decide +kernel
theorem dX0_lengthOfWish_17 : decode cX0_lengthOfWish 17 = .ok (.ireturn, 1) := by decide +kernel
set_option maxRecDepth 20000 in
theorem ggX0_nextWish_X8_readyOnes : GoodIn wsX0_nextWish wsX8_readyOnes := goodIn_r _ [10, 11, 12, 13, 9, 14, 15, 16, 17, 18, 19, 20, 21, 58, 59, 60, 61] (by decide +kernel) (by decide +kernel)
set_option maxRecDepth 20000 in
theorem gX0_nextWish_X8_readyOnes : GoodIn wsX0_nextWish (wsV RX0 77 RX8 yX8_readyOnes wsX8_readyOnes) := goodIn_app (goodIn_of _ (by decide +kernel)) ggX0_nextWish_X8_readyOnes
set_option maxRecDepth 20000 in
theorem ggX0_nextWish_X8_nextAmong : GoodIn wsX0_nextWish wsX8_nextAmong := goodIn_r _ [25, 26, 27, 28, 9, 29, 11, 12, 13, 14, 15, 16, 17, 18, 19, 20, 21, 30, 31, 32, 33, 34, 35, 36, 37, 38, 39, 40, 41, 42, 43, 44, 58, 59, 60, 61] (by decide +kernel) (by decide +kernel)
set_option maxRecDepth 20000 in
theorem gX0_nextWish_X8_nextAmong : GoodIn wsX0_nextWish (wsV RX0 97 RX8 yX8_nextAmong wsX8_nextAmong) := goodIn_app (goodIn_of _ (by decide +kernel)) ggX0_nextWish_X8_nextAmong
theorem dX0_nextWish_0 : decode cX0_nextWish 0 = .ok (.aload_n 0, 1) := by decide +kernel
theorem dX0_nextWish_1 : decode cX0_nextWish 1 = .ok (.getfield 28, 3) := by decide +kernel
theorem dX0_nextWish_4 : decode cX0_nextWish 4 = .ok (.aload_n 0, 1) := by decide +kernel
theorem dX0_nextWish_5 : decode cX0_nextWish 5 = .ok (.getfield 28, 3) := by decide +kernel
theorem dX0_nextWish_8 : decode cX0_nextWish 8 = .ok (.aload_n 0, 1) := by decide +kernel
theorem dX0_nextWish_9 : decode cX0_nextWish 9 = .ok (.getfield 12, 3) := by decide +kernel
theorem dX0_nextWish_12 : decode cX0_nextWish 12 = .ok (.getfield 74, 3) := by decide +kernel
theorem dX0_nextWish_15 : decode cX0_nextWish 15 = .ok (.invokevirtual 77, 3) := by decide +kernel
theorem dX0_nextWish_18 : decode cX0_nextWish 18 = .ok (.aload_n 0, 1) := by decide +kernel
theorem dX0_nextWish_19 : decode cX0_nextWish 19 = .ok (.getfield 12, 3) := by decide +kernel
theorem dX0_nextWish_22 : decode cX0_nextWish 22 = .ok (.getfield 91, 3) := by decide +kernel
theorem dX0_nextWish_25 : decode cX0_nextWish 25 = .ok (.aload_n 0, 1) := by decide +kernel
theorem dX0_nextWish_26 : decode cX0_nextWish 26 = .ok (.getfield 12, 3) := by decide +kernel
theorem dX0_nextWish_29 : decode cX0_nextWish 29 = .ok (.getfield 94, 3) := by decide +kernel
theorem dX0_nextWish_32 : decode cX0_nextWish 32 = .ok (.invokevirtual 97, 3) := by decide +kernel
theorem dX0_nextWish_35 : decode cX0_nextWish 35 = .ok (.ireturn, 1) := by decide +kernel
set_option maxRecDepth 20000 in
theorem ggX0_singTurn_X0_lengthOfWish : GoodIn wsX0_singTurn wsX0_lengthOfWish := goodIn_r _ [15, 8, 16, 1, 2, 56, 57, 58, 59, 60, 61, 66, 67, 68, 69, 70, 62, 63, 64, 65] (by decide +kernel) (by decide +kernel)
set_option maxRecDepth 20000 in
theorem gX0_singTurn_X0_lengthOfWish : GoodIn wsX0_singTurn (wsV RX0 101 RX0 yX0_lengthOfWish wsX0_lengthOfWish) := goodIn_app (goodIn_of _ (by decide +kernel)) ggX0_singTurn_X0_lengthOfWish
set_option maxRecDepth 20000 in
theorem ggX0_singTurn_X4_remember : GoodIn wsX0_singTurn wsX4_remember := goodIn_r _ [21, 22, 23, 24, 25, 26, 27, 28, 29, 30, 71, 72, 73, 74, 75] (by decide +kernel) (by decide +kernel)
set_option maxRecDepth 20000 in
theorem gX0_singTurn_X4_remember : GoodIn wsX0_singTurn (wsV RX0 113 RX4 yX4_remember wsX4_remember) := goodIn_app (goodIn_of _ (by decide +kernel)) ggX0_singTurn_X4_remember
set_option maxRecDepth 20000 in
theorem ggX0_singTurn_X8_singersOf : GoodIn wsX0_singTurn wsX8_singersOf := goodIn_r _ [35, 36, 37, 62, 63, 64, 65] (by decide +kernel) (by decide +kernel)
set_option maxRecDepth 20000 in
theorem gX0_singTurn_X8_singersOf : GoodIn wsX0_singTurn (wsV RX0 117 RX8 yX8_singersOf wsX8_singersOf) := goodIn_app (goodIn_of _ (by decide +kernel)) ggX0_singTurn_X8_singersOf
set_option maxRecDepth 20000 in
theorem ggX0_singTurn_X6_singTurn : GoodIn wsX0_singTurn wsX6_singTurn := goodIn_r _ [42, 43, 44, 45, 46, 47, 48, 49, 76, 77, 78, 79, 80, 81, 82] (by decide +kernel) (by decide +kernel)
set_option maxRecDepth 20000 in
theorem gX0_singTurn_X6_singTurn : GoodIn wsX0_singTurn (wsV RX0 120 RX6 yX6_singTurn wsX6_singTurn) := goodIn_app (goodIn_of _ (by decide +kernel)) ggX0_singTurn_X6_singTurn
set_option maxRecDepth 20000 in
theorem ggX0_singTurn_X8_removeAt : GoodIn wsX0_singTurn wsX8_removeAt := goodIn_r _ [53, 54, 36, 37, 55, 62, 63, 64, 65] (by decide +kernel) (by decide +kernel)
set_option maxRecDepth 20000 in
theorem gX0_singTurn_X8_removeAt : GoodIn wsX0_singTurn (wsV RX0 130 RX8 yX8_removeAt wsX8_removeAt) := goodIn_app (goodIn_of _ (by decide +kernel)) ggX0_singTurn_X8_removeAt
theorem dX0_singTurn_0 : decode cX0_singTurn 0 = .ok (.aload_n 0, 1) := by decide +kernel
theorem dX0_singTurn_1 : decode cX0_singTurn 1 = .ok (.iload_n 1, 1) := by decide +kernel
theorem dX0_singTurn_2 : decode cX0_singTurn 2 = .ok (.invokevirtual 101, 3) := by decide +kernel
theorem dX0_singTurn_5 : decode cX0_singTurn 5 = .ok (.istore_n 2, 1) := by decide +kernel
theorem dX0_singTurn_6 : decode cX0_singTurn 6 = .ok (.aload_n 0, 1) := by decide +kernel
theorem dX0_singTurn_7 : decode cX0_singTurn 7 = .ok (.getfield 28, 3) := by decide +kernel
theorem dX0_singTurn_10 : decode cX0_singTurn 10 = .ok (.getfield 88, 3) := by decide +kernel
theorem dX0_singTurn_13 : decode cX0_singTurn 13 = .ok (.iload_n 1, 1) := by decide +kernel
theorem dX0_singTurn_14 : decode cX0_singTurn 14 = .ok (.iaload, 1) := by decide +kernel
theorem dX0_singTurn_15 : decode cX0_singTurn 15 = .ok (.istore_n 3, 1) := by decide +kernel
theorem dX0_singTurn_16 : decode cX0_singTurn 16 = .ok (.aload_n 0, 1) := by decide +kernel
theorem dX0_singTurn_17 : decode cX0_singTurn 17 = .ok (.getfield 35, 3) := by decide +kernel
theorem dX0_singTurn_20 : decode cX0_singTurn 20 = .ok (.aload_n 0, 1) := by decide +kernel
theorem dX0_singTurn_21 : decode cX0_singTurn 21 = .ok (.getfield 28, 3) := by decide +kernel
theorem dX0_singTurn_24 : decode cX0_singTurn 24 = .ok (.getfield 104, 3) := by decide +kernel
theorem dX0_singTurn_27 : decode cX0_singTurn 27 = .ok (.iload_n 1, 1) := by decide +kernel
theorem dX0_singTurn_28 : decode cX0_singTurn 28 = .ok (.iaload, 1) := by decide +kernel
theorem dX0_singTurn_29 : decode cX0_singTurn 29 = .ok (.aload_n 0, 1) := by decide +kernel
theorem dX0_singTurn_30 : decode cX0_singTurn 30 = .ok (.getfield 28, 3) := by decide +kernel
theorem dX0_singTurn_33 : decode cX0_singTurn 33 = .ok (.getfield 107, 3) := by decide +kernel
theorem dX0_singTurn_36 : decode cX0_singTurn 36 = .ok (.iload_n 1, 1) := by decide +kernel
theorem dX0_singTurn_37 : decode cX0_singTurn 37 = .ok (.iaload, 1) := by decide +kernel
theorem dX0_singTurn_38 : decode cX0_singTurn 38 = .ok (.iload_n 3, 1) := by decide +kernel
theorem dX0_singTurn_39 : decode cX0_singTurn 39 = .ok (.aload_n 0, 1) := by decide +kernel
theorem dX0_singTurn_40 : decode cX0_singTurn 40 = .ok (.getfield 110, 3) := by decide +kernel
theorem dX0_singTurn_43 : decode cX0_singTurn 43 = .ok (.invokevirtual 113, 3) := by decide +kernel
theorem dX0_singTurn_46 : decode cX0_singTurn 46 = .ok (.aload_n 0, 1) := by decide +kernel
theorem dX0_singTurn_47 : decode cX0_singTurn 47 = .ok (.getfield 12, 3) := by decide +kernel
theorem dX0_singTurn_50 : decode cX0_singTurn 50 = .ok (.aload_n 0, 1) := by decide +kernel
theorem dX0_singTurn_51 : decode cX0_singTurn 51 = .ok (.getfield 28, 3) := by decide +kernel
theorem dX0_singTurn_54 : decode cX0_singTurn 54 = .ok (.iload_n 1, 1) := by decide +kernel
theorem dX0_singTurn_55 : decode cX0_singTurn 55 = .ok (.invokevirtual 117, 3) := by decide +kernel
theorem dX0_singTurn_58 : decode cX0_singTurn 58 = .ok (.iload_n 2, 1) := by decide +kernel
theorem dX0_singTurn_59 : decode cX0_singTurn 59 = .ok (.invokevirtual 120, 3) := by decide +kernel
theorem dX0_singTurn_62 : decode cX0_singTurn 62 = .ok (.aload_n 0, 1) := by decide +kernel
theorem dX0_singTurn_63 : decode cX0_singTurn 63 = .ok (.getfield 21, 3) := by decide +kernel
theorem dX0_singTurn_66 : decode cX0_singTurn 66 = .ok (.getfield 124, 3) := by decide +kernel
theorem dX0_singTurn_69 : decode cX0_singTurn 69 = .ok (.iload_n 3, 1) := by decide +kernel
theorem dX0_singTurn_70 : decode cX0_singTurn 70 = .ok (.dup2, 1) := by decide +kernel
theorem dX0_singTurn_71 : decode cX0_singTurn 71 = .ok (.iaload, 1) := by decide +kernel
theorem dX0_singTurn_72 : decode cX0_singTurn 72 = .ok (.iconst 1, 1) := by decide +kernel
theorem dX0_singTurn_73 : decode cX0_singTurn 73 = .ok (.iadd, 1) := by decide +kernel
theorem dX0_singTurn_74 : decode cX0_singTurn 74 = .ok (.iastore, 1) := by decide +kernel
theorem dX0_singTurn_75 : decode cX0_singTurn 75 = .ok (.aload_n 0, 1) := by decide +kernel
theorem dX0_singTurn_76 : decode cX0_singTurn 76 = .ok (.dup, 1) := by decide +kernel
theorem dX0_singTurn_77 : decode cX0_singTurn 77 = .ok (.getfield 110, 3) := by decide +kernel
theorem dX0_singTurn_80 : decode cX0_singTurn 80 = .ok (.iload_n 2, 1) := by decide +kernel
theorem dX0_singTurn_81 : decode cX0_singTurn 81 = .ok (.iadd, 1) := by decide +kernel
theorem dX0_singTurn_82 : decode cX0_singTurn 82 = .ok (.putfield 110, 3) := by decide +kernel
theorem dX0_singTurn_85 : decode cX0_singTurn 85 = .ok (.aload_n 0, 1) := by decide +kernel
theorem dX0_singTurn_86 : decode cX0_singTurn 86 = .ok (.dup, 1) := by decide +kernel
theorem dX0_singTurn_87 : decode cX0_singTurn 87 = .ok (.getfield 127, 3) := by decide +kernel
theorem dX0_singTurn_90 : decode cX0_singTurn 90 = .ok (.iconst 1, 1) := by decide +kernel
theorem dX0_singTurn_91 : decode cX0_singTurn 91 = .ok (.iadd, 1) := by decide +kernel
theorem dX0_singTurn_92 : decode cX0_singTurn 92 = .ok (.putfield 127, 3) := by decide +kernel
theorem dX0_singTurn_95 : decode cX0_singTurn 95 = .ok (.aload_n 0, 1) := by decide +kernel
theorem dX0_singTurn_96 : decode cX0_singTurn 96 = .ok (.getfield 28, 3) := by decide +kernel
theorem dX0_singTurn_99 : decode cX0_singTurn 99 = .ok (.iload_n 1, 1) := by decide +kernel
theorem dX0_singTurn_100 : decode cX0_singTurn 100 = .ok (.invokevirtual 130, 3) := by decide +kernel
theorem dX0_singTurn_103 : decode cX0_singTurn 103 = .ok (.return_, 1) := by decide +kernel
set_option maxRecDepth 20000 in
theorem ggX0_copyFrom_X6_copyFrom : GoodIn wsX0_copyFrom wsX6_copyFrom := goodIn_r _ [11, 12, 13, 14, 15, 16, 17, 18, 19, 20, 21, 22, 23, 24, 25, 26, 27, 28, 29, 65, 66, 67, 68, 69, 70, 71] (by decide +kernel) (by decide +kernel)
set_option maxRecDepth 20000 in
theorem gX0_copyFrom_X6_copyFrom : GoodIn wsX0_copyFrom (wsV RX0 134 RX6 yX6_copyFrom wsX6_copyFrom) := goodIn_app (goodIn_of _ (by decide +kernel)) ggX0_copyFrom_X6_copyFrom
set_option maxRecDepth 20000 in
theorem ggX0_copyFrom_X7_copyFrom : GoodIn wsX0_copyFrom wsX7_copyFrom := goodIn_r _ [34, 35, 36, 37, 38, 39, 19, 20, 21, 22, 23, 24, 25, 26, 27, 28, 29, 72, 73, 74, 75, 76] (by decide +kernel) (by decide +kernel)
set_option maxRecDepth 20000 in
theorem gX0_copyFrom_X7_copyFrom : GoodIn wsX0_copyFrom (wsV RX0 138 RX7 yX7_copyFrom wsX7_copyFrom) := goodIn_app (goodIn_of _ (by decide +kernel)) ggX0_copyFrom_X7_copyFrom
set_option maxRecDepth 20000 in
theorem ggX0_copyFrom_X8_copyFrom : GoodIn wsX0_copyFrom wsX8_copyFrom := goodIn_r _ [44, 45, 46, 47, 48, 19, 20, 21, 22, 23, 24, 25, 26, 27, 28, 29, 77, 78, 79, 80] (by decide +kernel) (by decide +kernel)
set_option maxRecDepth 20000 in
theorem gX0_copyFrom_X8_copyFrom : GoodIn wsX0_copyFrom (wsV RX0 141 RX8 yX8_copyFrom wsX8_copyFrom) := goodIn_app (goodIn_of _ (by decide +kernel)) ggX0_copyFrom_X8_copyFrom
set_option maxRecDepth 20000 in
theorem ggX0_copyFrom_X4_copyFrom : GoodIn wsX0_copyFrom wsX4_copyFrom := goodIn_r _ [53, 54, 55, 56, 57, 58, 19, 20, 21, 22, 23, 24, 25, 26, 27, 28, 29, 81, 82, 83, 84, 85] (by decide +kernel) (by decide +kernel)
set_option maxRecDepth 20000 in
theorem gX0_copyFrom_X4_copyFrom : GoodIn wsX0_copyFrom (wsV RX0 144 RX4 yX4_copyFrom wsX4_copyFrom) := goodIn_app (goodIn_of _ (by decide +kernel)) ggX0_copyFrom_X4_copyFrom
theorem dX0_copyFrom_0 : decode cX0_copyFrom 0 = .ok (.aload_n 0, 1) := by decide +kernel
theorem dX0_copyFrom_1 : decode cX0_copyFrom 1 = .ok (.getfield 12, 3) := by decide +kernel
theorem dX0_copyFrom_4 : decode cX0_copyFrom 4 = .ok (.aload_n 1, 1) := by decide +kernel
theorem dX0_copyFrom_5 : decode cX0_copyFrom 5 = .ok (.getfield 12, 3) := by decide +kernel
theorem dX0_copyFrom_8 : decode cX0_copyFrom 8 = .ok (.invokevirtual 134, 3) := by decide +kernel
theorem dX0_copyFrom_11 : decode cX0_copyFrom 11 = .ok (.aload_n 0, 1) := by decide +kernel
theorem dX0_copyFrom_12 : decode cX0_copyFrom 12 = .ok (.getfield 21, 3) := by decide +kernel
theorem dX0_copyFrom_15 : decode cX0_copyFrom 15 = .ok (.aload_n 1, 1) := by decide +kernel
theorem dX0_copyFrom_16 : decode cX0_copyFrom 16 = .ok (.getfield 21, 3) := by decide +kernel
theorem dX0_copyFrom_19 : decode cX0_copyFrom 19 = .ok (.invokevirtual 138, 3) := by decide +kernel
theorem dX0_copyFrom_22 : decode cX0_copyFrom 22 = .ok (.aload_n 0, 1) := by decide +kernel
theorem dX0_copyFrom_23 : decode cX0_copyFrom 23 = .ok (.getfield 28, 3) := by decide +kernel
theorem dX0_copyFrom_26 : decode cX0_copyFrom 26 = .ok (.aload_n 1, 1) := by decide +kernel
theorem dX0_copyFrom_27 : decode cX0_copyFrom 27 = .ok (.getfield 28, 3) := by decide +kernel
theorem dX0_copyFrom_30 : decode cX0_copyFrom 30 = .ok (.invokevirtual 141, 3) := by decide +kernel
theorem dX0_copyFrom_33 : decode cX0_copyFrom 33 = .ok (.aload_n 0, 1) := by decide +kernel
theorem dX0_copyFrom_34 : decode cX0_copyFrom 34 = .ok (.getfield 35, 3) := by decide +kernel
theorem dX0_copyFrom_37 : decode cX0_copyFrom 37 = .ok (.aload_n 1, 1) := by decide +kernel
theorem dX0_copyFrom_38 : decode cX0_copyFrom 38 = .ok (.getfield 35, 3) := by decide +kernel
theorem dX0_copyFrom_41 : decode cX0_copyFrom 41 = .ok (.invokevirtual 144, 3) := by decide +kernel
theorem dX0_copyFrom_44 : decode cX0_copyFrom 44 = .ok (.aload_n 0, 1) := by decide +kernel
theorem dX0_copyFrom_45 : decode cX0_copyFrom 45 = .ok (.aload_n 1, 1) := by decide +kernel
theorem dX0_copyFrom_46 : decode cX0_copyFrom 46 = .ok (.getfield 110, 3) := by decide +kernel
theorem dX0_copyFrom_49 : decode cX0_copyFrom 49 = .ok (.putfield 110, 3) := by decide +kernel
theorem dX0_copyFrom_52 : decode cX0_copyFrom 52 = .ok (.aload_n 0, 1) := by decide +kernel
theorem dX0_copyFrom_53 : decode cX0_copyFrom 53 = .ok (.aload_n 1, 1) := by decide +kernel
theorem dX0_copyFrom_54 : decode cX0_copyFrom 54 = .ok (.getfield 127, 3) := by decide +kernel
theorem dX0_copyFrom_57 : decode cX0_copyFrom 57 = .ok (.putfield 127, 3) := by decide +kernel
theorem dX0_copyFrom_60 : decode cX0_copyFrom 60 = .ok (.return_, 1) := by decide +kernel
set_option maxRecDepth 20000 in
theorem ggX1_init_X0_init : GoodIn wsX1_init wsX0_init := goodIn_r _ [9, 10, 2, 3, 11, 12, 13, 14, 15, 16, 17, 18, 19, 20, 21, 22, 23, 24, 25, 26, 27, 28, 29, 30, 31, 32, 33, 34, 35, 36, 37, 38, 39, 40, 41, 42, 43, 44, 45, 46, 47, 48, 49, 50, 51, 52, 53, 54, 64, 65, 66, 67, 68, 69, 70, 58, 59, 60, 61, 62, 63, 71, 72, 73, 74, 75, 76, 77, 78, 79, 80, 81, 82, 83, 84] (by decide +kernel) (by decide +kernel)
set_option maxRecDepth 20000 in
theorem gX1_init_X0_init_n17 : GoodIn wsX1_init (wsX0_init) := ggX1_init_X0_init
theorem dX1_init_0 : decode cX1_init 0 = .ok (.aload_n 0, 1) := by decide +kernel
theorem dX1_init_1 : decode cX1_init 1 = .ok (.invokespecial 3, 3) := by decide +kernel
theorem dX1_init_4 : decode cX1_init 4 = .ok (.aload_n 0, 1) := by decide +kernel
theorem dX1_init_5 : decode cX1_init 5 = .ok (.bipush 6, 2) := by decide +kernel
theorem dX1_init_7 : decode cX1_init 7 = .ok (.anewarray 9, 3) := by decide +kernel
theorem dX1_init_10 : decode cX1_init 10 = .ok (.putfield 11, 3) := by decide +kernel
theorem dX1_init_13 : decode cX1_init 13 = .ok (.iconst 0, 1) := by decide +kernel
theorem dX1_init_14 : decode cX1_init 14 = .ok (.istore_n 1, 1) := by decide +kernel
theorem dX1_init_15 : decode cX1_init 15 = .ok (.iload_n 1, 1) := by decide +kernel
theorem dX1_init_16 : decode cX1_init 16 = .ok (.bipush 6, 2) := by decide +kernel
theorem dX1_init_18 : decode cX1_init 18 = .ok (.if_icmp .ge 22, 3) := by decide +kernel
theorem dX1_init_21 : decode cX1_init 21 = .ok (.aload_n 0, 1) := by decide +kernel
theorem dX1_init_22 : decode cX1_init 22 = .ok (.getfield 11, 3) := by decide +kernel
theorem dX1_init_25 : decode cX1_init 25 = .ok (.iload_n 1, 1) := by decide +kernel
theorem dX1_init_26 : decode cX1_init 26 = .ok (.new 9, 3) := by decide +kernel
theorem dX1_init_29 : decode cX1_init 29 = .ok (.dup, 1) := by decide +kernel
theorem dX1_init_30 : decode cX1_init 30 = .ok (.invokespecial 17, 3) := by decide +kernel
theorem dX1_init_33 : decode cX1_init 33 = .ok (.aastore, 1) := by decide +kernel
theorem dX1_init_34 : decode cX1_init 34 = .ok (.iinc 1 1, 3) := by decide +kernel
theorem dX1_init_37 : decode cX1_init 37 = .ok (.goto (-22), 3) := by decide +kernel
theorem dX1_init_40 : decode cX1_init 40 = .ok (.return_, 1) := by decide +kernel
set_option maxRecDepth 20000 in
theorem ggX1_keep_X0_copyFrom : GoodIn wsX1_keep wsX0_copyFrom := goodIn_r _ [12, 13, 14, 15, 16, 17, 18, 19, 20, 21, 22, 23, 24, 25, 26, 27, 28, 29, 30, 31, 32, 33, 34, 5, 6, 7, 35, 36, 37, 38, 39, 40, 41, 42, 43, 44, 45, 46, 47, 48, 49, 50, 51, 52, 53, 54, 55, 56, 57, 58, 59, 60, 61, 62, 63, 64, 65, 66, 67, 71, 72, 73, 74, 75, 76, 77, 78, 79, 80, 81, 82, 83, 84, 85, 86, 87, 88, 89, 90, 91, 92, 93, 94, 95, 96, 97] (by decide +kernel) (by decide +kernel)
set_option maxRecDepth 20000 in
theorem gX1_keep_X0_copyFrom : GoodIn wsX1_keep (wsV RX1 22 RX0 yX0_copyFrom wsX0_copyFrom) := goodIn_app (goodIn_of _ (by decide +kernel)) ggX1_keep_X0_copyFrom
theorem dX1_keep_0 : decode cX1_keep 0 = .ok (.aload_n 0, 1) := by decide +kernel
theorem dX1_keep_1 : decode cX1_keep 1 = .ok (.getfield 11, 3) := by decide +kernel
theorem dX1_keep_4 : decode cX1_keep 4 = .ok (.aload_n 0, 1) := by decide +kernel
theorem dX1_keep_5 : decode cX1_keep 5 = .ok (.getfield 18, 3) := by decide +kernel
theorem dX1_keep_8 : decode cX1_keep 8 = .ok (.aaload, 1) := by decide +kernel
theorem dX1_keep_9 : decode cX1_keep 9 = .ok (.aload_n 1, 1) := by decide +kernel
theorem dX1_keep_10 : decode cX1_keep 10 = .ok (.invokevirtual 22, 3) := by decide +kernel
theorem dX1_keep_13 : decode cX1_keep 13 = .ok (.aload_n 0, 1) := by decide +kernel
theorem dX1_keep_14 : decode cX1_keep 14 = .ok (.aload_n 0, 1) := by decide +kernel
theorem dX1_keep_15 : decode cX1_keep 15 = .ok (.getfield 18, 3) := by decide +kernel
theorem dX1_keep_18 : decode cX1_keep 18 = .ok (.iconst 5, 1) := by decide +kernel
theorem dX1_keep_19 : decode cX1_keep 19 = .ok (.if_icmp .ne 7, 3) := by decide +kernel
theorem dX1_keep_22 : decode cX1_keep 22 = .ok (.iconst 0, 1) := by decide +kernel
theorem dX1_keep_23 : decode cX1_keep 23 = .ok (.goto 9, 3) := by decide +kernel
theorem dX1_keep_26 : decode cX1_keep 26 = .ok (.aload_n 0, 1) := by decide +kernel
theorem dX1_keep_27 : decode cX1_keep 27 = .ok (.getfield 18, 3) := by decide +kernel
theorem dX1_keep_30 : decode cX1_keep 30 = .ok (.iconst 1, 1) := by decide +kernel
theorem dX1_keep_31 : decode cX1_keep 31 = .ok (.iadd, 1) := by decide +kernel
theorem dX1_keep_32 : decode cX1_keep 32 = .ok (.putfield 18, 3) := by decide +kernel
theorem dX1_keep_35 : decode cX1_keep 35 = .ok (.aload_n 0, 1) := by decide +kernel
theorem dX1_keep_36 : decode cX1_keep 36 = .ok (.aload_n 0, 1) := by decide +kernel
theorem dX1_keep_37 : decode cX1_keep 37 = .ok (.getfield 26, 3) := by decide +kernel
theorem dX1_keep_40 : decode cX1_keep 40 = .ok (.iconst 1, 1) := by decide +kernel
theorem dX1_keep_41 : decode cX1_keep 41 = .ok (.iadd, 1) := by decide +kernel
theorem dX1_keep_42 : decode cX1_keep 42 = .ok (.bipush 6, 2) := by decide +kernel
theorem dX1_keep_44 : decode cX1_keep 44 = .ok (.invokestatic 29, 3) := by decide +kernel
theorem dX1_keep_47 : decode cX1_keep 47 = .ok (.putfield 26, 3) := by decide +kernel
theorem dX1_keep_50 : decode cX1_keep 50 = .ok (.return_, 1) := by decide +kernel
theorem dX2_init_0 : decode cX2_init 0 = .ok (.aload_n 0, 1) := by decide +kernel
theorem dX2_init_1 : decode cX2_init 1 = .ok (.invokespecial 3, 3) := by decide +kernel
theorem dX2_init_4 : decode cX2_init 4 = .ok (.aload_n 0, 1) := by decide +kernel
theorem dX2_init_5 : decode cX2_init 5 = .ok (.bipush 60, 2) := by decide +kernel
theorem dX2_init_7 : decode cX2_init 7 = .ok (.newarray .char, 2) := by decide +kernel
theorem dX2_init_9 : decode cX2_init 9 = .ok (.putfield 9, 3) := by decide +kernel
theorem dX2_init_12 : decode cX2_init 12 = .ok (.return_, 1) := by decide +kernel
theorem dX3_init_0 : decode cX3_init 0 = .ok (.aload_n 0, 1) := by decide +kernel
theorem dX3_init_1 : decode cX3_init 1 = .ok (.invokespecial 3, 3) := by decide +kernel
theorem dX3_init_4 : decode cX3_init 4 = .ok (.aload_n 0, 1) := by decide +kernel
theorem dX3_init_5 : decode cX3_init 5 = .ok (.bipush 15, 2) := by decide +kernel
theorem dX3_init_7 : decode cX3_init 7 = .ok (.newarray .int, 2) := by decide +kernel
theorem dX3_init_9 : decode cX3_init 9 = .ok (.putfield 9, 3) := by decide +kernel
theorem dX3_init_12 : decode cX3_init 12 = .ok (.aload_n 0, 1) := by decide +kernel
theorem dX3_init_13 : decode cX3_init 13 = .ok (.bipush 15, 2) := by decide +kernel
theorem dX3_init_15 : decode cX3_init 15 = .ok (.newarray .int, 2) := by decide +kernel
theorem dX3_init_17 : decode cX3_init 17 = .ok (.putfield 15, 3) := by decide +kernel
theorem dX3_init_20 : decode cX3_init 20 = .ok (.aload_n 0, 1) := by decide +kernel
theorem dX3_init_21 : decode cX3_init 21 = .ok (.bipush 15, 2) := by decide +kernel
theorem dX3_init_23 : decode cX3_init 23 = .ok (.newarray .int, 2) := by decide +kernel
theorem dX3_init_25 : decode cX3_init 25 = .ok (.putfield 18, 3) := by decide +kernel
theorem dX3_init_28 : decode cX3_init 28 = .ok (.return_, 1) := by decide +kernel
theorem dX4_init_0 : decode cX4_init 0 = .ok (.aload_n 0, 1) := by decide +kernel
theorem dX4_init_1 : decode cX4_init 1 = .ok (.invokespecial 3, 3) := by decide +kernel
theorem dX4_init_4 : decode cX4_init 4 = .ok (.aload_n 0, 1) := by decide +kernel
theorem dX4_init_5 : decode cX4_init 5 = .ok (.bipush 12, 2) := by decide +kernel
theorem dX4_init_7 : decode cX4_init 7 = .ok (.newarray .int, 2) := by decide +kernel
theorem dX4_init_9 : decode cX4_init 9 = .ok (.putfield 9, 3) := by decide +kernel
theorem dX4_init_12 : decode cX4_init 12 = .ok (.aload_n 0, 1) := by decide +kernel
theorem dX4_init_13 : decode cX4_init 13 = .ok (.bipush 12, 2) := by decide +kernel
theorem dX4_init_15 : decode cX4_init 15 = .ok (.newarray .int, 2) := by decide +kernel
theorem dX4_init_17 : decode cX4_init 17 = .ok (.putfield 15, 3) := by decide +kernel
theorem dX4_init_20 : decode cX4_init 20 = .ok (.aload_n 0, 1) := by decide +kernel
theorem dX4_init_21 : decode cX4_init 21 = .ok (.bipush 12, 2) := by decide +kernel
theorem dX4_init_23 : decode cX4_init 23 = .ok (.newarray .int, 2) := by decide +kernel
theorem dX4_init_25 : decode cX4_init 25 = .ok (.putfield 18, 3) := by decide +kernel
theorem dX4_init_28 : decode cX4_init 28 = .ok (.aload_n 0, 1) := by decide +kernel
theorem dX4_init_29 : decode cX4_init 29 = .ok (.bipush 12, 2) := by decide +kernel
theorem dX4_init_31 : decode cX4_init 31 = .ok (.newarray .int, 2) := by decide +kernel
theorem dX4_init_33 : decode cX4_init 33 = .ok (.putfield 21, 3) := by decide +kernel
theorem dX4_init_36 : decode cX4_init 36 = .ok (.return_, 1) := by decide +kernel
theorem dX4_remember_0 : decode cX4_remember 0 = .ok (.aload_n 0, 1) := by decide +kernel
theorem dX4_remember_1 : decode cX4_remember 1 = .ok (.aload_n 0, 1) := by decide +kernel
theorem dX4_remember_2 : decode cX4_remember 2 = .ok (.getfield 24, 3) := by decide +kernel
theorem dX4_remember_5 : decode cX4_remember 5 = .ok (.iconst 1, 1) := by decide +kernel
theorem dX4_remember_6 : decode cX4_remember 6 = .ok (.iadd, 1) := by decide +kernel
theorem dX4_remember_7 : decode cX4_remember 7 = .ok (.bipush 12, 2) := by decide +kernel
theorem dX4_remember_9 : decode cX4_remember 9 = .ok (.invokestatic 28, 3) := by decide +kernel
theorem dX4_remember_12 : decode cX4_remember 12 = .ok (.putfield 24, 3) := by decide +kernel
theorem dX4_remember_15 : decode cX4_remember 15 = .ok (.aload_n 0, 1) := by decide +kernel
theorem dX4_remember_16 : decode cX4_remember 16 = .ok (.getfield 24, 3) := by decide +kernel
theorem dX4_remember_19 : decode cX4_remember 19 = .ok (.iconst 1, 1) := by decide +kernel
theorem dX4_remember_20 : decode cX4_remember 20 = .ok (.isub, 1) := by decide +kernel
theorem dX4_remember_21 : decode cX4_remember 21 = .ok (.istore 5, 2) := by decide +kernel
theorem dX4_remember_23 : decode cX4_remember 23 = .ok (.iload 5, 2) := by decide +kernel
theorem dX4_remember_25 : decode cX4_remember 25 = .ok (.ifCond .le 73, 3) := by decide +kernel
theorem dX4_remember_28 : decode cX4_remember 28 = .ok (.aload_n 0, 1) := by decide +kernel
theorem dX4_remember_29 : decode cX4_remember 29 = .ok (.getfield 9, 3) := by decide +kernel
theorem dX4_remember_32 : decode cX4_remember 32 = .ok (.iload 5, 2) := by decide +kernel
theorem dX4_remember_34 : decode cX4_remember 34 = .ok (.aload_n 0, 1) := by decide +kernel
theorem dX4_remember_35 : decode cX4_remember 35 = .ok (.getfield 9, 3) := by decide +kernel
theorem dX4_remember_38 : decode cX4_remember 38 = .ok (.iload 5, 2) := by decide +kernel
theorem dX4_remember_40 : decode cX4_remember 40 = .ok (.iconst 1, 1) := by decide +kernel
theorem dX4_remember_41 : decode cX4_remember 41 = .ok (.isub, 1) := by decide +kernel
theorem dX4_remember_42 : decode cX4_remember 42 = .ok (.iaload, 1) := by decide +kernel
theorem dX4_remember_43 : decode cX4_remember 43 = .ok (.iastore, 1) := by decide +kernel
theorem dX4_remember_44 : decode cX4_remember 44 = .ok (.aload_n 0, 1) := by decide +kernel
theorem dX4_remember_45 : decode cX4_remember 45 = .ok (.getfield 15, 3) := by decide +kernel
theorem dX4_remember_48 : decode cX4_remember 48 = .ok (.iload 5, 2) := by decide +kernel
theorem dX4_remember_50 : decode cX4_remember 50 = .ok (.aload_n 0, 1) := by decide +kernel
theorem dX4_remember_51 : decode cX4_remember 51 = .ok (.getfield 15, 3) := by decide +kernel
theorem dX4_remember_54 : decode cX4_remember 54 = .ok (.iload 5, 2) := by decide +kernel
theorem dX4_remember_56 : decode cX4_remember 56 = .ok (.iconst 1, 1) := by decide +kernel
theorem dX4_remember_57 : decode cX4_remember 57 = .ok (.isub, 1) := by decide +kernel
theorem dX4_remember_58 : decode cX4_remember 58 = .ok (.iaload, 1) := by decide +kernel
theorem dX4_remember_59 : decode cX4_remember 59 = .ok (.iastore, 1) := by decide +kernel
theorem dX4_remember_60 : decode cX4_remember 60 = .ok (.aload_n 0, 1) := by decide +kernel
theorem dX4_remember_61 : decode cX4_remember 61 = .ok (.getfield 18, 3) := by decide +kernel
theorem dX4_remember_64 : decode cX4_remember 64 = .ok (.iload 5, 2) := by decide +kernel
theorem dX4_remember_66 : decode cX4_remember 66 = .ok (.aload_n 0, 1) := by decide +kernel
theorem dX4_remember_67 : decode cX4_remember 67 = .ok (.getfield 18, 3) := by decide +kernel
theorem dX4_remember_70 : decode cX4_remember 70 = .ok (.iload 5, 2) := by decide +kernel
theorem dX4_remember_72 : decode cX4_remember 72 = .ok (.iconst 1, 1) := by decide +kernel
theorem dX4_remember_73 : decode cX4_remember 73 = .ok (.isub, 1) := by decide +kernel
theorem dX4_remember_74 : decode cX4_remember 74 = .ok (.iaload, 1) := by decide +kernel
theorem dX4_remember_75 : decode cX4_remember 75 = .ok (.iastore, 1) := by decide +kernel
theorem dX4_remember_76 : decode cX4_remember 76 = .ok (.aload_n 0, 1) := by decide +kernel
theorem dX4_remember_77 : decode cX4_remember 77 = .ok (.getfield 21, 3) := by decide +kernel
theorem dX4_remember_80 : decode cX4_remember 80 = .ok (.iload 5, 2) := by decide +kernel
theorem dX4_remember_82 : decode cX4_remember 82 = .ok (.aload_n 0, 1) := by decide +kernel
theorem dX4_remember_83 : decode cX4_remember 83 = .ok (.getfield 21, 3) := by decide +kernel
theorem dX4_remember_86 : decode cX4_remember 86 = .ok (.iload 5, 2) := by decide +kernel
theorem dX4_remember_88 : decode cX4_remember 88 = .ok (.iconst 1, 1) := by decide +kernel
theorem dX4_remember_89 : decode cX4_remember 89 = .ok (.isub, 1) := by decide +kernel
theorem dX4_remember_90 : decode cX4_remember 90 = .ok (.iaload, 1) := by decide +kernel
theorem dX4_remember_91 : decode cX4_remember 91 = .ok (.iastore, 1) := by decide +kernel
theorem dX4_remember_92 : decode cX4_remember 92 = .ok (.iinc 5 (-1), 3) := by decide +kernel
theorem dX4_remember_95 : decode cX4_remember 95 = .ok (.goto (-72), 3) := by decide +kernel
theorem dX4_remember_98 : decode cX4_remember 98 = .ok (.aload_n 0, 1) := by decide +kernel
theorem dX4_remember_99 : decode cX4_remember 99 = .ok (.getfield 9, 3) := by decide +kernel
theorem dX4_remember_102 : decode cX4_remember 102 = .ok (.iconst 0, 1) := by decide +kernel
theorem dX4_remember_103 : decode cX4_remember 103 = .ok (.iload_n 1, 1) := by decide +kernel
theorem dX4_remember_104 : decode cX4_remember 104 = .ok (.iastore, 1) := by decide +kernel
theorem dX4_remember_105 : decode cX4_remember 105 = .ok (.aload_n 0, 1) := by decide +kernel
theorem dX4_remember_106 : decode cX4_remember 106 = .ok (.getfield 15, 3) := by decide +kernel
theorem dX4_remember_109 : decode cX4_remember 109 = .ok (.iconst 0, 1) := by decide +kernel
theorem dX4_remember_110 : decode cX4_remember 110 = .ok (.iload_n 2, 1) := by decide +kernel
theorem dX4_remember_111 : decode cX4_remember 111 = .ok (.iastore, 1) := by decide +kernel
theorem dX4_remember_112 : decode cX4_remember 112 = .ok (.aload_n 0, 1) := by decide +kernel
theorem dX4_remember_113 : decode cX4_remember 113 = .ok (.getfield 18, 3) := by decide +kernel
theorem dX4_remember_116 : decode cX4_remember 116 = .ok (.iconst 0, 1) := by decide +kernel
theorem dX4_remember_117 : decode cX4_remember 117 = .ok (.iload_n 3, 1) := by decide +kernel
theorem dX4_remember_118 : decode cX4_remember 118 = .ok (.iastore, 1) := by decide +kernel
theorem dX4_remember_119 : decode cX4_remember 119 = .ok (.aload_n 0, 1) := by decide +kernel
theorem dX4_remember_120 : decode cX4_remember 120 = .ok (.getfield 21, 3) := by decide +kernel
theorem dX4_remember_123 : decode cX4_remember 123 = .ok (.iconst 0, 1) := by decide +kernel
theorem dX4_remember_124 : decode cX4_remember 124 = .ok (.iload 4, 2) := by decide +kernel
theorem dX4_remember_126 : decode cX4_remember 126 = .ok (.iastore, 1) := by decide +kernel
theorem dX4_remember_127 : decode cX4_remember 127 = .ok (.return_, 1) := by decide +kernel
set_option maxRecDepth 20000 in
theorem ggX4_copyFrom_X9_copyRow : GoodIn wsX4_copyFrom wsX9_copyRow := goodIn_r _ [8, 9, 10, 11, 12, 13, 14, 15, 16] (by decide +kernel) (by decide +kernel)
set_option maxRecDepth 20000 in
theorem gX4_copyFrom_X9_copyRow_n34 : GoodIn wsX4_copyFrom (wsX9_copyRow) := ggX4_copyFrom_X9_copyRow
theorem dX4_copyFrom_0 : decode cX4_copyFrom 0 = .ok (.aload_n 0, 1) := by decide +kernel
theorem dX4_copyFrom_1 : decode cX4_copyFrom 1 = .ok (.aload_n 1, 1) := by decide +kernel
theorem dX4_copyFrom_2 : decode cX4_copyFrom 2 = .ok (.getfield 24, 3) := by decide +kernel
theorem dX4_copyFrom_5 : decode cX4_copyFrom 5 = .ok (.putfield 24, 3) := by decide +kernel
theorem dX4_copyFrom_8 : decode cX4_copyFrom 8 = .ok (.aload_n 1, 1) := by decide +kernel
theorem dX4_copyFrom_9 : decode cX4_copyFrom 9 = .ok (.getfield 9, 3) := by decide +kernel
theorem dX4_copyFrom_12 : decode cX4_copyFrom 12 = .ok (.aload_n 0, 1) := by decide +kernel
theorem dX4_copyFrom_13 : decode cX4_copyFrom 13 = .ok (.getfield 9, 3) := by decide +kernel
theorem dX4_copyFrom_16 : decode cX4_copyFrom 16 = .ok (.invokestatic 34, 3) := by decide +kernel
theorem dX4_copyFrom_19 : decode cX4_copyFrom 19 = .ok (.aload_n 1, 1) := by decide +kernel
theorem dX4_copyFrom_20 : decode cX4_copyFrom 20 = .ok (.getfield 15, 3) := by decide +kernel
theorem dX4_copyFrom_23 : decode cX4_copyFrom 23 = .ok (.aload_n 0, 1) := by decide +kernel
theorem dX4_copyFrom_24 : decode cX4_copyFrom 24 = .ok (.getfield 15, 3) := by decide +kernel
theorem dX4_copyFrom_27 : decode cX4_copyFrom 27 = .ok (.invokestatic 34, 3) := by decide +kernel
theorem dX4_copyFrom_30 : decode cX4_copyFrom 30 = .ok (.aload_n 1, 1) := by decide +kernel
theorem dX4_copyFrom_31 : decode cX4_copyFrom 31 = .ok (.getfield 18, 3) := by decide +kernel
theorem dX4_copyFrom_34 : decode cX4_copyFrom 34 = .ok (.aload_n 0, 1) := by decide +kernel
theorem dX4_copyFrom_35 : decode cX4_copyFrom 35 = .ok (.getfield 18, 3) := by decide +kernel
theorem dX4_copyFrom_38 : decode cX4_copyFrom 38 = .ok (.invokestatic 34, 3) := by decide +kernel
theorem dX4_copyFrom_41 : decode cX4_copyFrom 41 = .ok (.aload_n 1, 1) := by decide +kernel
theorem dX4_copyFrom_42 : decode cX4_copyFrom 42 = .ok (.getfield 21, 3) := by decide +kernel
theorem dX4_copyFrom_45 : decode cX4_copyFrom 45 = .ok (.aload_n 0, 1) := by decide +kernel
theorem dX4_copyFrom_46 : decode cX4_copyFrom 46 = .ok (.getfield 21, 3) := by decide +kernel
theorem dX4_copyFrom_49 : decode cX4_copyFrom 49 = .ok (.invokestatic 34, 3) := by decide +kernel
theorem dX4_copyFrom_52 : decode cX4_copyFrom 52 = .ok (.return_, 1) := by decide +kernel
theorem dX5_init_0 : decode cX5_init 0 = .ok (.aload_n 0, 1) := by decide +kernel
theorem dX5_init_1 : decode cX5_init 1 = .ok (.invokespecial 3, 3) := by decide +kernel
theorem dX5_init_4 : decode cX5_init 4 = .ok (.aload_n 0, 1) := by decide +kernel
theorem dX5_init_5 : decode cX5_init 5 = .ok (.bipush 12, 2) := by decide +kernel
theorem dX5_init_7 : decode cX5_init 7 = .ok (.newarray .int, 2) := by decide +kernel
theorem dX5_init_9 : decode cX5_init 9 = .ok (.putfield 9, 3) := by decide +kernel
theorem dX5_init_12 : decode cX5_init 12 = .ok (.return_, 1) := by decide +kernel
set_option maxRecDepth 20000 in
theorem ggX5_lookAhead_X9_copyRow : GoodIn wsX5_lookAhead wsX9_copyRow := goodIn_r _ [12, 13, 14, 15, 16, 17, 18, 19, 20] (by decide +kernel) (by decide +kernel)
set_option maxRecDepth 20000 in
theorem gX5_lookAhead_X9_copyRow_n28 : GoodIn wsX5_lookAhead (wsX9_copyRow) := ggX5_lookAhead_X9_copyRow
set_option maxRecDepth 20000 in
theorem ggX5_lookAhead_X8_readyOnes : GoodIn wsX5_lookAhead wsX8_readyOnes := goodIn_r _ [25, 26, 27, 28, 24, 29, 30, 31, 32, 33, 34, 35, 36, 89, 90, 91, 92] (by decide +kernel) (by decide +kernel)
set_option maxRecDepth 20000 in
theorem gX5_lookAhead_X8_readyOnes : GoodIn wsX5_lookAhead (wsV RX5 36 RX8 yX8_readyOnes wsX8_readyOnes) := goodIn_app (goodIn_of _ (by decide +kernel)) ggX5_lookAhead_X8_readyOnes
set_option maxRecDepth 20000 in
theorem ggX5_lookAhead_X8_nextAmong : GoodIn wsX5_lookAhead wsX8_nextAmong := goodIn_r _ [40, 41, 42, 43, 24, 44, 26, 27, 28, 29, 30, 31, 32, 33, 34, 35, 36, 45, 46, 47, 48, 49, 11, 50, 51, 52, 53, 54, 55, 56, 15, 57, 89, 90, 91, 92] (by decide +kernel) (by decide +kernel)
set_option maxRecDepth 20000 in
theorem gX5_lookAhead_X8_nextAmong : GoodIn wsX5_lookAhead (wsV RX5 52 RX8 yX8_nextAmong wsX8_nextAmong) := goodIn_app (goodIn_of _ (by decide +kernel)) ggX5_lookAhead_X8_nextAmong
set_option maxRecDepth 20000 in
theorem ggX5_lookAhead_X0_lengthOfWish : GoodIn wsX5_lookAhead wsX0_lengthOfWish := goodIn_r _ [62, 63, 64, 65, 66, 73, 74, 75, 76, 77, 78, 93, 94, 95, 96, 97, 89, 90, 91, 92] (by decide +kernel) (by decide +kernel)
set_option maxRecDepth 20000 in
theorem gX5_lookAhead_X0_lengthOfWish : GoodIn wsX5_lookAhead (wsV RX5 56 RX0 yX0_lengthOfWish wsX0_lengthOfWish) := goodIn_app (goodIn_of _ (by decide +kernel)) ggX5_lookAhead_X0_lengthOfWish
set_option maxRecDepth 20000 in
theorem ggX5_lookAhead_X8_singersOf : GoodIn wsX5_lookAhead wsX8_singersOf := goodIn_r _ [34, 35, 36, 89, 90, 91, 92] (by decide +kernel) (by decide +kernel)
set_option maxRecDepth 20000 in
theorem gX5_lookAhead_X8_singersOf : GoodIn wsX5_lookAhead (wsV RX5 59 RX8 yX8_singersOf wsX8_singersOf) := goodIn_app (goodIn_of _ (by decide +kernel)) ggX5_lookAhead_X8_singersOf
set_option maxRecDepth 20000 in
theorem ggX5_lookAhead_X5_addTurn : GoodIn wsX5_lookAhead wsX5_addTurn := goodIn_r _ [72, 4, 49, 11, 50, 86, 87, 88] (by decide +kernel) (by decide +kernel)
set_option maxRecDepth 20000 in
theorem gX5_lookAhead_X5_addTurn : GoodIn wsX5_lookAhead (wsV RX5 62 RX5 yX5_addTurn wsX5_addTurn) := goodIn_app (goodIn_of _ (by decide +kernel)) ggX5_lookAhead_X5_addTurn
theorem dX5_lookAhead_0 : decode cX5_lookAhead 0 = .ok (.aload_n 1, 1) := by decide +kernel
theorem dX5_lookAhead_1 : decode cX5_lookAhead 1 = .ok (.getfield 15, 3) := by decide +kernel
theorem dX5_lookAhead_4 : decode cX5_lookAhead 4 = .ok (.astore 4, 2) := by decide +kernel
theorem dX5_lookAhead_6 : decode cX5_lookAhead 6 = .ok (.aload_n 1, 1) := by decide +kernel
theorem dX5_lookAhead_7 : decode cX5_lookAhead 7 = .ok (.getfield 21, 3) := by decide +kernel
theorem dX5_lookAhead_10 : decode cX5_lookAhead 10 = .ok (.getfield 25, 3) := by decide +kernel
theorem dX5_lookAhead_13 : decode cX5_lookAhead 13 = .ok (.aload_n 0, 1) := by decide +kernel
theorem dX5_lookAhead_14 : decode cX5_lookAhead 14 = .ok (.getfield 9, 3) := by decide +kernel
theorem dX5_lookAhead_17 : decode cX5_lookAhead 17 = .ok (.invokestatic 28, 3) := by decide +kernel
theorem dX5_lookAhead_20 : decode cX5_lookAhead 20 = .ok (.aload 4, 2) := by decide +kernel
theorem dX5_lookAhead_22 : decode cX5_lookAhead 22 = .ok (.aload_n 1, 1) := by decide +kernel
theorem dX5_lookAhead_23 : decode cX5_lookAhead 23 = .ok (.getfield 21, 3) := by decide +kernel
theorem dX5_lookAhead_26 : decode cX5_lookAhead 26 = .ok (.getfield 32, 3) := by decide +kernel
theorem dX5_lookAhead_29 : decode cX5_lookAhead 29 = .ok (.invokevirtual 36, 3) := by decide +kernel
theorem dX5_lookAhead_32 : decode cX5_lookAhead 32 = .ok (.istore 5, 2) := by decide +kernel
theorem dX5_lookAhead_34 : decode cX5_lookAhead 34 = .ok (.iload_n 3, 1) := by decide +kernel
theorem dX5_lookAhead_35 : decode cX5_lookAhead 35 = .ok (.bipush (-6), 2) := by decide +kernel
theorem dX5_lookAhead_37 : decode cX5_lookAhead 37 = .ok (.if_icmp .eq 13, 3) := by decide +kernel
theorem dX5_lookAhead_40 : decode cX5_lookAhead 40 = .ok (.iload 5, 2) := by decide +kernel
theorem dX5_lookAhead_42 : decode cX5_lookAhead 42 = .ok (.iconst 1, 1) := by decide +kernel
theorem dX5_lookAhead_43 : decode cX5_lookAhead 43 = .ok (.iload_n 3, 1) := by decide +kernel
theorem dX5_lookAhead_44 : decode cX5_lookAhead 44 = .ok (.ishl, 1) := by decide +kernel
theorem dX5_lookAhead_45 : decode cX5_lookAhead 45 = .ok (.iconst (-1), 1) := by decide +kernel
theorem dX5_lookAhead_46 : decode cX5_lookAhead 46 = .ok (.ixor, 1) := by decide +kernel
theorem dX5_lookAhead_47 : decode cX5_lookAhead 47 = .ok (.iand, 1) := by decide +kernel
theorem dX5_lookAhead_48 : decode cX5_lookAhead 48 = .ok (.istore 5, 2) := by decide +kernel
theorem dX5_lookAhead_50 : decode cX5_lookAhead 50 = .ok (.aload_n 1, 1) := by decide +kernel
theorem dX5_lookAhead_51 : decode cX5_lookAhead 51 = .ok (.getfield 21, 3) := by decide +kernel
theorem dX5_lookAhead_54 : decode cX5_lookAhead 54 = .ok (.getfield 42, 3) := by decide +kernel
theorem dX5_lookAhead_57 : decode cX5_lookAhead 57 = .ok (.istore 6, 2) := by decide +kernel
theorem dX5_lookAhead_59 : decode cX5_lookAhead 59 = .ok (.aload_n 0, 1) := by decide +kernel
theorem dX5_lookAhead_60 : decode cX5_lookAhead 60 = .ok (.aload_n 1, 1) := by decide +kernel
theorem dX5_lookAhead_61 : decode cX5_lookAhead 61 = .ok (.getfield 45, 3) := by decide +kernel
theorem dX5_lookAhead_64 : decode cX5_lookAhead 64 = .ok (.putfield 48, 3) := by decide +kernel
theorem dX5_lookAhead_67 : decode cX5_lookAhead 67 = .ok (.aload_n 0, 1) := by decide +kernel
theorem dX5_lookAhead_68 : decode cX5_lookAhead 68 = .ok (.iconst 0, 1) := by decide +kernel
theorem dX5_lookAhead_69 : decode cX5_lookAhead 69 = .ok (.putfield 49, 3) := by decide +kernel
theorem dX5_lookAhead_72 : decode cX5_lookAhead 72 = .ok (.aload_n 0, 1) := by decide +kernel
theorem dX5_lookAhead_73 : decode cX5_lookAhead 73 = .ok (.getfield 49, 3) := by decide +kernel
theorem dX5_lookAhead_76 : decode cX5_lookAhead 76 = .ok (.bipush 20, 2) := by decide +kernel
theorem dX5_lookAhead_78 : decode cX5_lookAhead 78 = .ok (.if_icmp .ge 86, 3) := by decide +kernel
theorem dX5_lookAhead_81 : decode cX5_lookAhead 81 = .ok (.aload 4, 2) := by decide +kernel
theorem dX5_lookAhead_83 : decode cX5_lookAhead 83 = .ok (.iload 5, 2) := by decide +kernel
theorem dX5_lookAhead_85 : decode cX5_lookAhead 85 = .ok (.iload 6, 2) := by decide +kernel
theorem dX5_lookAhead_87 : decode cX5_lookAhead 87 = .ok (.aload_n 0, 1) := by decide +kernel
theorem dX5_lookAhead_88 : decode cX5_lookAhead 88 = .ok (.getfield 9, 3) := by decide +kernel
theorem dX5_lookAhead_91 : decode cX5_lookAhead 91 = .ok (.invokevirtual 52, 3) := by decide +kernel
theorem dX5_lookAhead_94 : decode cX5_lookAhead 94 = .ok (.istore 7, 2) := by decide +kernel
theorem dX5_lookAhead_96 : decode cX5_lookAhead 96 = .ok (.iload 7, 2) := by decide +kernel
theorem dX5_lookAhead_98 : decode cX5_lookAhead 98 = .ok (.iload_n 2, 1) := by decide +kernel
theorem dX5_lookAhead_99 : decode cX5_lookAhead 99 = .ok (.if_icmp .eq 10, 3) := by decide +kernel
theorem dX5_lookAhead_102 : decode cX5_lookAhead 102 = .ok (.iload 7, 2) := by decide +kernel
theorem dX5_lookAhead_104 : decode cX5_lookAhead 104 = .ok (.bipush (-6), 2) := by decide +kernel
theorem dX5_lookAhead_106 : decode cX5_lookAhead 106 = .ok (.if_icmp .ne 4, 3) := by decide +kernel
theorem dX5_lookAhead_109 : decode cX5_lookAhead 109 = .ok (.return_, 1) := by decide +kernel
theorem dX5_lookAhead_110 : decode cX5_lookAhead 110 = .ok (.iload 5, 2) := by decide +kernel
theorem dX5_lookAhead_112 : decode cX5_lookAhead 112 = .ok (.iconst 1, 1) := by decide +kernel
theorem dX5_lookAhead_113 : decode cX5_lookAhead 113 = .ok (.iload 7, 2) := by decide +kernel
theorem dX5_lookAhead_115 : decode cX5_lookAhead 115 = .ok (.ishl, 1) := by decide +kernel
theorem dX5_lookAhead_116 : decode cX5_lookAhead 116 = .ok (.iconst (-1), 1) := by decide +kernel
theorem dX5_lookAhead_117 : decode cX5_lookAhead 117 = .ok (.ixor, 1) := by decide +kernel
theorem dX5_lookAhead_118 : decode cX5_lookAhead 118 = .ok (.iand, 1) := by decide +kernel
theorem dX5_lookAhead_119 : decode cX5_lookAhead 119 = .ok (.istore 5, 2) := by decide +kernel
theorem dX5_lookAhead_121 : decode cX5_lookAhead 121 = .ok (.aload_n 0, 1) := by decide +kernel
theorem dX5_lookAhead_122 : decode cX5_lookAhead 122 = .ok (.dup, 1) := by decide +kernel
theorem dX5_lookAhead_123 : decode cX5_lookAhead 123 = .ok (.getfield 48, 3) := by decide +kernel
theorem dX5_lookAhead_126 : decode cX5_lookAhead 126 = .ok (.aload_n 1, 1) := by decide +kernel
theorem dX5_lookAhead_127 : decode cX5_lookAhead 127 = .ok (.iload 7, 2) := by decide +kernel
theorem dX5_lookAhead_129 : decode cX5_lookAhead 129 = .ok (.invokevirtual 56, 3) := by decide +kernel
theorem dX5_lookAhead_132 : decode cX5_lookAhead 132 = .ok (.iadd, 1) := by decide +kernel
theorem dX5_lookAhead_133 : decode cX5_lookAhead 133 = .ok (.putfield 48, 3) := by decide +kernel
theorem dX5_lookAhead_136 : decode cX5_lookAhead 136 = .ok (.aload 4, 2) := by decide +kernel
theorem dX5_lookAhead_138 : decode cX5_lookAhead 138 = .ok (.iload 7, 2) := by decide +kernel
theorem dX5_lookAhead_140 : decode cX5_lookAhead 140 = .ok (.invokevirtual 59, 3) := by decide +kernel
theorem dX5_lookAhead_143 : decode cX5_lookAhead 143 = .ok (.istore 6, 2) := by decide +kernel
theorem dX5_lookAhead_145 : decode cX5_lookAhead 145 = .ok (.aload_n 0, 1) := by decide +kernel
theorem dX5_lookAhead_146 : decode cX5_lookAhead 146 = .ok (.iload 6, 2) := by decide +kernel
theorem dX5_lookAhead_148 : decode cX5_lookAhead 148 = .ok (.invokevirtual 62, 3) := by decide +kernel
theorem dX5_lookAhead_151 : decode cX5_lookAhead 151 = .ok (.aload_n 0, 1) := by decide +kernel
theorem dX5_lookAhead_152 : decode cX5_lookAhead 152 = .ok (.dup, 1) := by decide +kernel
theorem dX5_lookAhead_153 : decode cX5_lookAhead 153 = .ok (.getfield 49, 3) := by decide +kernel
theorem dX5_lookAhead_156 : decode cX5_lookAhead 156 = .ok (.iconst 1, 1) := by decide +kernel
theorem dX5_lookAhead_157 : decode cX5_lookAhead 157 = .ok (.iadd, 1) := by decide +kernel
theorem dX5_lookAhead_158 : decode cX5_lookAhead 158 = .ok (.putfield 49, 3) := by decide +kernel
theorem dX5_lookAhead_161 : decode cX5_lookAhead 161 = .ok (.goto (-89), 3) := by decide +kernel
theorem dX5_lookAhead_164 : decode cX5_lookAhead 164 = .ok (.return_, 1) := by decide +kernel
set_option maxRecDepth 20000 in
theorem ggX5_addTurn_X9_isIn : GoodIn wsX5_addTurn wsX9_isIn := goodIn_r _ [4] (by decide +kernel) (by decide +kernel)
set_option maxRecDepth 20000 in
theorem gX5_addTurn_X9_isIn_n66 : GoodIn wsX5_addTurn (wsX9_isIn) := ggX5_addTurn_X9_isIn
theorem dX5_addTurn_0 : decode cX5_addTurn 0 = .ok (.iconst 0, 1) := by decide +kernel
theorem dX5_addTurn_1 : decode cX5_addTurn 1 = .ok (.istore_n 2, 1) := by decide +kernel
theorem dX5_addTurn_2 : decode cX5_addTurn 2 = .ok (.iload_n 2, 1) := by decide +kernel
theorem dX5_addTurn_3 : decode cX5_addTurn 3 = .ok (.bipush 12, 2) := by decide +kernel
theorem dX5_addTurn_5 : decode cX5_addTurn 5 = .ok (.if_icmp .ge 27, 3) := by decide +kernel
theorem dX5_addTurn_8 : decode cX5_addTurn 8 = .ok (.iload_n 1, 1) := by decide +kernel
theorem dX5_addTurn_9 : decode cX5_addTurn 9 = .ok (.iload_n 2, 1) := by decide +kernel
theorem dX5_addTurn_10 : decode cX5_addTurn 10 = .ok (.invokestatic 66, 3) := by decide +kernel
theorem dX5_addTurn_13 : decode cX5_addTurn 13 = .ok (.ifCond .eq 13, 3) := by decide +kernel
theorem dX5_addTurn_16 : decode cX5_addTurn 16 = .ok (.aload_n 0, 1) := by decide +kernel
theorem dX5_addTurn_17 : decode cX5_addTurn 17 = .ok (.getfield 9, 3) := by decide +kernel
theorem dX5_addTurn_20 : decode cX5_addTurn 20 = .ok (.iload_n 2, 1) := by decide +kernel
theorem dX5_addTurn_21 : decode cX5_addTurn 21 = .ok (.dup2, 1) := by decide +kernel
theorem dX5_addTurn_22 : decode cX5_addTurn 22 = .ok (.iaload, 1) := by decide +kernel
theorem dX5_addTurn_23 : decode cX5_addTurn 23 = .ok (.iconst 1, 1) := by decide +kernel
theorem dX5_addTurn_24 : decode cX5_addTurn 24 = .ok (.iadd, 1) := by decide +kernel
theorem dX5_addTurn_25 : decode cX5_addTurn 25 = .ok (.iastore, 1) := by decide +kernel
theorem dX5_addTurn_26 : decode cX5_addTurn 26 = .ok (.iinc 2 1, 3) := by decide +kernel
theorem dX5_addTurn_29 : decode cX5_addTurn 29 = .ok (.goto (-27), 3) := by decide +kernel
theorem dX5_addTurn_32 : decode cX5_addTurn 32 = .ok (.return_, 1) := by decide +kernel
theorem dX6_init_0 : decode cX6_init 0 = .ok (.aload_n 0, 1) := by decide +kernel
theorem dX6_init_1 : decode cX6_init 1 = .ok (.invokespecial 3, 3) := by decide +kernel
theorem dX6_init_4 : decode cX6_init 4 = .ok (.aload_n 0, 1) := by decide +kernel
theorem dX6_init_5 : decode cX6_init 5 = .ok (.bipush 12, 2) := by decide +kernel
theorem dX6_init_7 : decode cX6_init 7 = .ok (.newarray .int, 2) := by decide +kernel
theorem dX6_init_9 : decode cX6_init 9 = .ok (.putfield 9, 3) := by decide +kernel
theorem dX6_init_12 : decode cX6_init 12 = .ok (.aload_n 0, 1) := by decide +kernel
theorem dX6_init_13 : decode cX6_init 13 = .ok (.bipush 12, 2) := by decide +kernel
theorem dX6_init_15 : decode cX6_init 15 = .ok (.newarray .int, 2) := by decide +kernel
theorem dX6_init_17 : decode cX6_init 17 = .ok (.putfield 15, 3) := by decide +kernel
theorem dX6_init_20 : decode cX6_init 20 = .ok (.aload_n 0, 1) := by decide +kernel
theorem dX6_init_21 : decode cX6_init 21 = .ok (.bipush 12, 2) := by decide +kernel
theorem dX6_init_23 : decode cX6_init 23 = .ok (.newarray .int, 2) := by decide +kernel
theorem dX6_init_25 : decode cX6_init 25 = .ok (.putfield 18, 3) := by decide +kernel
theorem dX6_init_28 : decode cX6_init 28 = .ok (.aload_n 0, 1) := by decide +kernel
theorem dX6_init_29 : decode cX6_init 29 = .ok (.bipush 12, 2) := by decide +kernel
theorem dX6_init_31 : decode cX6_init 31 = .ok (.newarray .int, 2) := by decide +kernel
theorem dX6_init_33 : decode cX6_init 33 = .ok (.putfield 21, 3) := by decide +kernel
theorem dX6_init_36 : decode cX6_init 36 = .ok (.return_, 1) := by decide +kernel
set_option maxRecDepth 20000 in
theorem ggX6_has_X9_isBetween : GoodIn wsX6_has wsX9_isBetween := goodIn_r _ [4] (by decide +kernel) (by decide +kernel)
set_option maxRecDepth 20000 in
theorem gX6_has_X9_isBetween_n28 : GoodIn wsX6_has (wsX9_isBetween) := ggX6_has_X9_isBetween
theorem dX6_has_0 : decode cX6_has 0 = .ok (.iload_n 1, 1) := by decide +kernel
theorem dX6_has_1 : decode cX6_has 1 = .ok (.iconst 0, 1) := by decide +kernel
theorem dX6_has_2 : decode cX6_has 2 = .ok (.aload_n 0, 1) := by decide +kernel
theorem dX6_has_3 : decode cX6_has 3 = .ok (.getfield 24, 3) := by decide +kernel
theorem dX6_has_6 : decode cX6_has 6 = .ok (.iconst 1, 1) := by decide +kernel
theorem dX6_has_7 : decode cX6_has 7 = .ok (.isub, 1) := by decide +kernel
theorem dX6_has_8 : decode cX6_has 8 = .ok (.invokestatic 28, 3) := by decide +kernel
theorem dX6_has_11 : decode cX6_has 11 = .ok (.ireturn, 1) := by decide +kernel
set_option maxRecDepth 20000 in
theorem ggX6_isThere_X9_isIn : GoodIn wsX6_isThere wsX9_isIn := goodIn_r _ [4] (by decide +kernel) (by decide +kernel)
set_option maxRecDepth 20000 in
theorem gX6_isThere_X9_isIn_n35 : GoodIn wsX6_isThere (wsX9_isIn) := ggX6_isThere_X9_isIn
theorem dX6_isThere_0 : decode cX6_isThere 0 = .ok (.aload_n 0, 1) := by decide +kernel
theorem dX6_isThere_1 : decode cX6_isThere 1 = .ok (.getfield 32, 3) := by decide +kernel
theorem dX6_isThere_4 : decode cX6_isThere 4 = .ok (.iload_n 1, 1) := by decide +kernel
theorem dX6_isThere_5 : decode cX6_isThere 5 = .ok (.invokestatic 35, 3) := by decide +kernel
theorem dX6_isThere_8 : decode cX6_isThere 8 = .ok (.ireturn, 1) := by decide +kernel
theorem dX6_setThere_0 : decode cX6_setThere 0 = .ok (.iconst 1, 1) := by decide +kernel
theorem dX6_setThere_1 : decode cX6_setThere 1 = .ok (.iload_n 1, 1) := by decide +kernel
theorem dX6_setThere_2 : decode cX6_setThere 2 = .ok (.ishl, 1) := by decide +kernel
theorem dX6_setThere_3 : decode cX6_setThere 3 = .ok (.istore_n 3, 1) := by decide +kernel
theorem dX6_setThere_4 : decode cX6_setThere 4 = .ok (.aload_n 0, 1) := by decide +kernel
theorem dX6_setThere_5 : decode cX6_setThere 5 = .ok (.iload_n 2, 1) := by decide +kernel
theorem dX6_setThere_6 : decode cX6_setThere 6 = .ok (.ifCond .eq 12, 3) := by decide +kernel
theorem dX6_setThere_9 : decode cX6_setThere 9 = .ok (.aload_n 0, 1) := by decide +kernel
theorem dX6_setThere_10 : decode cX6_setThere 10 = .ok (.getfield 32, 3) := by decide +kernel
theorem dX6_setThere_13 : decode cX6_setThere 13 = .ok (.iload_n 3, 1) := by decide +kernel
theorem dX6_setThere_14 : decode cX6_setThere 14 = .ok (.ior, 1) := by decide +kernel
theorem dX6_setThere_15 : decode cX6_setThere 15 = .ok (.goto 11, 3) := by decide +kernel
theorem dX6_setThere_18 : decode cX6_setThere 18 = .ok (.aload_n 0, 1) := by decide +kernel
theorem dX6_setThere_19 : decode cX6_setThere 19 = .ok (.getfield 32, 3) := by decide +kernel
theorem dX6_setThere_22 : decode cX6_setThere 22 = .ok (.iload_n 3, 1) := by decide +kernel
theorem dX6_setThere_23 : decode cX6_setThere 23 = .ok (.iconst (-1), 1) := by decide +kernel
theorem dX6_setThere_24 : decode cX6_setThere 24 = .ok (.ixor, 1) := by decide +kernel
theorem dX6_setThere_25 : decode cX6_setThere 25 = .ok (.iand, 1) := by decide +kernel
theorem dX6_setThere_26 : decode cX6_setThere 26 = .ok (.putfield 32, 3) := by decide +kernel
theorem dX6_setThere_29 : decode cX6_setThere 29 = .ok (.return_, 1) := by decide +kernel
set_option maxRecDepth 20000 in
theorem ggX6_add_X6_setThere : GoodIn wsX6_add wsX6_setThere := goodIn_r _ [8, 9, 10, 11, 12, 13, 14, 15, 16] (by decide +kernel) (by decide +kernel)
set_option maxRecDepth 20000 in
theorem gX6_add_X6_setThere : GoodIn wsX6_add (wsV RX6 39 RX6 yX6_setThere wsX6_setThere) := goodIn_app (goodIn_of _ (by decide +kernel)) ggX6_add_X6_setThere
theorem dX6_add_0 : decode cX6_add 0 = .ok (.aload_n 0, 1) := by decide +kernel
theorem dX6_add_1 : decode cX6_add 1 = .ok (.getfield 24, 3) := by decide +kernel
theorem dX6_add_4 : decode cX6_add 4 = .ok (.istore_n 3, 1) := by decide +kernel
theorem dX6_add_5 : decode cX6_add 5 = .ok (.aload_n 0, 1) := by decide +kernel
theorem dX6_add_6 : decode cX6_add 6 = .ok (.getfield 9, 3) := by decide +kernel
theorem dX6_add_9 : decode cX6_add 9 = .ok (.iload_n 3, 1) := by decide +kernel
theorem dX6_add_10 : decode cX6_add 10 = .ok (.iload_n 1, 1) := by decide +kernel
theorem dX6_add_11 : decode cX6_add 11 = .ok (.iastore, 1) := by decide +kernel
theorem dX6_add_12 : decode cX6_add 12 = .ok (.aload_n 0, 1) := by decide +kernel
theorem dX6_add_13 : decode cX6_add 13 = .ok (.getfield 15, 3) := by decide +kernel
theorem dX6_add_16 : decode cX6_add 16 = .ok (.iload_n 3, 1) := by decide +kernel
theorem dX6_add_17 : decode cX6_add 17 = .ok (.iload_n 2, 1) := by decide +kernel
theorem dX6_add_18 : decode cX6_add 18 = .ok (.iastore, 1) := by decide +kernel
theorem dX6_add_19 : decode cX6_add 19 = .ok (.aload_n 0, 1) := by decide +kernel
theorem dX6_add_20 : decode cX6_add 20 = .ok (.iload_n 3, 1) := by decide +kernel
theorem dX6_add_21 : decode cX6_add 21 = .ok (.iconst 1, 1) := by decide +kernel
theorem dX6_add_22 : decode cX6_add 22 = .ok (.invokevirtual 39, 3) := by decide +kernel
theorem dX6_add_25 : decode cX6_add 25 = .ok (.aload_n 0, 1) := by decide +kernel
theorem dX6_add_26 : decode cX6_add 26 = .ok (.dup, 1) := by decide +kernel
theorem dX6_add_27 : decode cX6_add 27 = .ok (.getfield 24, 3) := by decide +kernel
theorem dX6_add_30 : decode cX6_add 30 = .ok (.iconst 1, 1) := by decide +kernel
theorem dX6_add_31 : decode cX6_add 31 = .ok (.iadd, 1) := by decide +kernel
theorem dX6_add_32 : decode cX6_add 32 = .ok (.putfield 24, 3) := by decide +kernel
theorem dX6_add_35 : decode cX6_add 35 = .ok (.iload_n 3, 1) := by decide +kernel
theorem dX6_add_36 : decode cX6_add 36 = .ok (.ireturn, 1) := by decide +kernel
set_option maxRecDepth 20000 in
theorem ggX6_singTurn_X9_isIn : GoodIn wsX6_singTurn wsX9_isIn := goodIn_r _ [7] (by decide +kernel) (by decide +kernel)
set_option maxRecDepth 20000 in
theorem gX6_singTurn_X9_isIn_n35 : GoodIn wsX6_singTurn (wsX9_isIn) := ggX6_singTurn_X9_isIn
theorem dX6_singTurn_0 : decode cX6_singTurn 0 = .ok (.iconst 0, 1) := by decide +kernel
theorem dX6_singTurn_1 : decode cX6_singTurn 1 = .ok (.istore_n 3, 1) := by decide +kernel
theorem dX6_singTurn_2 : decode cX6_singTurn 2 = .ok (.iload_n 3, 1) := by decide +kernel
theorem dX6_singTurn_3 : decode cX6_singTurn 3 = .ok (.aload_n 0, 1) := by decide +kernel
theorem dX6_singTurn_4 : decode cX6_singTurn 4 = .ok (.getfield 24, 3) := by decide +kernel
theorem dX6_singTurn_7 : decode cX6_singTurn 7 = .ok (.if_icmp .ge 37, 3) := by decide +kernel
theorem dX6_singTurn_10 : decode cX6_singTurn 10 = .ok (.iload_n 1, 1) := by decide +kernel
theorem dX6_singTurn_11 : decode cX6_singTurn 11 = .ok (.iload_n 3, 1) := by decide +kernel
theorem dX6_singTurn_12 : decode cX6_singTurn 12 = .ok (.invokestatic 35, 3) := by decide +kernel
theorem dX6_singTurn_15 : decode cX6_singTurn 15 = .ok (.ifCond .eq 23, 3) := by decide +kernel
theorem dX6_singTurn_18 : decode cX6_singTurn 18 = .ok (.aload_n 0, 1) := by decide +kernel
theorem dX6_singTurn_19 : decode cX6_singTurn 19 = .ok (.getfield 18, 3) := by decide +kernel
theorem dX6_singTurn_22 : decode cX6_singTurn 22 = .ok (.iload_n 3, 1) := by decide +kernel
theorem dX6_singTurn_23 : decode cX6_singTurn 23 = .ok (.dup2, 1) := by decide +kernel
theorem dX6_singTurn_24 : decode cX6_singTurn 24 = .ok (.iaload, 1) := by decide +kernel
theorem dX6_singTurn_25 : decode cX6_singTurn 25 = .ok (.iconst 1, 1) := by decide +kernel
theorem dX6_singTurn_26 : decode cX6_singTurn 26 = .ok (.iadd, 1) := by decide +kernel
theorem dX6_singTurn_27 : decode cX6_singTurn 27 = .ok (.iastore, 1) := by decide +kernel
theorem dX6_singTurn_28 : decode cX6_singTurn 28 = .ok (.aload_n 0, 1) := by decide +kernel
theorem dX6_singTurn_29 : decode cX6_singTurn 29 = .ok (.getfield 21, 3) := by decide +kernel
theorem dX6_singTurn_32 : decode cX6_singTurn 32 = .ok (.iload_n 3, 1) := by decide +kernel
theorem dX6_singTurn_33 : decode cX6_singTurn 33 = .ok (.dup2, 1) := by decide +kernel
theorem dX6_singTurn_34 : decode cX6_singTurn 34 = .ok (.iaload, 1) := by decide +kernel
theorem dX6_singTurn_35 : decode cX6_singTurn 35 = .ok (.iload_n 2, 1) := by decide +kernel
theorem dX6_singTurn_36 : decode cX6_singTurn 36 = .ok (.iadd, 1) := by decide +kernel
theorem dX6_singTurn_37 : decode cX6_singTurn 37 = .ok (.iastore, 1) := by decide +kernel
theorem dX6_singTurn_38 : decode cX6_singTurn 38 = .ok (.iinc 3 1, 3) := by decide +kernel
theorem dX6_singTurn_41 : decode cX6_singTurn 41 = .ok (.goto (-39), 3) := by decide +kernel
theorem dX6_singTurn_44 : decode cX6_singTurn 44 = .ok (.aload_n 0, 1) := by decide +kernel
theorem dX6_singTurn_45 : decode cX6_singTurn 45 = .ok (.iload_n 1, 1) := by decide +kernel
theorem dX6_singTurn_46 : decode cX6_singTurn 46 = .ok (.putfield 43, 3) := by decide +kernel
theorem dX6_singTurn_49 : decode cX6_singTurn 49 = .ok (.return_, 1) := by decide +kernel
set_option maxRecDepth 20000 in
theorem ggX6_copyFrom_X9_copyRow : GoodIn wsX6_copyFrom wsX9_copyRow := goodIn_r _ [10, 11, 12, 13, 14, 15, 16, 17, 18] (by decide +kernel) (by decide +kernel)
set_option maxRecDepth 20000 in
theorem gX6_copyFrom_X9_copyRow_n46 : GoodIn wsX6_copyFrom (wsX9_copyRow) := ggX6_copyFrom_X9_copyRow
theorem dX6_copyFrom_0 : decode cX6_copyFrom 0 = .ok (.aload_n 0, 1) := by decide +kernel
theorem dX6_copyFrom_1 : decode cX6_copyFrom 1 = .ok (.aload_n 1, 1) := by decide +kernel
theorem dX6_copyFrom_2 : decode cX6_copyFrom 2 = .ok (.getfield 24, 3) := by decide +kernel
theorem dX6_copyFrom_5 : decode cX6_copyFrom 5 = .ok (.putfield 24, 3) := by decide +kernel
theorem dX6_copyFrom_8 : decode cX6_copyFrom 8 = .ok (.aload_n 0, 1) := by decide +kernel
theorem dX6_copyFrom_9 : decode cX6_copyFrom 9 = .ok (.aload_n 1, 1) := by decide +kernel
theorem dX6_copyFrom_10 : decode cX6_copyFrom 10 = .ok (.getfield 32, 3) := by decide +kernel
theorem dX6_copyFrom_13 : decode cX6_copyFrom 13 = .ok (.putfield 32, 3) := by decide +kernel
theorem dX6_copyFrom_16 : decode cX6_copyFrom 16 = .ok (.aload_n 0, 1) := by decide +kernel
theorem dX6_copyFrom_17 : decode cX6_copyFrom 17 = .ok (.aload_n 1, 1) := by decide +kernel
theorem dX6_copyFrom_18 : decode cX6_copyFrom 18 = .ok (.getfield 43, 3) := by decide +kernel
theorem dX6_copyFrom_21 : decode cX6_copyFrom 21 = .ok (.putfield 43, 3) := by decide +kernel
theorem dX6_copyFrom_24 : decode cX6_copyFrom 24 = .ok (.aload_n 1, 1) := by decide +kernel
theorem dX6_copyFrom_25 : decode cX6_copyFrom 25 = .ok (.getfield 9, 3) := by decide +kernel
theorem dX6_copyFrom_28 : decode cX6_copyFrom 28 = .ok (.aload_n 0, 1) := by decide +kernel
theorem dX6_copyFrom_29 : decode cX6_copyFrom 29 = .ok (.getfield 9, 3) := by decide +kernel
theorem dX6_copyFrom_32 : decode cX6_copyFrom 32 = .ok (.invokestatic 46, 3) := by decide +kernel
theorem dX6_copyFrom_35 : decode cX6_copyFrom 35 = .ok (.aload_n 1, 1) := by decide +kernel
theorem dX6_copyFrom_36 : decode cX6_copyFrom 36 = .ok (.getfield 15, 3) := by decide +kernel
theorem dX6_copyFrom_39 : decode cX6_copyFrom 39 = .ok (.aload_n 0, 1) := by decide +kernel
theorem dX6_copyFrom_40 : decode cX6_copyFrom 40 = .ok (.getfield 15, 3) := by decide +kernel
theorem dX6_copyFrom_43 : decode cX6_copyFrom 43 = .ok (.invokestatic 46, 3) := by decide +kernel
theorem dX6_copyFrom_46 : decode cX6_copyFrom 46 = .ok (.aload_n 1, 1) := by decide +kernel
theorem dX6_copyFrom_47 : decode cX6_copyFrom 47 = .ok (.getfield 18, 3) := by decide +kernel
theorem dX6_copyFrom_50 : decode cX6_copyFrom 50 = .ok (.aload_n 0, 1) := by decide +kernel
theorem dX6_copyFrom_51 : decode cX6_copyFrom 51 = .ok (.getfield 18, 3) := by decide +kernel
theorem dX6_copyFrom_54 : decode cX6_copyFrom 54 = .ok (.invokestatic 46, 3) := by decide +kernel
theorem dX6_copyFrom_57 : decode cX6_copyFrom 57 = .ok (.aload_n 1, 1) := by decide +kernel
theorem dX6_copyFrom_58 : decode cX6_copyFrom 58 = .ok (.getfield 21, 3) := by decide +kernel
theorem dX6_copyFrom_61 : decode cX6_copyFrom 61 = .ok (.aload_n 0, 1) := by decide +kernel
theorem dX6_copyFrom_62 : decode cX6_copyFrom 62 = .ok (.getfield 21, 3) := by decide +kernel
theorem dX6_copyFrom_65 : decode cX6_copyFrom 65 = .ok (.invokestatic 46, 3) := by decide +kernel
theorem dX6_copyFrom_68 : decode cX6_copyFrom 68 = .ok (.return_, 1) := by decide +kernel
theorem dX7_init_0 : decode cX7_init 0 = .ok (.aload_n 0, 1) := by decide +kernel
theorem dX7_init_1 : decode cX7_init 1 = .ok (.invokespecial 3, 3) := by decide +kernel
theorem dX7_init_4 : decode cX7_init 4 = .ok (.aload_n 0, 1) := by decide +kernel
theorem dX7_init_5 : decode cX7_init 5 = .ok (.bipush 16, 2) := by decide +kernel
theorem dX7_init_7 : decode cX7_init 7 = .ok (.newarray .int, 2) := by decide +kernel
theorem dX7_init_9 : decode cX7_init 9 = .ok (.putfield 9, 3) := by decide +kernel
theorem dX7_init_12 : decode cX7_init 12 = .ok (.aload_n 0, 1) := by decide +kernel
theorem dX7_init_13 : decode cX7_init 13 = .ok (.bipush 16, 2) := by decide +kernel
theorem dX7_init_15 : decode cX7_init 15 = .ok (.newarray .int, 2) := by decide +kernel
theorem dX7_init_17 : decode cX7_init 17 = .ok (.putfield 15, 3) := by decide +kernel
theorem dX7_init_20 : decode cX7_init 20 = .ok (.aload_n 0, 1) := by decide +kernel
theorem dX7_init_21 : decode cX7_init 21 = .ok (.bipush 16, 2) := by decide +kernel
theorem dX7_init_23 : decode cX7_init 23 = .ok (.newarray .int, 2) := by decide +kernel
theorem dX7_init_25 : decode cX7_init 25 = .ok (.putfield 18, 3) := by decide +kernel
theorem dX7_init_28 : decode cX7_init 28 = .ok (.aload_n 0, 1) := by decide +kernel
theorem dX7_init_29 : decode cX7_init 29 = .ok (.bipush 16, 2) := by decide +kernel
theorem dX7_init_31 : decode cX7_init 31 = .ok (.newarray .int, 2) := by decide +kernel
theorem dX7_init_33 : decode cX7_init 33 = .ok (.putfield 21, 3) := by decide +kernel
theorem dX7_init_36 : decode cX7_init 36 = .ok (.return_, 1) := by decide +kernel
set_option maxRecDepth 20000 in
theorem ggX7_has_X9_isBetween : GoodIn wsX7_has wsX9_isBetween := goodIn_r _ [4] (by decide +kernel) (by decide +kernel)
set_option maxRecDepth 20000 in
theorem gX7_has_X9_isBetween_n28 : GoodIn wsX7_has (wsX9_isBetween) := ggX7_has_X9_isBetween
theorem dX7_has_0 : decode cX7_has 0 = .ok (.iload_n 1, 1) := by decide +kernel
theorem dX7_has_1 : decode cX7_has 1 = .ok (.iconst 0, 1) := by decide +kernel
theorem dX7_has_2 : decode cX7_has 2 = .ok (.aload_n 0, 1) := by decide +kernel
theorem dX7_has_3 : decode cX7_has 3 = .ok (.getfield 24, 3) := by decide +kernel
theorem dX7_has_6 : decode cX7_has 6 = .ok (.iconst 1, 1) := by decide +kernel
theorem dX7_has_7 : decode cX7_has 7 = .ok (.isub, 1) := by decide +kernel
theorem dX7_has_8 : decode cX7_has 8 = .ok (.invokestatic 28, 3) := by decide +kernel
theorem dX7_has_11 : decode cX7_has 11 = .ok (.ireturn, 1) := by decide +kernel
theorem dX7_add_0 : decode cX7_add 0 = .ok (.aload_n 0, 1) := by decide +kernel
theorem dX7_add_1 : decode cX7_add 1 = .ok (.getfield 24, 3) := by decide +kernel
theorem dX7_add_4 : decode cX7_add 4 = .ok (.istore 4, 2) := by decide +kernel
theorem dX7_add_6 : decode cX7_add 6 = .ok (.aload_n 0, 1) := by decide +kernel
theorem dX7_add_7 : decode cX7_add 7 = .ok (.getfield 9, 3) := by decide +kernel
theorem dX7_add_10 : decode cX7_add 10 = .ok (.iload 4, 2) := by decide +kernel
theorem dX7_add_12 : decode cX7_add 12 = .ok (.iload_n 1, 1) := by decide +kernel
theorem dX7_add_13 : decode cX7_add 13 = .ok (.iastore, 1) := by decide +kernel
theorem dX7_add_14 : decode cX7_add 14 = .ok (.aload_n 0, 1) := by decide +kernel
theorem dX7_add_15 : decode cX7_add 15 = .ok (.getfield 15, 3) := by decide +kernel
theorem dX7_add_18 : decode cX7_add 18 = .ok (.iload 4, 2) := by decide +kernel
theorem dX7_add_20 : decode cX7_add 20 = .ok (.iload_n 2, 1) := by decide +kernel
theorem dX7_add_21 : decode cX7_add 21 = .ok (.iastore, 1) := by decide +kernel
theorem dX7_add_22 : decode cX7_add 22 = .ok (.aload_n 0, 1) := by decide +kernel
theorem dX7_add_23 : decode cX7_add 23 = .ok (.getfield 18, 3) := by decide +kernel
theorem dX7_add_26 : decode cX7_add 26 = .ok (.iload 4, 2) := by decide +kernel
theorem dX7_add_28 : decode cX7_add 28 = .ok (.iload_n 3, 1) := by decide +kernel
theorem dX7_add_29 : decode cX7_add 29 = .ok (.iastore, 1) := by decide +kernel
theorem dX7_add_30 : decode cX7_add 30 = .ok (.aload_n 0, 1) := by decide +kernel
theorem dX7_add_31 : decode cX7_add 31 = .ok (.dup, 1) := by decide +kernel
theorem dX7_add_32 : decode cX7_add 32 = .ok (.getfield 24, 3) := by decide +kernel
theorem dX7_add_35 : decode cX7_add 35 = .ok (.iconst 1, 1) := by decide +kernel
theorem dX7_add_36 : decode cX7_add 36 = .ok (.iadd, 1) := by decide +kernel
theorem dX7_add_37 : decode cX7_add 37 = .ok (.putfield 24, 3) := by decide +kernel
theorem dX7_add_40 : decode cX7_add 40 = .ok (.iload 4, 2) := by decide +kernel
theorem dX7_add_42 : decode cX7_add 42 = .ok (.ireturn, 1) := by decide +kernel
set_option maxRecDepth 20000 in
theorem ggX7_keyAndTenBetween_X7_fits : GoodIn wsX7_keyAndTenBetween wsX7_fits := goodIn_r _ [5, 6, 7, 8, 9, 10, 11, 12] (by decide +kernel) (by decide +kernel)
set_option maxRecDepth 20000 in
theorem gX7_keyAndTenBetween_X7_fits : GoodIn wsX7_keyAndTenBetween (wsV RX7 32 RX7 yX7_fits wsX7_fits) := goodIn_app (goodIn_of _ (by decide +kernel)) ggX7_keyAndTenBetween_X7_fits
theorem dX7_keyAndTenBetween_0 : decode cX7_keyAndTenBetween 0 = .ok (.iconst 0, 1) := by decide +kernel
theorem dX7_keyAndTenBetween_1 : decode cX7_keyAndTenBetween 1 = .ok (.istore 4, 2) := by decide +kernel
theorem dX7_keyAndTenBetween_3 : decode cX7_keyAndTenBetween 3 = .ok (.iload 4, 2) := by decide +kernel
theorem dX7_keyAndTenBetween_5 : decode cX7_keyAndTenBetween 5 = .ok (.bipush 6, 2) := by decide +kernel
theorem dX7_keyAndTenBetween_7 : decode cX7_keyAndTenBetween 7 = .ok (.if_icmp .gt 46, 3) := by decide +kernel
theorem dX7_keyAndTenBetween_10 : decode cX7_keyAndTenBetween 10 = .ok (.aload_n 0, 1) := by decide +kernel
theorem dX7_keyAndTenBetween_11 : decode cX7_keyAndTenBetween 11 = .ok (.iload_n 1, 1) := by decide +kernel
theorem dX7_keyAndTenBetween_12 : decode cX7_keyAndTenBetween 12 = .ok (.iload_n 2, 1) := by decide +kernel
theorem dX7_keyAndTenBetween_13 : decode cX7_keyAndTenBetween 13 = .ok (.iload_n 3, 1) := by decide +kernel
theorem dX7_keyAndTenBetween_14 : decode cX7_keyAndTenBetween 14 = .ok (.iload 4, 2) := by decide +kernel
theorem dX7_keyAndTenBetween_16 : decode cX7_keyAndTenBetween 16 = .ok (.invokevirtual 32, 3) := by decide +kernel
theorem dX7_keyAndTenBetween_19 : decode cX7_keyAndTenBetween 19 = .ok (.ifCond .eq 9, 3) := by decide +kernel
theorem dX7_keyAndTenBetween_22 : decode cX7_keyAndTenBetween 22 = .ok (.bipush 10, 2) := by decide +kernel
theorem dX7_keyAndTenBetween_24 : decode cX7_keyAndTenBetween 24 = .ok (.iload 4, 2) := by decide +kernel
theorem dX7_keyAndTenBetween_26 : decode cX7_keyAndTenBetween 26 = .ok (.iadd, 1) := by decide +kernel
theorem dX7_keyAndTenBetween_27 : decode cX7_keyAndTenBetween 27 = .ok (.ireturn, 1) := by decide +kernel
theorem dX7_keyAndTenBetween_28 : decode cX7_keyAndTenBetween 28 = .ok (.aload_n 0, 1) := by decide +kernel
theorem dX7_keyAndTenBetween_29 : decode cX7_keyAndTenBetween 29 = .ok (.iload_n 1, 1) := by decide +kernel
theorem dX7_keyAndTenBetween_30 : decode cX7_keyAndTenBetween 30 = .ok (.iload_n 2, 1) := by decide +kernel
theorem dX7_keyAndTenBetween_31 : decode cX7_keyAndTenBetween 31 = .ok (.iload_n 3, 1) := by decide +kernel
theorem dX7_keyAndTenBetween_32 : decode cX7_keyAndTenBetween 32 = .ok (.iload 4, 2) := by decide +kernel
theorem dX7_keyAndTenBetween_34 : decode cX7_keyAndTenBetween 34 = .ok (.ineg, 1) := by decide +kernel
theorem dX7_keyAndTenBetween_35 : decode cX7_keyAndTenBetween 35 = .ok (.invokevirtual 32, 3) := by decide +kernel
theorem dX7_keyAndTenBetween_38 : decode cX7_keyAndTenBetween 38 = .ok (.ifCond .eq 9, 3) := by decide +kernel
theorem dX7_keyAndTenBetween_41 : decode cX7_keyAndTenBetween 41 = .ok (.bipush 10, 2) := by decide +kernel
theorem dX7_keyAndTenBetween_43 : decode cX7_keyAndTenBetween 43 = .ok (.iload 4, 2) := by decide +kernel
theorem dX7_keyAndTenBetween_45 : decode cX7_keyAndTenBetween 45 = .ok (.isub, 1) := by decide +kernel
theorem dX7_keyAndTenBetween_46 : decode cX7_keyAndTenBetween 46 = .ok (.ireturn, 1) := by decide +kernel
theorem dX7_keyAndTenBetween_47 : decode cX7_keyAndTenBetween 47 = .ok (.iinc 4 1, 3) := by decide +kernel
theorem dX7_keyAndTenBetween_50 : decode cX7_keyAndTenBetween 50 = .ok (.goto (-47), 3) := by decide +kernel
theorem dX7_keyAndTenBetween_53 : decode cX7_keyAndTenBetween 53 = .ok (.bipush (-6), 2) := by decide +kernel
theorem dX7_keyAndTenBetween_55 : decode cX7_keyAndTenBetween 55 = .ok (.ireturn, 1) := by decide +kernel
theorem dX7_fits_0 : decode cX7_fits 0 = .ok (.aload_n 0, 1) := by decide +kernel
theorem dX7_fits_1 : decode cX7_fits 1 = .ok (.getfield 9, 3) := by decide +kernel
theorem dX7_fits_4 : decode cX7_fits 4 = .ok (.iload_n 3, 1) := by decide +kernel
theorem dX7_fits_5 : decode cX7_fits 5 = .ok (.iaload, 1) := by decide +kernel
theorem dX7_fits_6 : decode cX7_fits 6 = .ok (.iload 4, 2) := by decide +kernel
theorem dX7_fits_8 : decode cX7_fits 8 = .ok (.iadd, 1) := by decide +kernel
theorem dX7_fits_9 : decode cX7_fits 9 = .ok (.iload_n 1, 1) := by decide +kernel
theorem dX7_fits_10 : decode cX7_fits 10 = .ok (.if_icmp .lt 20, 3) := by decide +kernel
theorem dX7_fits_13 : decode cX7_fits 13 = .ok (.aload_n 0, 1) := by decide +kernel
theorem dX7_fits_14 : decode cX7_fits 14 = .ok (.getfield 15, 3) := by decide +kernel
theorem dX7_fits_17 : decode cX7_fits 17 = .ok (.iload_n 3, 1) := by decide +kernel
theorem dX7_fits_18 : decode cX7_fits 18 = .ok (.iaload, 1) := by decide +kernel
theorem dX7_fits_19 : decode cX7_fits 19 = .ok (.iload 4, 2) := by decide +kernel
theorem dX7_fits_21 : decode cX7_fits 21 = .ok (.iadd, 1) := by decide +kernel
theorem dX7_fits_22 : decode cX7_fits 22 = .ok (.iload_n 2, 1) := by decide +kernel
theorem dX7_fits_23 : decode cX7_fits 23 = .ok (.if_icmp .gt 7, 3) := by decide +kernel
theorem dX7_fits_26 : decode cX7_fits 26 = .ok (.iconst 1, 1) := by decide +kernel
theorem dX7_fits_27 : decode cX7_fits 27 = .ok (.goto 4, 3) := by decide +kernel
theorem dX7_fits_30 : decode cX7_fits 30 = .ok (.iconst 0, 1) := by decide +kernel
theorem dX7_fits_31 : decode cX7_fits 31 = .ok (.ireturn, 1) := by decide +kernel
set_option maxRecDepth 20000 in
theorem ggX7_copyFrom_X9_copyRow : GoodIn wsX7_copyFrom wsX9_copyRow := goodIn_r _ [8, 9, 10, 11, 12, 13, 14, 15, 16] (by decide +kernel) (by decide +kernel)
set_option maxRecDepth 20000 in
theorem gX7_copyFrom_X9_copyRow_n36 : GoodIn wsX7_copyFrom (wsX9_copyRow) := ggX7_copyFrom_X9_copyRow
theorem dX7_copyFrom_0 : decode cX7_copyFrom 0 = .ok (.aload_n 0, 1) := by decide +kernel
theorem dX7_copyFrom_1 : decode cX7_copyFrom 1 = .ok (.aload_n 1, 1) := by decide +kernel
theorem dX7_copyFrom_2 : decode cX7_copyFrom 2 = .ok (.getfield 24, 3) := by decide +kernel
theorem dX7_copyFrom_5 : decode cX7_copyFrom 5 = .ok (.putfield 24, 3) := by decide +kernel
theorem dX7_copyFrom_8 : decode cX7_copyFrom 8 = .ok (.aload_n 1, 1) := by decide +kernel
theorem dX7_copyFrom_9 : decode cX7_copyFrom 9 = .ok (.getfield 9, 3) := by decide +kernel
theorem dX7_copyFrom_12 : decode cX7_copyFrom 12 = .ok (.aload_n 0, 1) := by decide +kernel
theorem dX7_copyFrom_13 : decode cX7_copyFrom 13 = .ok (.getfield 9, 3) := by decide +kernel
theorem dX7_copyFrom_16 : decode cX7_copyFrom 16 = .ok (.invokestatic 36, 3) := by decide +kernel
theorem dX7_copyFrom_19 : decode cX7_copyFrom 19 = .ok (.aload_n 1, 1) := by decide +kernel
theorem dX7_copyFrom_20 : decode cX7_copyFrom 20 = .ok (.getfield 15, 3) := by decide +kernel
theorem dX7_copyFrom_23 : decode cX7_copyFrom 23 = .ok (.aload_n 0, 1) := by decide +kernel
theorem dX7_copyFrom_24 : decode cX7_copyFrom 24 = .ok (.getfield 15, 3) := by decide +kernel
theorem dX7_copyFrom_27 : decode cX7_copyFrom 27 = .ok (.invokestatic 36, 3) := by decide +kernel
theorem dX7_copyFrom_30 : decode cX7_copyFrom 30 = .ok (.aload_n 1, 1) := by decide +kernel
theorem dX7_copyFrom_31 : decode cX7_copyFrom 31 = .ok (.getfield 18, 3) := by decide +kernel
theorem dX7_copyFrom_34 : decode cX7_copyFrom 34 = .ok (.aload_n 0, 1) := by decide +kernel
theorem dX7_copyFrom_35 : decode cX7_copyFrom 35 = .ok (.getfield 18, 3) := by decide +kernel
theorem dX7_copyFrom_38 : decode cX7_copyFrom 38 = .ok (.invokestatic 36, 3) := by decide +kernel
theorem dX7_copyFrom_41 : decode cX7_copyFrom 41 = .ok (.aload_n 1, 1) := by decide +kernel
theorem dX7_copyFrom_42 : decode cX7_copyFrom 42 = .ok (.getfield 21, 3) := by decide +kernel
theorem dX7_copyFrom_45 : decode cX7_copyFrom 45 = .ok (.aload_n 0, 1) := by decide +kernel
theorem dX7_copyFrom_46 : decode cX7_copyFrom 46 = .ok (.getfield 21, 3) := by decide +kernel
theorem dX7_copyFrom_49 : decode cX7_copyFrom 49 = .ok (.invokestatic 36, 3) := by decide +kernel
theorem dX7_copyFrom_52 : decode cX7_copyFrom 52 = .ok (.return_, 1) := by decide +kernel
theorem dX8_init_0 : decode cX8_init 0 = .ok (.aload_n 0, 1) := by decide +kernel
theorem dX8_init_1 : decode cX8_init 1 = .ok (.invokespecial 3, 3) := by decide +kernel
theorem dX8_init_4 : decode cX8_init 4 = .ok (.aload_n 0, 1) := by decide +kernel
theorem dX8_init_5 : decode cX8_init 5 = .ok (.bipush 20, 2) := by decide +kernel
theorem dX8_init_7 : decode cX8_init 7 = .ok (.newarray .int, 2) := by decide +kernel
theorem dX8_init_9 : decode cX8_init 9 = .ok (.putfield 9, 3) := by decide +kernel
theorem dX8_init_12 : decode cX8_init 12 = .ok (.aload_n 0, 1) := by decide +kernel
theorem dX8_init_13 : decode cX8_init 13 = .ok (.bipush 20, 2) := by decide +kernel
theorem dX8_init_15 : decode cX8_init 15 = .ok (.newarray .int, 2) := by decide +kernel
theorem dX8_init_17 : decode cX8_init 17 = .ok (.putfield 15, 3) := by decide +kernel
theorem dX8_init_20 : decode cX8_init 20 = .ok (.aload_n 0, 1) := by decide +kernel
theorem dX8_init_21 : decode cX8_init 21 = .ok (.bipush 20, 2) := by decide +kernel
theorem dX8_init_23 : decode cX8_init 23 = .ok (.newarray .int, 2) := by decide +kernel
theorem dX8_init_25 : decode cX8_init 25 = .ok (.putfield 18, 3) := by decide +kernel
theorem dX8_init_28 : decode cX8_init 28 = .ok (.return_, 1) := by decide +kernel
set_option maxRecDepth 20000 in
theorem ggX8_has_X9_isBetween : GoodIn wsX8_has wsX9_isBetween := goodIn_r _ [4] (by decide +kernel) (by decide +kernel)
set_option maxRecDepth 20000 in
theorem gX8_has_X9_isBetween_n25 : GoodIn wsX8_has (wsX9_isBetween) := ggX8_has_X9_isBetween
theorem dX8_has_0 : decode cX8_has 0 = .ok (.iload_n 1, 1) := by decide +kernel
theorem dX8_has_1 : decode cX8_has 1 = .ok (.iconst 0, 1) := by decide +kernel
theorem dX8_has_2 : decode cX8_has 2 = .ok (.aload_n 0, 1) := by decide +kernel
theorem dX8_has_3 : decode cX8_has 3 = .ok (.getfield 21, 3) := by decide +kernel
theorem dX8_has_6 : decode cX8_has 6 = .ok (.iconst 1, 1) := by decide +kernel
theorem dX8_has_7 : decode cX8_has 7 = .ok (.isub, 1) := by decide +kernel
theorem dX8_has_8 : decode cX8_has 8 = .ok (.invokestatic 25, 3) := by decide +kernel
theorem dX8_has_11 : decode cX8_has 11 = .ok (.ireturn, 1) := by decide +kernel
theorem dX8_add_0 : decode cX8_add 0 = .ok (.aload_n 0, 1) := by decide +kernel
theorem dX8_add_1 : decode cX8_add 1 = .ok (.getfield 21, 3) := by decide +kernel
theorem dX8_add_4 : decode cX8_add 4 = .ok (.istore 4, 2) := by decide +kernel
theorem dX8_add_6 : decode cX8_add 6 = .ok (.aload_n 0, 1) := by decide +kernel
theorem dX8_add_7 : decode cX8_add 7 = .ok (.getfield 9, 3) := by decide +kernel
theorem dX8_add_10 : decode cX8_add 10 = .ok (.iload 4, 2) := by decide +kernel
theorem dX8_add_12 : decode cX8_add 12 = .ok (.iload_n 1, 1) := by decide +kernel
theorem dX8_add_13 : decode cX8_add 13 = .ok (.iastore, 1) := by decide +kernel
theorem dX8_add_14 : decode cX8_add 14 = .ok (.aload_n 0, 1) := by decide +kernel
theorem dX8_add_15 : decode cX8_add 15 = .ok (.getfield 15, 3) := by decide +kernel
theorem dX8_add_18 : decode cX8_add 18 = .ok (.iload 4, 2) := by decide +kernel
theorem dX8_add_20 : decode cX8_add 20 = .ok (.iload_n 2, 1) := by decide +kernel
theorem dX8_add_21 : decode cX8_add 21 = .ok (.iastore, 1) := by decide +kernel
theorem dX8_add_22 : decode cX8_add 22 = .ok (.aload_n 0, 1) := by decide +kernel
theorem dX8_add_23 : decode cX8_add 23 = .ok (.getfield 18, 3) := by decide +kernel
theorem dX8_add_26 : decode cX8_add 26 = .ok (.iload 4, 2) := by decide +kernel
theorem dX8_add_28 : decode cX8_add 28 = .ok (.iload_n 3, 1) := by decide +kernel
theorem dX8_add_29 : decode cX8_add 29 = .ok (.iastore, 1) := by decide +kernel
theorem dX8_add_30 : decode cX8_add 30 = .ok (.aload_n 0, 1) := by decide +kernel
theorem dX8_add_31 : decode cX8_add 31 = .ok (.dup, 1) := by decide +kernel
theorem dX8_add_32 : decode cX8_add 32 = .ok (.getfield 21, 3) := by decide +kernel
theorem dX8_add_35 : decode cX8_add 35 = .ok (.iconst 1, 1) := by decide +kernel
theorem dX8_add_36 : decode cX8_add 36 = .ok (.iadd, 1) := by decide +kernel
theorem dX8_add_37 : decode cX8_add 37 = .ok (.putfield 21, 3) := by decide +kernel
theorem dX8_add_40 : decode cX8_add 40 = .ok (.iload 4, 2) := by decide +kernel
theorem dX8_add_42 : decode cX8_add 42 = .ok (.ireturn, 1) := by decide +kernel
theorem dX8_removeAt_0 : decode cX8_removeAt 0 = .ok (.iload_n 1, 1) := by decide +kernel
theorem dX8_removeAt_1 : decode cX8_removeAt 1 = .ok (.istore_n 2, 1) := by decide +kernel
theorem dX8_removeAt_2 : decode cX8_removeAt 2 = .ok (.iload_n 2, 1) := by decide +kernel
theorem dX8_removeAt_3 : decode cX8_removeAt 3 = .ok (.aload_n 0, 1) := by decide +kernel
theorem dX8_removeAt_4 : decode cX8_removeAt 4 = .ok (.getfield 21, 3) := by decide +kernel
theorem dX8_removeAt_7 : decode cX8_removeAt 7 = .ok (.iconst 1, 1) := by decide +kernel
theorem dX8_removeAt_8 : decode cX8_removeAt 8 = .ok (.isub, 1) := by decide +kernel
theorem dX8_removeAt_9 : decode cX8_removeAt 9 = .ok (.if_icmp .ge 51, 3) := by decide +kernel
theorem dX8_removeAt_12 : decode cX8_removeAt 12 = .ok (.aload_n 0, 1) := by decide +kernel
theorem dX8_removeAt_13 : decode cX8_removeAt 13 = .ok (.getfield 9, 3) := by decide +kernel
theorem dX8_removeAt_16 : decode cX8_removeAt 16 = .ok (.iload_n 2, 1) := by decide +kernel
theorem dX8_removeAt_17 : decode cX8_removeAt 17 = .ok (.aload_n 0, 1) := by decide +kernel
theorem dX8_removeAt_18 : decode cX8_removeAt 18 = .ok (.getfield 9, 3) := by decide +kernel
theorem dX8_removeAt_21 : decode cX8_removeAt 21 = .ok (.iload_n 2, 1) := by decide +kernel
theorem dX8_removeAt_22 : decode cX8_removeAt 22 = .ok (.iconst 1, 1) := by decide +kernel
theorem dX8_removeAt_23 : decode cX8_removeAt 23 = .ok (.iadd, 1) := by decide +kernel
theorem dX8_removeAt_24 : decode cX8_removeAt 24 = .ok (.iaload, 1) := by decide +kernel
theorem dX8_removeAt_25 : decode cX8_removeAt 25 = .ok (.iastore, 1) := by decide +kernel
theorem dX8_removeAt_26 : decode cX8_removeAt 26 = .ok (.aload_n 0, 1) := by decide +kernel
theorem dX8_removeAt_27 : decode cX8_removeAt 27 = .ok (.getfield 15, 3) := by decide +kernel
theorem dX8_removeAt_30 : decode cX8_removeAt 30 = .ok (.iload_n 2, 1) := by decide +kernel
theorem dX8_removeAt_31 : decode cX8_removeAt 31 = .ok (.aload_n 0, 1) := by decide +kernel
theorem dX8_removeAt_32 : decode cX8_removeAt 32 = .ok (.getfield 15, 3) := by decide +kernel
theorem dX8_removeAt_35 : decode cX8_removeAt 35 = .ok (.iload_n 2, 1) := by decide +kernel
theorem dX8_removeAt_36 : decode cX8_removeAt 36 = .ok (.iconst 1, 1) := by decide +kernel
theorem dX8_removeAt_37 : decode cX8_removeAt 37 = .ok (.iadd, 1) := by decide +kernel
theorem dX8_removeAt_38 : decode cX8_removeAt 38 = .ok (.iaload, 1) := by decide +kernel
theorem dX8_removeAt_39 : decode cX8_removeAt 39 = .ok (.iastore, 1) := by decide +kernel
theorem dX8_removeAt_40 : decode cX8_removeAt 40 = .ok (.aload_n 0, 1) := by decide +kernel
theorem dX8_removeAt_41 : decode cX8_removeAt 41 = .ok (.getfield 18, 3) := by decide +kernel
theorem dX8_removeAt_44 : decode cX8_removeAt 44 = .ok (.iload_n 2, 1) := by decide +kernel
theorem dX8_removeAt_45 : decode cX8_removeAt 45 = .ok (.aload_n 0, 1) := by decide +kernel
theorem dX8_removeAt_46 : decode cX8_removeAt 46 = .ok (.getfield 18, 3) := by decide +kernel
theorem dX8_removeAt_49 : decode cX8_removeAt 49 = .ok (.iload_n 2, 1) := by decide +kernel
theorem dX8_removeAt_50 : decode cX8_removeAt 50 = .ok (.iconst 1, 1) := by decide +kernel
theorem dX8_removeAt_51 : decode cX8_removeAt 51 = .ok (.iadd, 1) := by decide +kernel
theorem dX8_removeAt_52 : decode cX8_removeAt 52 = .ok (.iaload, 1) := by decide +kernel
theorem dX8_removeAt_53 : decode cX8_removeAt 53 = .ok (.iastore, 1) := by decide +kernel
theorem dX8_removeAt_54 : decode cX8_removeAt 54 = .ok (.iinc 2 1, 3) := by decide +kernel
theorem dX8_removeAt_57 : decode cX8_removeAt 57 = .ok (.goto (-55), 3) := by decide +kernel
theorem dX8_removeAt_60 : decode cX8_removeAt 60 = .ok (.aload_n 0, 1) := by decide +kernel
theorem dX8_removeAt_61 : decode cX8_removeAt 61 = .ok (.dup, 1) := by decide +kernel
theorem dX8_removeAt_62 : decode cX8_removeAt 62 = .ok (.getfield 21, 3) := by decide +kernel
theorem dX8_removeAt_65 : decode cX8_removeAt 65 = .ok (.iconst 1, 1) := by decide +kernel
theorem dX8_removeAt_66 : decode cX8_removeAt 66 = .ok (.isub, 1) := by decide +kernel
theorem dX8_removeAt_67 : decode cX8_removeAt 67 = .ok (.putfield 21, 3) := by decide +kernel
theorem dX8_removeAt_70 : decode cX8_removeAt 70 = .ok (.return_, 1) := by decide +kernel
theorem dX8_singersOf_0 : decode cX8_singersOf 0 = .ok (.iconst 1, 1) := by decide +kernel
theorem dX8_singersOf_1 : decode cX8_singersOf 1 = .ok (.aload_n 0, 1) := by decide +kernel
theorem dX8_singersOf_2 : decode cX8_singersOf 2 = .ok (.getfield 9, 3) := by decide +kernel
theorem dX8_singersOf_5 : decode cX8_singersOf 5 = .ok (.iload_n 1, 1) := by decide +kernel
theorem dX8_singersOf_6 : decode cX8_singersOf 6 = .ok (.iaload, 1) := by decide +kernel
theorem dX8_singersOf_7 : decode cX8_singersOf 7 = .ok (.ishl, 1) := by decide +kernel
theorem dX8_singersOf_8 : decode cX8_singersOf 8 = .ok (.istore_n 2, 1) := by decide +kernel
theorem dX8_singersOf_9 : decode cX8_singersOf 9 = .ok (.aload_n 0, 1) := by decide +kernel
theorem dX8_singersOf_10 : decode cX8_singersOf 10 = .ok (.getfield 15, 3) := by decide +kernel
theorem dX8_singersOf_13 : decode cX8_singersOf 13 = .ok (.iload_n 1, 1) := by decide +kernel
theorem dX8_singersOf_14 : decode cX8_singersOf 14 = .ok (.iaload, 1) := by decide +kernel
theorem dX8_singersOf_15 : decode cX8_singersOf 15 = .ok (.bipush (-6), 2) := by decide +kernel
theorem dX8_singersOf_17 : decode cX8_singersOf 17 = .ok (.if_icmp .ne 7, 3) := by decide +kernel
theorem dX8_singersOf_20 : decode cX8_singersOf 20 = .ok (.iload_n 2, 1) := by decide +kernel
theorem dX8_singersOf_21 : decode cX8_singersOf 21 = .ok (.goto 13, 3) := by decide +kernel
theorem dX8_singersOf_24 : decode cX8_singersOf 24 = .ok (.iload_n 2, 1) := by decide +kernel
theorem dX8_singersOf_25 : decode cX8_singersOf 25 = .ok (.iconst 1, 1) := by decide +kernel
theorem dX8_singersOf_26 : decode cX8_singersOf 26 = .ok (.aload_n 0, 1) := by decide +kernel
theorem dX8_singersOf_27 : decode cX8_singersOf 27 = .ok (.getfield 15, 3) := by decide +kernel
theorem dX8_singersOf_30 : decode cX8_singersOf 30 = .ok (.iload_n 1, 1) := by decide +kernel
theorem dX8_singersOf_31 : decode cX8_singersOf 31 = .ok (.iaload, 1) := by decide +kernel
theorem dX8_singersOf_32 : decode cX8_singersOf 32 = .ok (.ishl, 1) := by decide +kernel
theorem dX8_singersOf_33 : decode cX8_singersOf 33 = .ok (.ior, 1) := by decide +kernel
theorem dX8_singersOf_34 : decode cX8_singersOf 34 = .ok (.ireturn, 1) := by decide +kernel
set_option maxRecDepth 20000 in
theorem ggX8_numberWith_X8_singersOf : GoodIn wsX8_numberWith wsX8_singersOf := goodIn_r _ [6, 7, 8, 12, 13, 14, 15] (by decide +kernel) (by decide +kernel)
set_option maxRecDepth 20000 in
theorem gX8_numberWith_X8_singersOf : GoodIn wsX8_numberWith (wsV RX8 29 RX8 yX8_singersOf wsX8_singersOf) := goodIn_app (goodIn_of _ (by decide +kernel)) ggX8_numberWith_X8_singersOf
set_option maxRecDepth 20000 in
theorem ggX8_numberWith_X9_isIn : GoodIn wsX8_numberWith wsX9_isIn := goodIn_r _ [11] (by decide +kernel) (by decide +kernel)
set_option maxRecDepth 20000 in
theorem gX8_numberWith_X9_isIn_n33 : GoodIn wsX8_numberWith (wsX9_isIn) := ggX8_numberWith_X9_isIn
theorem dX8_numberWith_0 : decode cX8_numberWith 0 = .ok (.iconst 0, 1) := by decide +kernel
theorem dX8_numberWith_1 : decode cX8_numberWith 1 = .ok (.istore_n 2, 1) := by decide +kernel
theorem dX8_numberWith_2 : decode cX8_numberWith 2 = .ok (.iconst 0, 1) := by decide +kernel
theorem dX8_numberWith_3 : decode cX8_numberWith 3 = .ok (.istore_n 3, 1) := by decide +kernel
theorem dX8_numberWith_4 : decode cX8_numberWith 4 = .ok (.iload_n 3, 1) := by decide +kernel
theorem dX8_numberWith_5 : decode cX8_numberWith 5 = .ok (.aload_n 0, 1) := by decide +kernel
theorem dX8_numberWith_6 : decode cX8_numberWith 6 = .ok (.getfield 21, 3) := by decide +kernel
theorem dX8_numberWith_9 : decode cX8_numberWith 9 = .ok (.if_icmp .ge 24, 3) := by decide +kernel
theorem dX8_numberWith_12 : decode cX8_numberWith 12 = .ok (.aload_n 0, 1) := by decide +kernel
theorem dX8_numberWith_13 : decode cX8_numberWith 13 = .ok (.iload_n 3, 1) := by decide +kernel
theorem dX8_numberWith_14 : decode cX8_numberWith 14 = .ok (.invokevirtual 29, 3) := by decide +kernel
theorem dX8_numberWith_17 : decode cX8_numberWith 17 = .ok (.iload_n 1, 1) := by decide +kernel
theorem dX8_numberWith_18 : decode cX8_numberWith 18 = .ok (.invokestatic 33, 3) := by decide +kernel
theorem dX8_numberWith_21 : decode cX8_numberWith 21 = .ok (.ifCond .eq 6, 3) := by decide +kernel
theorem dX8_numberWith_24 : decode cX8_numberWith 24 = .ok (.iinc 2 1, 3) := by decide +kernel
theorem dX8_numberWith_27 : decode cX8_numberWith 27 = .ok (.iinc 3 1, 3) := by decide +kernel
theorem dX8_numberWith_30 : decode cX8_numberWith 30 = .ok (.goto (-26), 3) := by decide +kernel
theorem dX8_numberWith_33 : decode cX8_numberWith 33 = .ok (.iload_n 2, 1) := by decide +kernel
theorem dX8_numberWith_34 : decode cX8_numberWith 34 = .ok (.ireturn, 1) := by decide +kernel
set_option maxRecDepth 20000 in
theorem ggX8_readyOnes_X8_onesWithout : GoodIn wsX8_readyOnes wsX8_onesWithout := goodIn_r _ [5, 6, 7, 8, 9, 4, 10, 11, 12, 13, 14, 15, 16] (by decide +kernel) (by decide +kernel)
set_option maxRecDepth 20000 in
theorem gX8_readyOnes_X8_onesWithout : GoodIn wsX8_readyOnes (wsV RX8 37 RX8 yX8_onesWithout wsX8_onesWithout) := goodIn_app (goodIn_of _ (by decide +kernel)) ggX8_readyOnes_X8_onesWithout
theorem dX8_readyOnes_0 : decode cX8_readyOnes 0 = .ok (.aload_n 0, 1) := by decide +kernel
theorem dX8_readyOnes_1 : decode cX8_readyOnes 1 = .ok (.iload_n 1, 1) := by decide +kernel
theorem dX8_readyOnes_2 : decode cX8_readyOnes 2 = .ok (.iconst (-1), 1) := by decide +kernel
theorem dX8_readyOnes_3 : decode cX8_readyOnes 3 = .ok (.ixor, 1) := by decide +kernel
theorem dX8_readyOnes_4 : decode cX8_readyOnes 4 = .ok (.invokevirtual 37, 3) := by decide +kernel
theorem dX8_readyOnes_7 : decode cX8_readyOnes 7 = .ok (.ireturn, 1) := by decide +kernel
set_option maxRecDepth 20000 in
theorem ggX8_freshOnes_X8_onesWithout : GoodIn wsX8_freshOnes wsX8_onesWithout := goodIn_r _ [5, 6, 7, 8, 9, 4, 10, 11, 12, 13, 14, 15, 16] (by decide +kernel) (by decide +kernel)
set_option maxRecDepth 20000 in
theorem gX8_freshOnes_X8_onesWithout : GoodIn wsX8_freshOnes (wsV RX8 37 RX8 yX8_onesWithout wsX8_onesWithout) := goodIn_app (goodIn_of _ (by decide +kernel)) ggX8_freshOnes_X8_onesWithout
theorem dX8_freshOnes_0 : decode cX8_freshOnes 0 = .ok (.aload_n 0, 1) := by decide +kernel
theorem dX8_freshOnes_1 : decode cX8_freshOnes 1 = .ok (.iload_n 1, 1) := by decide +kernel
theorem dX8_freshOnes_2 : decode cX8_freshOnes 2 = .ok (.invokevirtual 37, 3) := by decide +kernel
theorem dX8_freshOnes_5 : decode cX8_freshOnes 5 = .ok (.ireturn, 1) := by decide +kernel
set_option maxRecDepth 20000 in
theorem ggX8_onesWithout_X8_singersOf : GoodIn wsX8_onesWithout wsX8_singersOf := goodIn_r _ [6, 7, 8, 9, 10, 11, 12] (by decide +kernel) (by decide +kernel)
set_option maxRecDepth 20000 in
theorem gX8_onesWithout_X8_singersOf : GoodIn wsX8_onesWithout (wsV RX8 29 RX8 yX8_singersOf wsX8_singersOf) := goodIn_app (goodIn_of _ (by decide +kernel)) ggX8_onesWithout_X8_singersOf
theorem dX8_onesWithout_0 : decode cX8_onesWithout 0 = .ok (.iconst 0, 1) := by decide +kernel
theorem dX8_onesWithout_1 : decode cX8_onesWithout 1 = .ok (.istore_n 2, 1) := by decide +kernel
theorem dX8_onesWithout_2 : decode cX8_onesWithout 2 = .ok (.iconst 0, 1) := by decide +kernel
theorem dX8_onesWithout_3 : decode cX8_onesWithout 3 = .ok (.istore_n 3, 1) := by decide +kernel
theorem dX8_onesWithout_4 : decode cX8_onesWithout 4 = .ok (.iload_n 3, 1) := by decide +kernel
theorem dX8_onesWithout_5 : decode cX8_onesWithout 5 = .ok (.aload_n 0, 1) := by decide +kernel
theorem dX8_onesWithout_6 : decode cX8_onesWithout 6 = .ok (.getfield 21, 3) := by decide +kernel
theorem dX8_onesWithout_9 : decode cX8_onesWithout 9 = .ok (.if_icmp .ge 25, 3) := by decide +kernel
theorem dX8_onesWithout_12 : decode cX8_onesWithout 12 = .ok (.aload_n 0, 1) := by decide +kernel
theorem dX8_onesWithout_13 : decode cX8_onesWithout 13 = .ok (.iload_n 3, 1) := by decide +kernel
theorem dX8_onesWithout_14 : decode cX8_onesWithout 14 = .ok (.invokevirtual 29, 3) := by decide +kernel
theorem dX8_onesWithout_17 : decode cX8_onesWithout 17 = .ok (.iload_n 1, 1) := by decide +kernel
theorem dX8_onesWithout_18 : decode cX8_onesWithout 18 = .ok (.iand, 1) := by decide +kernel
theorem dX8_onesWithout_19 : decode cX8_onesWithout 19 = .ok (.ifCond .ne 9, 3) := by decide +kernel
theorem dX8_onesWithout_22 : decode cX8_onesWithout 22 = .ok (.iload_n 2, 1) := by decide +kernel
theorem dX8_onesWithout_23 : decode cX8_onesWithout 23 = .ok (.iconst 1, 1) := by decide +kernel
theorem dX8_onesWithout_24 : decode cX8_onesWithout 24 = .ok (.iload_n 3, 1) := by decide +kernel
theorem dX8_onesWithout_25 : decode cX8_onesWithout 25 = .ok (.ishl, 1) := by decide +kernel
theorem dX8_onesWithout_26 : decode cX8_onesWithout 26 = .ok (.ior, 1) := by decide +kernel
theorem dX8_onesWithout_27 : decode cX8_onesWithout 27 = .ok (.istore_n 2, 1) := by decide +kernel
theorem dX8_onesWithout_28 : decode cX8_onesWithout 28 = .ok (.iinc 3 1, 3) := by decide +kernel
theorem dX8_onesWithout_31 : decode cX8_onesWithout 31 = .ok (.goto (-27), 3) := by decide +kernel
theorem dX8_onesWithout_34 : decode cX8_onesWithout 34 = .ok (.iload_n 2, 1) := by decide +kernel
theorem dX8_onesWithout_35 : decode cX8_onesWithout 35 = .ok (.ireturn, 1) := by decide +kernel
theorem dX8_turnsFor_0 : decode cX8_turnsFor 0 = .ok (.aload_n 2, 1) := by decide +kernel
theorem dX8_turnsFor_1 : decode cX8_turnsFor 1 = .ok (.aload_n 0, 1) := by decide +kernel
theorem dX8_turnsFor_2 : decode cX8_turnsFor 2 = .ok (.getfield 9, 3) := by decide +kernel
theorem dX8_turnsFor_5 : decode cX8_turnsFor 5 = .ok (.iload_n 1, 1) := by decide +kernel
theorem dX8_turnsFor_6 : decode cX8_turnsFor 6 = .ok (.iaload, 1) := by decide +kernel
theorem dX8_turnsFor_7 : decode cX8_turnsFor 7 = .ok (.iaload, 1) := by decide +kernel
theorem dX8_turnsFor_8 : decode cX8_turnsFor 8 = .ok (.istore_n 3, 1) := by decide +kernel
theorem dX8_turnsFor_9 : decode cX8_turnsFor 9 = .ok (.aload_n 0, 1) := by decide +kernel
theorem dX8_turnsFor_10 : decode cX8_turnsFor 10 = .ok (.getfield 15, 3) := by decide +kernel
theorem dX8_turnsFor_13 : decode cX8_turnsFor 13 = .ok (.iload_n 1, 1) := by decide +kernel
theorem dX8_turnsFor_14 : decode cX8_turnsFor 14 = .ok (.iaload, 1) := by decide +kernel
theorem dX8_turnsFor_15 : decode cX8_turnsFor 15 = .ok (.bipush (-6), 2) := by decide +kernel
theorem dX8_turnsFor_17 : decode cX8_turnsFor 17 = .ok (.if_icmp .ne 7, 3) := by decide +kernel
theorem dX8_turnsFor_20 : decode cX8_turnsFor 20 = .ok (.iload_n 3, 1) := by decide +kernel
theorem dX8_turnsFor_21 : decode cX8_turnsFor 21 = .ok (.goto 15, 3) := by decide +kernel
theorem dX8_turnsFor_24 : decode cX8_turnsFor 24 = .ok (.iload_n 3, 1) := by decide +kernel
theorem dX8_turnsFor_25 : decode cX8_turnsFor 25 = .ok (.aload_n 2, 1) := by decide +kernel
theorem dX8_turnsFor_26 : decode cX8_turnsFor 26 = .ok (.aload_n 0, 1) := by decide +kernel
theorem dX8_turnsFor_27 : decode cX8_turnsFor 27 = .ok (.getfield 15, 3) := by decide +kernel
theorem dX8_turnsFor_30 : decode cX8_turnsFor 30 = .ok (.iload_n 1, 1) := by decide +kernel
theorem dX8_turnsFor_31 : decode cX8_turnsFor 31 = .ok (.iaload, 1) := by decide +kernel
theorem dX8_turnsFor_32 : decode cX8_turnsFor 32 = .ok (.iaload, 1) := by decide +kernel
theorem dX8_turnsFor_33 : decode cX8_turnsFor 33 = .ok (.invokestatic 40, 3) := by decide +kernel
theorem dX8_turnsFor_36 : decode cX8_turnsFor 36 = .ok (.ireturn, 1) := by decide +kernel
set_option maxRecDepth 20000 in
theorem ggX8_nextAmong_X8_freshOnes : GoodIn wsX8_nextAmong wsX8_freshOnes := goodIn_r _ [5, 6, 7, 8, 4, 9, 10, 11, 12, 13, 14, 15, 16, 32, 33, 34, 35] (by decide +kernel) (by decide +kernel)
set_option maxRecDepth 20000 in
theorem gX8_nextAmong_X8_freshOnes : GoodIn wsX8_nextAmong (wsV RX8 46 RX8 yX8_freshOnes wsX8_freshOnes) := goodIn_app (goodIn_of _ (by decide +kernel)) ggX8_nextAmong_X8_freshOnes
set_option maxRecDepth 20000 in
theorem ggX8_nextAmong_X8_fewestTurnsAmong : GoodIn wsX8_nextAmong wsX8_fewestTurnsAmong := goodIn_r _ [20, 10, 21, 22, 23, 24, 25, 26, 4, 27, 15, 16, 28, 29, 30, 31, 32, 33, 34, 35] (by decide +kernel) (by decide +kernel)
set_option maxRecDepth 20000 in
theorem gX8_nextAmong_X8_fewestTurnsAmong : GoodIn wsX8_nextAmong (wsV RX8 49 RX8 yX8_fewestTurnsAmong wsX8_fewestTurnsAmong) := goodIn_app (goodIn_of _ (by decide +kernel)) ggX8_nextAmong_X8_fewestTurnsAmong
theorem dX8_nextAmong_0 : decode cX8_nextAmong 0 = .ok (.aload_n 0, 1) := by decide +kernel
theorem dX8_nextAmong_1 : decode cX8_nextAmong 1 = .ok (.iload_n 1, 1) := by decide +kernel
theorem dX8_nextAmong_2 : decode cX8_nextAmong 2 = .ok (.aload_n 0, 1) := by decide +kernel
theorem dX8_nextAmong_3 : decode cX8_nextAmong 3 = .ok (.iload_n 2, 1) := by decide +kernel
theorem dX8_nextAmong_4 : decode cX8_nextAmong 4 = .ok (.invokevirtual 46, 3) := by decide +kernel
theorem dX8_nextAmong_7 : decode cX8_nextAmong 7 = .ok (.iand, 1) := by decide +kernel
theorem dX8_nextAmong_8 : decode cX8_nextAmong 8 = .ok (.aload_n 3, 1) := by decide +kernel
theorem dX8_nextAmong_9 : decode cX8_nextAmong 9 = .ok (.invokevirtual 49, 3) := by decide +kernel
theorem dX8_nextAmong_12 : decode cX8_nextAmong 12 = .ok (.istore 4, 2) := by decide +kernel
theorem dX8_nextAmong_14 : decode cX8_nextAmong 14 = .ok (.iload 4, 2) := by decide +kernel
theorem dX8_nextAmong_16 : decode cX8_nextAmong 16 = .ok (.bipush (-6), 2) := by decide +kernel
theorem dX8_nextAmong_18 : decode cX8_nextAmong 18 = .ok (.if_icmp .eq 8, 3) := by decide +kernel
theorem dX8_nextAmong_21 : decode cX8_nextAmong 21 = .ok (.iload 4, 2) := by decide +kernel
theorem dX8_nextAmong_23 : decode cX8_nextAmong 23 = .ok (.goto 9, 3) := by decide +kernel
theorem dX8_nextAmong_26 : decode cX8_nextAmong 26 = .ok (.aload_n 0, 1) := by decide +kernel
theorem dX8_nextAmong_27 : decode cX8_nextAmong 27 = .ok (.iload_n 1, 1) := by decide +kernel
theorem dX8_nextAmong_28 : decode cX8_nextAmong 28 = .ok (.aload_n 3, 1) := by decide +kernel
theorem dX8_nextAmong_29 : decode cX8_nextAmong 29 = .ok (.invokevirtual 49, 3) := by decide +kernel
theorem dX8_nextAmong_32 : decode cX8_nextAmong 32 = .ok (.ireturn, 1) := by decide +kernel
set_option maxRecDepth 20000 in
theorem ggX8_fewestTurnsAmong_X9_isIn : GoodIn wsX8_fewestTurnsAmong wsX9_isIn := goodIn_r _ [4] (by decide +kernel) (by decide +kernel)
set_option maxRecDepth 20000 in
theorem gX8_fewestTurnsAmong_X9_isIn_n33 : GoodIn wsX8_fewestTurnsAmong (wsX9_isIn) := ggX8_fewestTurnsAmong_X9_isIn
set_option maxRecDepth 20000 in
theorem ggX8_fewestTurnsAmong_X8_turnsFor : GoodIn wsX8_fewestTurnsAmong wsX8_turnsFor := goodIn_r _ [9, 10, 11, 12, 13, 14, 15, 16, 17, 18, 19] (by decide +kernel) (by decide +kernel)
set_option maxRecDepth 20000 in
theorem gX8_fewestTurnsAmong_X8_turnsFor : GoodIn wsX8_fewestTurnsAmong (wsV RX8 53 RX8 yX8_turnsFor wsX8_turnsFor) := goodIn_app (goodIn_of _ (by decide +kernel)) ggX8_fewestTurnsAmong_X8_turnsFor
theorem dX8_fewestTurnsAmong_0 : decode cX8_fewestTurnsAmong 0 = .ok (.bipush (-6), 2) := by decide +kernel
theorem dX8_fewestTurnsAmong_2 : decode cX8_fewestTurnsAmong 2 = .ok (.istore_n 3, 1) := by decide +kernel
theorem dX8_fewestTurnsAmong_3 : decode cX8_fewestTurnsAmong 3 = .ok (.iconst 0, 1) := by decide +kernel
theorem dX8_fewestTurnsAmong_4 : decode cX8_fewestTurnsAmong 4 = .ok (.istore 4, 2) := by decide +kernel
theorem dX8_fewestTurnsAmong_6 : decode cX8_fewestTurnsAmong 6 = .ok (.iload 4, 2) := by decide +kernel
theorem dX8_fewestTurnsAmong_8 : decode cX8_fewestTurnsAmong 8 = .ok (.aload_n 0, 1) := by decide +kernel
theorem dX8_fewestTurnsAmong_9 : decode cX8_fewestTurnsAmong 9 = .ok (.getfield 21, 3) := by decide +kernel
theorem dX8_fewestTurnsAmong_12 : decode cX8_fewestTurnsAmong 12 = .ok (.if_icmp .ge 43, 3) := by decide +kernel
theorem dX8_fewestTurnsAmong_15 : decode cX8_fewestTurnsAmong 15 = .ok (.iload_n 1, 1) := by decide +kernel
theorem dX8_fewestTurnsAmong_16 : decode cX8_fewestTurnsAmong 16 = .ok (.iload 4, 2) := by decide +kernel
theorem dX8_fewestTurnsAmong_18 : decode cX8_fewestTurnsAmong 18 = .ok (.invokestatic 33, 3) := by decide +kernel
theorem dX8_fewestTurnsAmong_21 : decode cX8_fewestTurnsAmong 21 = .ok (.ifCond .eq 28, 3) := by decide +kernel
theorem dX8_fewestTurnsAmong_24 : decode cX8_fewestTurnsAmong 24 = .ok (.iload_n 3, 1) := by decide +kernel
theorem dX8_fewestTurnsAmong_25 : decode cX8_fewestTurnsAmong 25 = .ok (.bipush (-6), 2) := by decide +kernel
theorem dX8_fewestTurnsAmong_27 : decode cX8_fewestTurnsAmong 27 = .ok (.if_icmp .eq 19, 3) := by decide +kernel
theorem dX8_fewestTurnsAmong_30 : decode cX8_fewestTurnsAmong 30 = .ok (.aload_n 0, 1) := by decide +kernel
theorem dX8_fewestTurnsAmong_31 : decode cX8_fewestTurnsAmong 31 = .ok (.iload 4, 2) := by decide +kernel
theorem dX8_fewestTurnsAmong_33 : decode cX8_fewestTurnsAmong 33 = .ok (.aload_n 2, 1) := by decide +kernel
theorem dX8_fewestTurnsAmong_34 : decode cX8_fewestTurnsAmong 34 = .ok (.invokevirtual 53, 3) := by decide +kernel
theorem dX8_fewestTurnsAmong_37 : decode cX8_fewestTurnsAmong 37 = .ok (.aload_n 0, 1) := by decide +kernel
theorem dX8_fewestTurnsAmong_38 : decode cX8_fewestTurnsAmong 38 = .ok (.iload_n 3, 1) := by decide +kernel
theorem dX8_fewestTurnsAmong_39 : decode cX8_fewestTurnsAmong 39 = .ok (.aload_n 2, 1) := by decide +kernel
theorem dX8_fewestTurnsAmong_40 : decode cX8_fewestTurnsAmong 40 = .ok (.invokevirtual 53, 3) := by decide +kernel
theorem dX8_fewestTurnsAmong_43 : decode cX8_fewestTurnsAmong 43 = .ok (.if_icmp .ge 6, 3) := by decide +kernel
theorem dX8_fewestTurnsAmong_46 : decode cX8_fewestTurnsAmong 46 = .ok (.iload 4, 2) := by decide +kernel
theorem dX8_fewestTurnsAmong_48 : decode cX8_fewestTurnsAmong 48 = .ok (.istore_n 3, 1) := by decide +kernel
theorem dX8_fewestTurnsAmong_49 : decode cX8_fewestTurnsAmong 49 = .ok (.iinc 4 1, 3) := by decide +kernel
theorem dX8_fewestTurnsAmong_52 : decode cX8_fewestTurnsAmong 52 = .ok (.goto (-46), 3) := by decide +kernel
theorem dX8_fewestTurnsAmong_55 : decode cX8_fewestTurnsAmong 55 = .ok (.iload_n 3, 1) := by decide +kernel
theorem dX8_fewestTurnsAmong_56 : decode cX8_fewestTurnsAmong 56 = .ok (.ireturn, 1) := by decide +kernel
set_option maxRecDepth 20000 in
theorem ggX8_copyFrom_X9_copyRow : GoodIn wsX8_copyFrom wsX9_copyRow := goodIn_r _ [7, 8, 9, 10, 11, 12, 13, 14, 15] (by decide +kernel) (by decide +kernel)
set_option maxRecDepth 20000 in
theorem gX8_copyFrom_X9_copyRow_n56 : GoodIn wsX8_copyFrom (wsX9_copyRow) := ggX8_copyFrom_X9_copyRow
theorem dX8_copyFrom_0 : decode cX8_copyFrom 0 = .ok (.aload_n 0, 1) := by decide +kernel
theorem dX8_copyFrom_1 : decode cX8_copyFrom 1 = .ok (.aload_n 1, 1) := by decide +kernel
theorem dX8_copyFrom_2 : decode cX8_copyFrom 2 = .ok (.getfield 21, 3) := by decide +kernel
theorem dX8_copyFrom_5 : decode cX8_copyFrom 5 = .ok (.putfield 21, 3) := by decide +kernel
theorem dX8_copyFrom_8 : decode cX8_copyFrom 8 = .ok (.aload_n 1, 1) := by decide +kernel
theorem dX8_copyFrom_9 : decode cX8_copyFrom 9 = .ok (.getfield 9, 3) := by decide +kernel
theorem dX8_copyFrom_12 : decode cX8_copyFrom 12 = .ok (.aload_n 0, 1) := by decide +kernel
theorem dX8_copyFrom_13 : decode cX8_copyFrom 13 = .ok (.getfield 9, 3) := by decide +kernel
theorem dX8_copyFrom_16 : decode cX8_copyFrom 16 = .ok (.invokestatic 56, 3) := by decide +kernel
theorem dX8_copyFrom_19 : decode cX8_copyFrom 19 = .ok (.aload_n 1, 1) := by decide +kernel
theorem dX8_copyFrom_20 : decode cX8_copyFrom 20 = .ok (.getfield 15, 3) := by decide +kernel
theorem dX8_copyFrom_23 : decode cX8_copyFrom 23 = .ok (.aload_n 0, 1) := by decide +kernel
theorem dX8_copyFrom_24 : decode cX8_copyFrom 24 = .ok (.getfield 15, 3) := by decide +kernel
theorem dX8_copyFrom_27 : decode cX8_copyFrom 27 = .ok (.invokestatic 56, 3) := by decide +kernel
theorem dX8_copyFrom_30 : decode cX8_copyFrom 30 = .ok (.aload_n 1, 1) := by decide +kernel
theorem dX8_copyFrom_31 : decode cX8_copyFrom 31 = .ok (.getfield 18, 3) := by decide +kernel
theorem dX8_copyFrom_34 : decode cX8_copyFrom 34 = .ok (.aload_n 0, 1) := by decide +kernel
theorem dX8_copyFrom_35 : decode cX8_copyFrom 35 = .ok (.getfield 18, 3) := by decide +kernel
theorem dX8_copyFrom_38 : decode cX8_copyFrom 38 = .ok (.invokestatic 56, 3) := by decide +kernel
theorem dX8_copyFrom_41 : decode cX8_copyFrom 41 = .ok (.return_, 1) := by decide +kernel
