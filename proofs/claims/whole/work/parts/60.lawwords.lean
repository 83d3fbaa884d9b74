/-! the law's words -/
theorem wsL_law_i1 : ∀ w ∈ wsL_law_r1, w ∈ lw_tbl := fun w h => (goodIn_p wsL_law_r1 [55, 58] (by decide +kernel) (by decide +kernel) w h).1
theorem wsL_law_i2 : ∀ w ∈ wsL_law_r2, w ∈ lw_tbl := fun w h => (goodIn_p wsL_law_r2 [63] (by decide +kernel) (by decide +kernel) w h).1
theorem wsL_law_i3 : ∀ w ∈ wsL_law_r3, w ∈ lw_tbl := fun w h => (goodIn_p wsL_law_r3 [69, 114, 143] (by decide +kernel) (by decide +kernel) w h).1
theorem wsL_law_i4 : ∀ w ∈ wsL_law_r4, w ∈ lw_tbl := fun w h => (goodIn_p wsL_law_r4 [169, 224, 244, 262] (by decide +kernel) (by decide +kernel) w h).1
theorem wsL_law_i5 : ∀ w ∈ wsL_law_r5, w ∈ lw_tbl := fun w h => (goodIn_p wsL_law_r5 [288, 675, 327] (by decide +kernel) (by decide +kernel) w h).1
theorem wsL_law_i6 : ∀ w ∈ wsL_law_r6, w ∈ lw_tbl := fun w h => (goodIn_p wsL_law_r6 [330, 333, 337, 351, 341] (by decide +kernel) (by decide +kernel) w h).1
theorem wsL_law_i7 : ∀ w ∈ wsL_law_r7, w ∈ lw_tbl := fun w h => (goodIn_p wsL_law_r7 [345, 348, 358, 363] (by decide +kernel) (by decide +kernel) w h).1
theorem wsL_law_i8 : ∀ w ∈ wsL_law_r8, w ∈ lw_tbl := fun w h => (goodIn_p wsL_law_r8 [368, 374, 378, 717, 720, 724] (by decide +kernel) (by decide +kernel) w h).1
theorem wsL_law_i9 : ∀ w ∈ wsL_law_r9, w ∈ lw_tbl := fun w h => (goodIn_p wsL_law_r9 [727, 731, 382, 386, 735, 390] (by decide +kernel) (by decide +kernel) w h).1
theorem wsL_law_i10 : ∀ w ∈ wsL_law_r10, w ∈ lw_tbl := fun w h => (goodIn_p wsL_law_r10 [394, 399, 402, 406, 739] (by decide +kernel) (by decide +kernel) w h).1
theorem wsL_law_i11 : ∀ w ∈ wsL_law_r11, w ∈ lw_tbl := fun w h => (goodIn_p wsL_law_r11 [743, 747, 751, 754, 413, 417] (by decide +kernel) (by decide +kernel) w h).1
theorem wsL_law_i12 : ∀ w ∈ wsL_law_r12, w ∈ lw_tbl := fun w h => (goodIn_p wsL_law_r12 [421, 426, 431, 434, 439] (by decide +kernel) (by decide +kernel) w h).1
theorem wsL_law_i13 : ∀ w ∈ wsL_law_r13, w ∈ lw_tbl := fun w h => (goodIn_p wsL_law_r13 [443, 447, 758, 762, 766, 770] (by decide +kernel) (by decide +kernel) w h).1
theorem wsL_law_i14 : ∀ w ∈ wsL_law_r14, w ∈ lw_tbl := fun w h => (goodIn_p wsL_law_r14 [774, 778, 782, 786, 451, 455] (by decide +kernel) (by decide +kernel) w h).1
theorem wsL_law_i15 : ∀ w ∈ wsL_law_r15, w ∈ lw_tbl := fun w h => (goodIn_p wsL_law_r15 [460, 790, 794, 798, 464, 468] (by decide +kernel) (by decide +kernel) w h).1
theorem wsL_law_i16 : ∀ w ∈ wsL_law_r16, w ∈ lw_tbl := fun w h => (goodIn_p wsL_law_r16 [472, 476, 480, 484, 488] (by decide +kernel) (by decide +kernel) w h).1
theorem wsL_law_i17 : ∀ w ∈ wsL_law_r17, w ∈ lw_tbl := fun w h => (goodIn_p wsL_law_r17 [492, 497, 502, 506, 510] (by decide +kernel) (by decide +kernel) w h).1
theorem wsL_law_i18 : ∀ w ∈ wsL_law_r18, w ∈ lw_tbl := fun w h => (goodIn_p wsL_law_r18 [516, 802, 806, 810, 814] (by decide +kernel) (by decide +kernel) w h).1
theorem wsL_law_i19 : ∀ w ∈ wsL_law_r19, w ∈ lw_tbl := fun w h => (goodIn_p wsL_law_r19 [818, 822, 826, 830, 834, 838] (by decide +kernel) (by decide +kernel) w h).1
theorem wsL_law_i20 : ∀ w ∈ wsL_law_r20, w ∈ lw_tbl := fun w h => (goodIn_p wsL_law_r20 [521, 525, 529, 533] (by decide +kernel) (by decide +kernel) w h).1
theorem wsL_law_i21 : ∀ w ∈ wsL_law_r21, w ∈ lw_tbl := fun w h => (goodIn_p wsL_law_r21 [537, 542, 546, 842, 846] (by decide +kernel) (by decide +kernel) w h).1
theorem wsL_law_i22 : ∀ w ∈ wsL_law_r22, w ∈ lw_tbl := fun w h => (goodIn_p wsL_law_r22 [850, 854, 858, 862, 866] (by decide +kernel) (by decide +kernel) w h).1
theorem wsL_law_i23 : ∀ w ∈ wsL_law_r23, w ∈ lw_tbl := fun w h => (goodIn_p wsL_law_r23 [550, 553, 558, 870, 874] (by decide +kernel) (by decide +kernel) w h).1
theorem wsL_law_i24 : ∀ w ∈ wsL_law_r24, w ∈ lw_tbl := fun w h => (goodIn_p wsL_law_r24 [562, 878, 570, 882] (by decide +kernel) (by decide +kernel) w h).1
theorem wsL_law_i25 : ∀ w ∈ wsL_law_r25, w ∈ lw_tbl := fun w h => (goodIn_p wsL_law_r25 [575, 580, 886, 890, 584] (by decide +kernel) (by decide +kernel) w h).1
theorem wsL_law_i26 : ∀ w ∈ wsL_law_r26, w ∈ lw_tbl := fun w h => (goodIn_p wsL_law_r26 [894, 588, 898] (by decide +kernel) (by decide +kernel) w h).1
theorem wsL_law_i27 : ∀ w ∈ wsL_law_r27, w ∈ lw_tbl := fun w h => (goodIn_p wsL_law_r27 [902, 592, 596, 601] (by decide +kernel) (by decide +kernel) w h).1
theorem wsL_law_i28 : ∀ w ∈ wsL_law_r28, w ∈ lw_tbl := fun w h => (goodIn_p wsL_law_r28 [610, 906, 910, 615, 914] (by decide +kernel) (by decide +kernel) w h).1
theorem wsL_law_i29 : ∀ w ∈ wsL_law_r29, w ∈ lw_tbl := fun w h => (goodIn_p wsL_law_r29 [620, 918, 624, 628, 922, 926] (by decide +kernel) (by decide +kernel) w h).1
theorem wsL_law_i30 : ∀ w ∈ wsL_law_r30, w ∈ lw_tbl := fun w h => (goodIn_p wsL_law_r30 [632, 930, 636, 639, 645] (by decide +kernel) (by decide +kernel) w h).1
theorem wsL_law_i31 : ∀ w ∈ wsL_law_r31, w ∈ lw_tbl := fun w h => (goodIn_p wsL_law_r31 [934, 649, 939, 653, 943, 657] (by decide +kernel) (by decide +kernel) w h).1
theorem wsL_law_i32 : ∀ w ∈ wsL_law_r32, w ∈ lw_tbl := fun w h => (goodIn_p wsL_law_r32 [661, 947, 665, 951, 670, 955] (by decide +kernel) (by decide +kernel) w h).1
theorem wsL_law_iX90 : ∀ w ∈ wsX90, w ∈ lw_tbl := fun w h => (goodIn_p wsX90 [] (by decide +kernel) (by decide +kernel) w h).1
theorem wsL_law_iX100 : ∀ w ∈ wsX100, w ∈ lw_tbl := fun w h => (goodIn_p wsX100 [] (by decide +kernel) (by decide +kernel) w h).1
theorem wsL_law_iX00 : ∀ w ∈ wsX00, w ∈ lw_tbl := fun w h => (goodIn_p wsX00 [] (by decide +kernel) (by decide +kernel) w h).1
theorem wsL_law_iX10 : ∀ w ∈ wsX10, w ∈ lw_tbl := fun w h => (goodIn_p wsX10 [] (by decide +kernel) (by decide +kernel) w h).1
theorem wsL_law_iX20 : ∀ w ∈ wsX20, w ∈ lw_tbl := fun w h => (goodIn_p wsX20 [] (by decide +kernel) (by decide +kernel) w h).1
theorem wsL_law_iX30 : ∀ w ∈ wsX30, w ∈ lw_tbl := fun w h => (goodIn_p wsX30 [] (by decide +kernel) (by decide +kernel) w h).1
theorem wsL_law_iX50 : ∀ w ∈ wsX50, w ∈ lw_tbl := fun w h => (goodIn_p wsX50 [] (by decide +kernel) (by decide +kernel) w h).1
theorem wsL_law_iX60 : ∀ w ∈ wsX60, w ∈ lw_tbl := fun w h => (goodIn_p wsX60 [] (by decide +kernel) (by decide +kernel) w h).1
theorem wsL_law_iX70 : ∀ w ∈ wsX70, w ∈ lw_tbl := fun w h => (goodIn_p wsX70 [] (by decide +kernel) (by decide +kernel) w h).1
theorem wsL_law_iX80 : ∀ w ∈ wsX80, w ∈ lw_tbl := fun w h => (goodIn_p wsX80 [] (by decide +kernel) (by decide +kernel) w h).1
theorem wsL_law_iX40 : ∀ w ∈ wsX40, w ∈ lw_tbl := fun w h => (goodIn_p wsX40 [] (by decide +kernel) (by decide +kernel) w h).1
theorem wsL_law_in : ∀ w ∈ wsL_law, w ∈ lw_tbl := List.forall_mem_append.mpr ⟨List.forall_mem_append.mpr ⟨List.forall_mem_append.mpr ⟨List.forall_mem_append.mpr ⟨List.forall_mem_append.mpr ⟨List.forall_mem_append.mpr ⟨List.forall_mem_append.mpr ⟨List.forall_mem_append.mpr ⟨List.forall_mem_append.mpr ⟨List.forall_mem_append.mpr ⟨List.forall_mem_append.mpr ⟨List.forall_mem_append.mpr ⟨List.forall_mem_append.mpr ⟨wsL_law_i1, List.forall_mem_append.mpr ⟨wsL_law_i2, List.forall_mem_append.mpr ⟨wsL_law_i3, List.forall_mem_append.mpr ⟨wsL_law_i4, List.forall_mem_append.mpr ⟨wsL_law_i5, List.forall_mem_append.mpr ⟨wsL_law_i6, List.forall_mem_append.mpr ⟨wsL_law_i7, List.forall_mem_append.mpr ⟨wsL_law_i8, List.forall_mem_append.mpr ⟨wsL_law_i9, List.forall_mem_append.mpr ⟨wsL_law_i10, List.forall_mem_append.mpr ⟨wsL_law_i11, List.forall_mem_append.mpr ⟨wsL_law_i12, List.forall_mem_append.mpr ⟨wsL_law_i13, List.forall_mem_append.mpr ⟨wsL_law_i14, List.forall_mem_append.mpr ⟨wsL_law_i15, List.forall_mem_append.mpr ⟨wsL_law_i16, List.forall_mem_append.mpr ⟨wsL_law_i17, List.forall_mem_append.mpr ⟨wsL_law_i18, List.forall_mem_append.mpr ⟨wsL_law_i19, List.forall_mem_append.mpr ⟨wsL_law_i20, List.forall_mem_append.mpr ⟨wsL_law_i21, List.forall_mem_append.mpr ⟨wsL_law_i22, List.forall_mem_append.mpr ⟨wsL_law_i23, List.forall_mem_append.mpr ⟨wsL_law_i24, List.forall_mem_append.mpr ⟨wsL_law_i25, List.forall_mem_append.mpr ⟨wsL_law_i26, List.forall_mem_append.mpr ⟨wsL_law_i27, List.forall_mem_append.mpr ⟨wsL_law_i28, List.forall_mem_append.mpr ⟨wsL_law_i29, List.forall_mem_append.mpr ⟨wsL_law_i30, List.forall_mem_append.mpr ⟨wsL_law_i31, wsL_law_i32⟩⟩⟩⟩⟩⟩⟩⟩⟩⟩⟩⟩⟩⟩⟩⟩⟩⟩⟩⟩⟩⟩⟩⟩⟩⟩⟩⟩⟩⟩⟩, wsL_law_iX90⟩, wsL_law_iX100⟩, wsL_law_iX00⟩, wsL_law_iX10⟩, wsL_law_iX20⟩, wsL_law_iX30⟩, wsL_law_iX50⟩, wsL_law_iX60⟩, wsL_law_iX70⟩, wsL_law_iX80⟩, wsL_law_iX40⟩, fun _ h => absurd h List.not_mem_nil⟩
