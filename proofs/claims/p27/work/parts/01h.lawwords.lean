/-! the law's words -/
theorem wsL_law_i14 : ∀ w ∈ wsL_law_r14, w ∈ lw_tbl := fun w h => (goodIn_p wsL_law_r14 [439, 443, 447, 452, 457] (by decide +kernel) (by decide +kernel) w h).1
def wsL_law_r15a : List Cond := [Cond.selects RX0 yX0_lengthOfWish yX0_lengthOfWish, Cond.code yX0_lengthOfWish cX0_lengthOfWish 2 (some .int), Cond.fieldLink RX0 85 "SingerQueue$Songs" "length" "[I", Cond.methodLink RX0 113 yX4_remember, Cond.instanceMethod yX4_remember, Cond.selects RX4 yX4_remember yX4_remember, Cond.code yX4_remember cX4_remember 6 none, Cond.methodLink RX4 28 Lib.Math.min.name, Cond.methodLink RX0 117 yX8_singersOf, Cond.methodLink RX0 120 yX6_singTurn, Cond.instanceMethod yX6_singTurn, Cond.selects RX6 yX6_singTurn yX6_singTurn, Cond.code yX6_singTurn cX6_singTurn 4 none, Cond.methodLink RX0 130 yX8_removeAt, Cond.methodLink RL 107 yL_same, Cond.static yL_same]
def wsL_law_r15c : List Cond := [Cond.methodLink RL 33 yX9_inQueue, Cond.instanceMethod yX9_inQueue, Cond.selects RX9 yX9_inQueue yX9_inQueue, Cond.code yX9_inQueue cX9_inQueue 4 (some .int), Cond.fieldLink RX9 178 "SingerQueue$Wishes" "first" "[I", Cond.fieldLink RX9 179 "SingerQueue$Wishes" "other" "[I", Cond.fieldLink RX9 180 "SingerQueue$Wishes" "song" "[I"]
theorem wsL_law_i15a : ∀ w ∈ wsL_law_r15a, w ∈ lw_tbl := fun w h => (goodIn_p wsL_law_r15a [461, 465, 471] (by decide +kernel) (by decide +kernel) w h).1
theorem wsL_law_i15c : ∀ w ∈ wsL_law_r15c, w ∈ lw_tbl := fun w h => (goodIn_p wsL_law_r15c [513] (by decide +kernel) (by decide +kernel) w h).1
set_option maxRecDepth 100000 in
theorem wsL_law_i15b : Cond.code yL_same cL_same 26 (some .boolean) ∈ lw_tbl := List.mem_of_getElem? (i := 509) rfl
theorem wsL_law_i15 : ∀ w ∈ wsL_law_r15, w ∈ lw_tbl := by
  show ∀ w ∈ wsL_law_r15a ++ (Cond.code yL_same cL_same 26 (some .boolean) :: wsL_law_r15c), w ∈ lw_tbl
  exact List.forall_mem_append.mpr ⟨wsL_law_i15a, List.forall_mem_cons.mpr ⟨wsL_law_i15b, wsL_law_i15c⟩⟩
theorem wsL_law_i16 : ∀ w ∈ wsL_law_r16, w ∈ lw_tbl := fun w h => (goodIn_p wsL_law_r16 [518, 524, 528, 533] (by decide +kernel) (by decide +kernel) w h).1
theorem wsL_law_i17 : ∀ w ∈ wsL_law_r17, w ∈ lw_tbl := fun w h => (goodIn_p wsL_law_r17 [542, 547, 551] (by decide +kernel) (by decide +kernel) w h).1
theorem wsL_law_i18 : ∀ w ∈ wsL_law_r18, w ∈ lw_tbl := fun w h => (goodIn_p wsL_law_r18 [554, 557, 561, 565, 569, 573] (by decide +kernel) (by decide +kernel) w h).1
theorem wsL_law_i19 : ∀ w ∈ wsL_law_r19, w ∈ lw_tbl := fun w h => (goodIn_p wsL_law_r19 [577, 582, 586] (by decide +kernel) (by decide +kernel) w h).1
theorem wsL_law_i20 : ∀ w ∈ wsL_law_r20, w ∈ lw_tbl := fun w h => (goodIn_p wsL_law_r20 [590, 594] (by decide +kernel) (by decide +kernel) w h).1
