/-! the law's words -/
theorem wsL_law_i1 : ∀ w ∈ wsL_law_r1, w ∈ lw_tbl := fun w h => (goodIn_p wsL_law_r1 [19, 22] (by decide +kernel) (by decide +kernel) w h).1
theorem wsL_law_i2 : ∀ w ∈ wsL_law_r2, w ∈ lw_tbl := fun w h => (goodIn_p wsL_law_r2 [27] (by decide +kernel) (by decide +kernel) w h).1
theorem wsL_law_i3 : ∀ w ∈ wsL_law_r3, w ∈ lw_tbl := fun w h => (goodIn_p wsL_law_r3 [33, 78, 107] (by decide +kernel) (by decide +kernel) w h).1
theorem wsL_law_i4 : ∀ w ∈ wsL_law_r4, w ∈ lw_tbl := fun w h => (goodIn_p wsL_law_r4 [133, 188, 208, 223] (by decide +kernel) (by decide +kernel) w h).1
theorem wsL_law_i5 : ∀ w ∈ wsL_law_r5, w ∈ lw_tbl := fun w h => (goodIn_p wsL_law_r5 [243, 481, 486, 282, 285] (by decide +kernel) (by decide +kernel) w h).1
theorem wsL_law_i6 : ∀ w ∈ wsL_law_r6, w ∈ lw_tbl := fun w h => (goodIn_p wsL_law_r6 [288, 292, 306, 296, 300] (by decide +kernel) (by decide +kernel) w h).1
theorem wsL_law_i7 : ∀ w ∈ wsL_law_r7, w ∈ lw_tbl := fun w h => (goodIn_p wsL_law_r7 [303, 313, 318, 323] (by decide +kernel) (by decide +kernel) w h).1
