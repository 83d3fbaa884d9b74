/-! the law's words -/
theorem wsL_law_i8 : ∀ w ∈ wsL_law_r8, w ∈ lw_tbl := fun w h => (goodIn_p wsL_law_r8 [329, 333, 337, 341, 490, 476] (by decide +kernel) (by decide +kernel) w h).1
theorem wsL_law_i9 : ∀ w ∈ wsL_law_r9, w ∈ lw_tbl := fun w h => (goodIn_p wsL_law_r9 [376, 349, 381, 386, 389] (by decide +kernel) (by decide +kernel) w h).1
theorem wsL_law_i10 : ∀ w ∈ wsL_law_r10, w ∈ lw_tbl := fun w h => (goodIn_p wsL_law_r10 [394, 398, 368, 372, 402] (by decide +kernel) (by decide +kernel) w h).1
theorem wsL_law_i11 : ∀ w ∈ wsL_law_r11, w ∈ lw_tbl := fun w h => (goodIn_p wsL_law_r11 [345, 354, 357, 361, 506] (by decide +kernel) (by decide +kernel) w h).1
theorem wsL_law_i12 : ∀ w ∈ wsL_law_r12, w ∈ lw_tbl := fun w h => (goodIn_p wsL_law_r12 [406, 410, 415, 493, 496, 499, 503] (by decide +kernel) (by decide +kernel) w h).1
theorem wsL_law_i13 : ∀ w ∈ wsL_law_r13, w ∈ lw_tbl := fun w h => (goodIn_p wsL_law_r13 [419, 423, 427, 431, 435] (by decide +kernel) (by decide +kernel) w h).1
