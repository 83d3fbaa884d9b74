/-! the law's calls: their words -/
theorem goodIn_cs {big ws : List Cond} {y : MethodName} {c : ByteArray} {n : Nat} {r : Option FieldType} (h : Cond.code y c n r ∈ big) (hr : GoodIn big ws) : GoodIn big (Cond.code y c n r :: ws) := fun w hw => (List.mem_cons.mp hw).elim (fun e => by subst e; exact ⟨h, Or.inl rfl⟩) (hr w)
set_option maxRecDepth 20000 in
theorem ggS_1 : GoodIn wsL_law wsL_same_r1 := goodIn_r _ [277, 278, 102, 279, 353, 354, 355, 2, 356, 13, 226, 357, 358, 359, 114, 242, 360, 361, 265, 266, 267, 46, 268, 161] (by decide +kernel) (by decide +kernel)
set_option maxRecDepth 20000 in
theorem ggS_2 : GoodIn wsL_law wsL_same_r2 := goodIn_r _ [120, 121, 204, 205, 206, 12, 207, 39, 208, 209, 210, 211, 130, 212, 213, 129, 131, 43, 214, 215, 216, 42, 217, 218] (by decide +kernel) (by decide +kernel)
set_option maxRecDepth 20000 in
theorem ggS_3 : GoodIn wsL_law wsL_same_r3 := goodIn_r _ [219, 220, 221, 62, 63, 362, 298, 299, 300, 301, 302, 303, 304, 305, 306, 307, 308, 69, 70, 363, 248, 249, 364, 365] (by decide +kernel) (by decide +kernel)
set_option maxRecDepth 20000 in
theorem ggS_4 : GoodIn wsL_law wsL_same_r4 := goodIn_r _ [366, 367, 314, 315, 316, 368, 322, 323, 324, 325, 185, 186, 187, 280, 281, 282, 369, 370, 371, 372, 32, 373, 374, 119] (by decide +kernel) (by decide +kernel)
set_option maxRecDepth 20000 in
theorem ggS_5 : GoodIn wsL_law wsL_same_r5 := goodIn_r _ [375, 376, 377, 378, 47, 294, 297, 379, 380, 381, 31, 382, 383, 384, 385, 99, 386, 387, 388, 389, 390, 145, 146, 147] (by decide +kernel) (by decide +kernel)
set_option maxRecDepth 20000 in
theorem ggS_6 : GoodIn wsL_law wsL_same_r6 := goodIn_r _ [148, 149, 150, 151, 391, 392, 310, 311, 312, 313, 317, 318, 319, 320, 321, 393, 335, 336, 337, 338, 330, 394, 395, 396] (by decide +kernel) (by decide +kernel)
set_option maxRecDepth 20000 in
theorem ggS_7 : GoodIn wsL_law wsL_same_r7 := goodIn_r _ [397, 398, 399, 400, 401, 402, 227, 403, 404, 405, 406, 407, 408, 409, 410, 411, 412, 273, 274, 275, 276, 283, 284, 285] (by decide +kernel) (by decide +kernel)
set_option maxRecDepth 20000 in
theorem ggS_8 : GoodIn wsL_law wsL_same_r8 := goodIn_r _ [106, 107, 108, 109, 413, 414, 415, 416, 417, 418, 419, 243, 197, 198, 38, 199, 142, 244, 245, 246, 247, 143, 420, 421] (by decide +kernel) (by decide +kernel)
set_option maxRecDepth 20000 in
theorem ggS_9 : GoodIn wsL_law wsL_same_r9 := goodIn_r _ [422, 423, 424, 425, 426, 427, 251, 252, 253, 254, 255, 256, 257, 428, 429, 430, 431, 179, 180, 432, 433, 434, 435, 436] (by decide +kernel) (by decide +kernel)
set_option maxRecDepth 20000 in
theorem ggS_10 : GoodIn wsL_law wsL_same_r10 := goodIn_r _ [437, 438, 439, 440, 201, 202, 203, 156, 441, 442, 443, 444, 445, 233, 446, 447, 448, 449, 450, 451, 452, 453, 454, 455] (by decide +kernel) (by decide +kernel)
set_option maxRecDepth 20000 in
theorem ggS_11 : GoodIn wsL_law wsL_same_r11 := goodIn_r _ [456, 457, 458, 459, 115, 460, 461, 24, 462, 17, 463, 290, 291, 292, 293, 295, 296, 309, 464, 465, 466, 467, 468] (by decide +kernel) (by decide +kernel)
set_option maxRecDepth 20000 in
theorem ggS_X9 : GoodIn wsL_law wsX90 := goodIn_r _ [469, 470, 471, 472, 473, 474, 475] (by decide +kernel) (by decide +kernel)
set_option maxRecDepth 20000 in
theorem ggS_X0 : GoodIn wsL_law wsX00 := goodIn_r _ [476, 477, 478, 479, 480, 481] (by decide +kernel) (by decide +kernel)
set_option maxRecDepth 20000 in
theorem ggS_X8 : GoodIn wsL_law wsX80 := goodIn_r _ [507, 508, 509, 510] (by decide +kernel) (by decide +kernel)
set_option maxRecDepth 20000 in
theorem ggS_X6 : GoodIn wsL_law wsX60 := goodIn_r _ [495, 496, 497, 498, 499, 500, 501] (by decide +kernel) (by decide +kernel)
set_option maxRecDepth 20000 in
theorem ggS_X7 : GoodIn wsL_law wsX70 := goodIn_r _ [502, 503, 504, 505, 506] (by decide +kernel) (by decide +kernel)
set_option maxRecDepth 20000 in
theorem ggS_X5 : GoodIn wsL_law wsX50 := goodIn_r _ [492, 493, 494] (by decide +kernel) (by decide +kernel)
set_option maxRecDepth 20000 in
theorem ggS_X4 : GoodIn wsL_law wsX40 := goodIn_r _ [511, 512, 513, 514, 515] (by decide +kernel) (by decide +kernel)
set_option maxRecDepth 20000 in
theorem ggS_X2 : GoodIn wsL_law wsX20 := goodIn_r _ [485, 486] (by decide +kernel) (by decide +kernel)
set_option maxRecDepth 20000 in
theorem ggS_X1 : GoodIn wsL_law wsX10 := goodIn_r _ [482, 483, 484] (by decide +kernel) (by decide +kernel)
set_option maxRecDepth 100000 in
theorem ggL_law_L_same : GoodIn wsL_law wsL_same := goodIn_cs (List.mem_of_getElem? (i := 352) rfl) (goodIn_app (goodIn_app (goodIn_app (goodIn_app (goodIn_app (goodIn_app (goodIn_app (goodIn_app (goodIn_app (goodIn_app ggS_1 (goodIn_app ggS_2 (goodIn_app ggS_3 (goodIn_app ggS_4 (goodIn_app ggS_5 (goodIn_app ggS_6 (goodIn_app ggS_7 (goodIn_app ggS_8 (goodIn_app ggS_9 (goodIn_app ggS_10 (ggS_11))))))))))) ggS_X9) ggS_X0) ggS_X8) ggS_X6) ggS_X7) ggS_X5) ggS_X4) ggS_X2) ggS_X1)
set_option maxRecDepth 20000 in
theorem gL_law_L_same : GoodIn wsL_law (va_wsS RL 107 yL_same wsL_same) := goodIn_app (goodIn_of _ (by decide +kernel)) ggL_law_L_same
