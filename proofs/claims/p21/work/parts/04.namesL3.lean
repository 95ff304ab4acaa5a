set_option maxRecDepth 20000 in
theorem wsL_law_in0_r9 : ∀ w ∈ wsL_law0_r9, w ∈ lw_tbl := fun w h => (goodIn_r wsL_law0_r9 [222, 223, 24, 224, 254, 256, 4, 257, 54, 258, 260, 5, 261, 325, 262, 263, 264, 265, 266, 267, 268, 269, 271, 6] (by decide +kernel) (by decide +kernel) w h).1
set_option maxRecDepth 20000 in
theorem wsL_law_in0_r10 : ∀ w ∈ wsL_law0_r10, w ∈ lw_tbl := fun w h => (goodIn_r wsL_law0_r10 [272, 366, 352, 359, 357, 166, 273, 274, 275, 276, 277, 279, 7, 280, 281, 282, 283, 284, 328, 285, 286, 288, 8, 289] (by decide +kernel) (by decide +kernel) w h).1
set_option maxRecDepth 20000 in
theorem wsL_law_in0_r11 : ∀ w ∈ wsL_law0_r11, w ∈ lw_tbl := fun w h => (goodIn_r wsL_law0_r11 [290, 291, 292, 293, 358, 294, 295, 297, 9, 298, 49, 51, 53, 299, 300, 301, 302, 364, 303, 399, 400, 401, 402, 545] (by decide +kernel) (by decide +kernel) w h).1
set_option maxRecDepth 20000 in
theorem wsL_law_in0_r12 : ∀ w ∈ wsL_law0_r12, w ∈ lw_tbl := fun w h => (goodIn_r wsL_law0_r12 [549, 546, 547, 548, 209, 210, 211, 212, 214, 215, 216, 217, 225, 226, 227, 228, 229, 230, 231, 232, 363, 233, 235, 3] (by decide +kernel) (by decide +kernel) w h).1
