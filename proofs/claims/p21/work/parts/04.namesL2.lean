set_option maxRecDepth 20000 in
theorem wsL_law_in0_r5 : ∀ w ∈ wsL_law0_r5, w ∈ lw_tbl := fun w h => (goodIn_r wsL_law0_r5 [206, 207, 208, 354, 475, 476, 477, 478, 346, 23, 347, 348, 349, 350, 351, 353, 360, 355, 480, 481, 482, 483, 48, 485] (by decide +kernel) (by decide +kernel) w h).1
set_option maxRecDepth 20000 in
theorem wsL_law_in0_r6 : ∀ w ∈ wsL_law0_r6, w ∈ lw_tbl := fun w h => (goodIn_r wsL_law0_r6 [486, 487, 488, 491, 492, 493, 494, 250, 251, 252, 253, 495, 496, 497, 498, 499, 500, 501, 502, 503, 504, 505, 506, 356] (by decide +kernel) (by decide +kernel) w h).1
set_option maxRecDepth 20000 in
theorem wsL_law_in0_r7 : ∀ w ∈ wsL_law0_r7, w ∈ lw_tbl := fun w h => (goodIn_r wsL_law0_r7 [175, 176, 177, 178, 507, 508, 509, 510, 362, 512, 513, 514, 515, 361, 365, 516, 304, 305, 306, 517, 518, 519, 520, 521] (by decide +kernel) (by decide +kernel) w h).1
set_option maxRecDepth 20000 in
theorem wsL_law_in0_r8 : ∀ w ∈ wsL_law0_r8, w ∈ lw_tbl := fun w h => (goodIn_r wsL_law0_r8 [522, 523, 524, 525, 526, 24, 527, 237, 238, 239, 240, 242, 243, 244, 245, 246, 247, 248, 249, 46, 218, 220, 2, 221] (by decide +kernel) (by decide +kernel) w h).1
