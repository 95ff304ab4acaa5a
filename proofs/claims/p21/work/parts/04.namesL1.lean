set_option maxRecDepth 20000 in
theorem wsL_law_in0_r1 : ∀ w ∈ wsL_law0_r1, w ∈ lw_tbl := fun w h => (goodIn_r wsL_law0_r1 [25, 26, 13, 542, 544, 569, 74, 540, 27, 28, 29, 30, 31, 32, 33, 34, 14, 75, 76, 36, 37, 38, 43, 39] (by decide +kernel) (by decide +kernel) w h).1
set_option maxRecDepth 20000 in
theorem wsL_law_in0_r2 : ∀ w ∈ wsL_law0_r2, w ∈ lw_tbl := fun w h => (goodIn_r wsL_law0_r2 [44, 41, 45, 47, 528, 529, 12, 530, 531, 532, 15, 534, 535, 536, 537, 539, 436, 541, 543, 426, 427, 428, 429, 430] (by decide +kernel) (by decide +kernel) w h).1
set_option maxRecDepth 20000 in
theorem wsL_law_in0_r3 : ∀ w ∈ wsL_law0_r3, w ∈ lw_tbl := fun w h => (goodIn_r wsL_law0_r3 [431, 432, 538, 422, 423, 424, 425, 433, 434, 435, 438, 439, 440, 441, 189, 19, 448, 21, 158, 159, 160, 444, 445, 446] (by decide +kernel) (by decide +kernel) w h).1
set_option maxRecDepth 20000 in
theorem wsL_law_in0_r4 : ∀ w ∈ wsL_law0_r4, w ∈ lw_tbl := fun w h => (goodIn_r wsL_law0_r4 [447, 319, 20, 320, 321, 322, 323, 324, 326, 464, 465, 466, 467, 468, 469, 470, 471, 90, 22, 86, 87, 88, 89, 205] (by decide +kernel) (by decide +kernel) w h).1
