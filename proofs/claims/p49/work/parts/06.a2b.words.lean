set_option maxRecDepth 20000 in
theorem wsL_law0_r19_in : ∀ w ∈ wsL_law0_r19, w ∈ lw_tbl := sg_pk [346, 265, 34, 266, 267, 268, 269, 206, 207, 208, 209, 210, 211, 212, 213, 214, 216, 0, 217, 167, 168, 170, 218, 219] (by decide +kernel)
set_option maxRecDepth 20000 in
theorem wsL_law0_r20_c0 : ∀ w ∈ (wsL_law0_r20).take 8, w ∈ lw_tbl := sg_pk [220, 221, 222, 224, 1, 225, 226, 227] (by decide +kernel)
set_option maxRecDepth 20000 in
theorem wsL_law0_r20_c1 : ∀ w ∈ ((wsL_law0_r20).drop 8).take 8, w ∈ lw_tbl := sg_pk [228, 229, 254, 255, 256, 257, 258, 260] (by decide +kernel)
set_option maxRecDepth 20000 in
theorem wsL_law0_r20_c2 : ∀ w ∈ ((wsL_law0_r20).drop 8).drop 8, w ∈ lw_tbl := sg_pk [3, 261, 264, 270, 272, 4, 273, 274] (by decide +kernel)
theorem wsL_law0_r20_in : ∀ w ∈ wsL_law0_r20, w ∈ lw_tbl := (sg_pk2 8 wsL_law0_r20_c0 (sg_pk2 8 wsL_law0_r20_c1 wsL_law0_r20_c2))
set_option maxRecDepth 20000 in
theorem wsL_law0_r21_c0 : ∀ w ∈ (wsL_law0_r21).take 8, w ∈ lw_tbl := sg_pk [338, 340, 7, 341, 342, 343, 344, 345] (by decide +kernel)
set_option maxRecDepth 20000 in
theorem wsL_law0_r21_c1 : ∀ w ∈ ((wsL_law0_r21).drop 8).take 8, w ∈ lw_tbl := sg_pk [779, 780, 781, 782, 783, 784, 785, 786] (by decide +kernel)
set_option maxRecDepth 20000 in
theorem wsL_law0_r21_c2 : ∀ w ∈ ((wsL_law0_r21).drop 8).drop 8, w ∈ lw_tbl := sg_pk [788, 15, 789, 790, 792, 793, 794, 795] (by decide +kernel)
theorem wsL_law0_r21_in : ∀ w ∈ wsL_law0_r21, w ∈ lw_tbl := (sg_pk2 8 wsL_law0_r21_c0 (sg_pk2 8 wsL_law0_r21_c1 wsL_law0_r21_c2))
set_option maxRecDepth 20000 in
theorem wsL_law0_r22_c0 : ∀ w ∈ (wsL_law0_r22).take 8, w ∈ lw_tbl := sg_pk [796, 798, 16, 799, 735, 736, 737, 738] (by decide +kernel)
set_option maxRecDepth 20000 in
theorem wsL_law0_r22_c1 : ∀ w ∈ ((wsL_law0_r22).drop 8).take 8, w ∈ lw_tbl := sg_pk [762, 763, 764, 765, 766, 35, 800, 801] (by decide +kernel)
set_option maxRecDepth 20000 in
theorem wsL_law0_r22_c2 : ∀ w ∈ ((wsL_law0_r22).drop 8).drop 8, w ∈ lw_tbl := sg_pk [802, 803, 804, 805, 806, 347, 348, 349] (by decide +kernel)
theorem wsL_law0_r22_in : ∀ w ∈ wsL_law0_r22, w ∈ lw_tbl := (sg_pk2 8 wsL_law0_r22_c0 (sg_pk2 8 wsL_law0_r22_c1 wsL_law0_r22_c2))
