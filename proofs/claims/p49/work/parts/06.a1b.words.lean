set_option maxRecDepth 20000 in
theorem wsL_law0_r6_in : ∀ w ∈ wsL_law0_r6, w ∈ lw_tbl := sg_pk [489, 491, 32, 490, 312, 313, 314, 509, 510, 511, 512, 63, 69, 513, 514, 515, 516, 517, 284, 285, 286, 807, 808, 809] (by decide +kernel)
set_option maxRecDepth 20000 in
theorem wsL_law0_r7_in : ∀ w ∈ wsL_law0_r7, w ∈ lw_tbl := sg_pk [814, 815, 820, 202, 203, 204, 205, 188, 810, 811, 812, 813, 697, 698, 699, 700, 701, 702, 703, 564, 566, 11, 567, 568] (by decide +kernel)
set_option maxRecDepth 20000 in
theorem wsL_law0_r8_in : ∀ w ∈ wsL_law0_r8, w ∈ lw_tbl := sg_pk [530, 231, 232, 704, 705, 706, 707, 708, 709, 710, 816, 817, 818, 819, 690, 691, 692, 693, 694, 695, 696, 547, 330, 331] (by decide +kernel)
set_option maxRecDepth 20000 in
theorem wsL_law0_r9_in : ∀ w ∈ wsL_law0_r9, w ∈ lw_tbl := sg_pk [332, 611, 612, 613, 614, 615, 616, 617, 589, 275, 276, 277, 122, 124, 279, 280, 281, 282, 283, 287, 234, 235, 236, 241] (by decide +kernel)
set_option maxRecDepth 20000 in
theorem wsL_law0_r10_in : ∀ w ∈ wsL_law0_r10, w ∈ lw_tbl := sg_pk [242, 243, 244, 245, 246, 248, 2, 249, 250, 251, 252, 253, 288, 289, 290, 291, 292, 293, 294, 295, 296, 297, 298, 299] (by decide +kernel)
