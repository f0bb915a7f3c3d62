set_option maxRecDepth 20000 in
theorem wsL_law0_r1_in : ∀ w ∈ wsL_law0_r1, w ∈ lw_tbl := sg_pk [39, 40, 21, 94, 41, 42, 43, 44, 45, 46, 47, 48, 22, 183, 95, 96, 23, 184, 111, 112, 24, 185, 137, 138] (by decide +kernel)
set_option maxRecDepth 20000 in
theorem wsL_law0_r2_in : ∀ w ∈ wsL_law0_r2, w ∈ lw_tbl := sg_pk [25, 186, 159, 160, 26, 187, 50, 51, 52, 53, 54, 55, 56, 57, 58, 97, 98, 99, 100, 102, 103, 101, 113, 114] (by decide +kernel)
set_option maxRecDepth 20000 in
theorem wsL_law0_r3_in : ∀ w ∈ wsL_law0_r3, w ∈ lw_tbl := sg_pk [115, 116, 117, 118, 139, 140, 141, 142, 145, 146, 147, 143, 144, 161, 162, 163, 164, 165, 166, 355, 356, 20, 357, 358] (by decide +kernel)
set_option maxRecDepth 20000 in
theorem wsL_law0_r4_in : ∀ w ∈ wsL_law0_r4, w ∈ lw_tbl := sg_pk [359, 360, 361, 362, 363, 364, 365, 366, 367, 368, 369, 370, 371, 30, 443, 444, 445, 446, 59, 65, 238, 239, 447, 448] (by decide +kernel)
set_option maxRecDepth 20000 in
theorem wsL_law0_r5_in : ∀ w ∈ wsL_law0_r5, w ∈ lw_tbl := sg_pk [449, 450, 31, 466, 467, 468, 469, 470, 471, 472, 473, 474, 475, 478, 479, 480, 481, 482, 483, 484, 485, 486, 488, 9] (by decide +kernel)
set_option maxRecDepth 20000 in
theorem wsL_law0_r6_in : ∀ w ∈ wsL_law0_r6, w ∈ lw_tbl := sg_pk [489, 491, 32, 490, 312, 313, 314, 509, 510, 511, 512, 63, 69, 513, 514, 515, 516, 517, 284, 285, 286, 807, 808, 809] (by decide +kernel)
set_option maxRecDepth 20000 in
theorem wsL_law0_r7_in : ∀ w ∈ wsL_law0_r7, w ∈ lw_tbl := sg_pk [814, 815, 820, 202, 203, 204, 205, 188, 810, 811, 812, 813, 697, 698, 699, 700, 701, 702, 703, 564, 566, 11, 567, 568] (by decide +kernel)
set_option maxRecDepth 20000 in
theorem wsL_law0_r8_in : ∀ w ∈ wsL_law0_r8, w ∈ lw_tbl := sg_pk [530, 231, 232, 704, 705, 706, 707, 708, 709, 710, 816, 817, 818, 819, 690, 691, 692, 693, 694, 695, 696, 547, 330, 331] (by decide +kernel)
set_option maxRecDepth 20000 in
theorem wsL_law0_r9_in : ∀ w ∈ wsL_law0_r9, w ∈ lw_tbl := sg_pk [332, 611, 612, 613, 614, 615, 616, 617, 589, 275, 276, 277, 122, 124, 279, 280, 281, 282, 283, 287, 234, 235, 236, 241] (by decide +kernel)
set_option maxRecDepth 20000 in
theorem wsL_law0_r10_in : ∀ w ∈ wsL_law0_r10, w ∈ lw_tbl := sg_pk [242, 243, 244, 245, 246, 248, 2, 249, 250, 251, 252, 253, 288, 289, 290, 291, 292, 293, 294, 295, 296, 297, 298, 299] (by decide +kernel)
set_option maxRecDepth 20000 in
theorem wsL_law0_r11_in : ∀ w ∈ wsL_law0_r11, w ∈ lw_tbl := sg_pk [300, 301, 302, 303, 304, 305, 306, 307, 308, 309, 310, 311, 316, 317, 318, 319, 320, 322, 5, 323, 325, 327, 6, 328] (by decide +kernel)
set_option maxRecDepth 20000 in
theorem wsL_law0_r12_in : ∀ w ∈ wsL_law0_r12, w ∈ lw_tbl := sg_pk [329, 333, 334, 335, 336, 337, 582, 583, 584, 585, 586, 587, 588, 590, 351, 352, 353, 354, 119, 618, 619, 620, 621, 622] (by decide +kernel)
set_option maxRecDepth 20000 in
theorem wsL_law0_r13_in : ∀ w ∈ wsL_law0_r13, w ∈ lw_tbl := sg_pk [623, 624, 598, 599, 600, 601, 602, 603, 604, 605, 606, 591, 592, 593, 594, 595, 596, 597, 607, 608, 609, 610, 518, 519] (by decide +kernel)
set_option maxRecDepth 20000 in
theorem wsL_law0_r14_in : ∀ w ∈ wsL_law0_r14, w ∈ lw_tbl := sg_pk [520, 521, 522, 523, 524, 525, 526, 528, 10, 529, 531, 33, 548, 549, 550, 551, 552, 553, 554, 555, 557, 558, 559, 560] (by decide +kernel)
