set_option maxRecDepth 20000 in
theorem wsL_law0_r11_in : ∀ w ∈ wsL_law0_r11, w ∈ lw_tbl := sg_pk [300, 301, 302, 303, 304, 305, 306, 307, 308, 309, 310, 311, 316, 317, 318, 319, 320, 322, 5, 323, 325, 327, 6, 328] (by decide +kernel)
set_option maxRecDepth 20000 in
theorem wsL_law0_r12_in : ∀ w ∈ wsL_law0_r12, w ∈ lw_tbl := sg_pk [329, 333, 334, 335, 336, 337, 582, 583, 584, 585, 586, 587, 588, 590, 351, 352, 353, 354, 119, 618, 619, 620, 621, 622] (by decide +kernel)
set_option maxRecDepth 20000 in
theorem wsL_law0_r13_in : ∀ w ∈ wsL_law0_r13, w ∈ lw_tbl := sg_pk [623, 624, 598, 599, 600, 601, 602, 603, 604, 605, 606, 591, 592, 593, 594, 595, 596, 597, 607, 608, 609, 610, 518, 519] (by decide +kernel)
set_option maxRecDepth 20000 in
theorem wsL_law0_r14_in : ∀ w ∈ wsL_law0_r14, w ∈ lw_tbl := sg_pk [520, 521, 522, 523, 524, 525, 526, 528, 10, 529, 531, 33, 548, 549, 550, 551, 552, 553, 554, 555, 557, 558, 559, 560] (by decide +kernel)
