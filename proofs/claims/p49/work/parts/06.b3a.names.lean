set_option maxRecDepth 20000 in
theorem sg_gr5 : GoodIn wsL_law wsL_isRight_r5 := goodIn_r _ [535, 536, 537, 538, 168, 579, 580, 581, 582, 583, 584, 585, 586, 587, 588, 589, 590, 591, 592, 593, 594, 595, 596, 597] (by decide +kernel) (by decide +kernel)
set_option maxRecDepth 20000 in
theorem sg_gr6 : GoodIn wsL_law wsL_isRight_r6 := goodIn_r _ [238, 239, 240, 598, 599, 600, 601, 602, 603, 604, 17, 163, 164, 165, 166, 167, 138, 139, 140, 605, 295, 296, 16, 297] (by decide +kernel) (by decide +kernel)
set_option maxRecDepth 20000 in
theorem sg_gr7 : GoodIn wsL_law wsL_isRight_r7 := goodIn_r _ [45, 43, 256, 257, 258, 259, 260, 261, 262, 263, 264, 265, 298, 156, 157, 158, 159, 160, 161, 162, 606, 607, 608, 609] (by decide +kernel) (by decide +kernel)
