set_option maxRecDepth 20000 in
theorem sg_gr1 : GoodIn wsL_law wsL_isRight_r1 := goodIn_r _ [3, 563, 178, 179, 180, 2, 181, 13, 564, 565, 69, 566, 112, 567, 568, 569, 570, 117, 118, 119, 120, 121, 122, 123] (by decide +kernel) (by decide +kernel)
set_option maxRecDepth 20000 in
theorem sg_gr2 : GoodIn wsL_law wsL_isRight_r2 := goodIn_r _ [124, 125, 12, 126, 90, 546, 547, 548, 549, 21, 550, 212, 213, 214, 92, 93, 215, 216, 217, 218, 219, 220, 221, 222] (by decide +kernel) (by decide +kernel)
set_option maxRecDepth 20000 in
theorem sg_gr3 : GoodIn wsL_law wsL_isRight_r3 := goodIn_r _ [223, 131, 169, 170, 224, 225, 226, 227, 36, 37, 571, 572, 573, 574, 79, 575, 576, 577, 578, 97, 98, 551, 230, 231] (by decide +kernel) (by decide +kernel)
set_option maxRecDepth 20000 in
theorem sg_gr4 : GoodIn wsL_law wsL_isRight_r4 := goodIn_r _ [232, 91, 182, 183, 184, 185, 186, 187, 188, 189, 190, 191, 192, 34, 539, 540, 541, 542, 543, 544, 545, 532, 533, 534] (by decide +kernel) (by decide +kernel)
