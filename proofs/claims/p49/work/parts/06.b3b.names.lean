set_option maxRecDepth 20000 in
theorem sg_gr8 : GoodIn wsL_law wsL_isRight_r8 := goodIn_r _ [610, 611, 612, 613, 614, 615, 616, 617, 383, 384, 385, 386, 207, 208, 209, 210, 387, 246, 245, 398, 399, 400, 401, 402] (by decide +kernel) (by decide +kernel)
set_option maxRecDepth 20000 in
theorem sg_gr9 : GoodIn wsL_law wsL_isRight_r9 := goodIn_r _ [403, 404, 171, 172, 173, 174, 175, 176, 177, 618, 619, 620, 621, 622, 623, 624, 625, 626, 627, 628, 629, 371, 372, 373] (by decide +kernel) (by decide +kernel)
set_option maxRecDepth 20000 in
theorem sg_gr10 : GoodIn wsL_law wsL_isRight_r10 := goodIn_r _ [374, 375, 376, 377, 44, 630, 631, 632, 511, 633, 634, 635, 636, 516, 517, 637, 394, 395, 396, 638, 639, 640, 641, 642] (by decide +kernel) (by decide +kernel)
set_option maxRecDepth 20000 in
theorem sg_gr11 : GoodIn wsL_law wsL_isRight_r11 := goodIn_r _ [643, 644, 25, 645, 379, 380, 24, 381, 59, 382, 388, 248, 249, 250, 33, 251, 646, 647, 648, 649, 650, 651, 652, 366] (by decide +kernel) (by decide +kernel)
