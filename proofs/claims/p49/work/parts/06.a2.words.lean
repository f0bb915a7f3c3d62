set_option maxRecDepth 20000 in
theorem wsL_law0_r15_in : ∀ w ∈ wsL_law0_r15, w ∈ lw_tbl := sg_pk [561, 562, 563, 573, 575, 12, 576, 578, 579, 580, 581, 718, 719, 720, 721, 722, 723, 724, 725, 727, 664, 665, 666, 728] (by decide +kernel)
set_option maxRecDepth 20000 in
theorem wsL_law0_r16_in : ∀ w ∈ wsL_law0_r16, w ∈ lw_tbl := sg_pk [729, 730, 731, 732, 733, 734, 633, 634, 635, 636, 637, 638, 639, 640, 641, 643, 13, 644, 645, 646, 647, 648, 649, 650] (by decide +kernel)
set_option maxRecDepth 20000 in
theorem wsL_law0_r17_in : ∀ w ∈ wsL_law0_r17, w ∈ lw_tbl := sg_pk [651, 652, 653, 233, 654, 655, 657, 14, 658, 659, 660, 661, 662, 663, 711, 712, 713, 714, 715, 716, 717, 625, 626, 627] (by decide +kernel)
set_option maxRecDepth 20000 in
theorem wsL_law0_r18_in : ∀ w ∈ wsL_law0_r18, w ∈ lw_tbl := sg_pk [628, 629, 630, 631, 668, 669, 670, 671, 672, 673, 674, 675, 676, 677, 678, 679, 680, 682, 683, 684, 685, 686, 687, 688] (by decide +kernel)
