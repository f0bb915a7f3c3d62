set_option maxRecDepth 20000 in
theorem sg_gr12 : GoodIn wsL_law wsL_isRight_r12 := goodIn_r _ [367, 368, 369, 60, 370, 378, 389, 390, 391, 392, 393, 397, 356, 357, 358, 56, 58, 57, 137, 359, 360, 361, 362, 363] (by decide +kernel) (by decide +kernel)
set_option maxRecDepth 20000 in
theorem sg_gr13 : GoodIn wsL_law wsL_isRight_r13 := goodIn_r _ [364, 365, 653, 654, 655, 313, 656, 657, 658, 659, 322, 323, 660, 661, 662, 663, 664, 665, 666, 667, 668, 669, 670, 671] (by decide +kernel) (by decide +kernel)
set_option maxRecDepth 20000 in
theorem sg_gr14 : GoodIn wsL_law wsL_isRight_r14 := goodIn_r _ [672, 673, 674, 675, 676, 677, 678, 679, 680, 463, 464, 465, 681, 682, 683, 684, 685, 686, 687, 688, 689, 690] (by decide +kernel) (by decide +kernel)
