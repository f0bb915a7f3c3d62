set_option maxRecDepth 20000 in
theorem wsL_law0_r15_in : ∀ w ∈ wsL_law0_r15, w ∈ lw_tbl := sg_pk [561, 562, 563, 573, 575, 12, 576, 578, 579, 580, 581, 718, 719, 720, 721, 722, 723, 724, 725, 727, 664, 665, 666, 728] (by decide +kernel)
set_option maxRecDepth 20000 in
theorem wsL_law0_r16_in : ∀ w ∈ wsL_law0_r16, w ∈ lw_tbl := sg_pk [729, 730, 731, 732, 733, 734, 633, 634, 635, 636, 637, 638, 639, 640, 641, 643, 13, 644, 645, 646, 647, 648, 649, 650] (by decide +kernel)
set_option maxRecDepth 20000 in
theorem wsL_law0_r17_in : ∀ w ∈ wsL_law0_r17, w ∈ lw_tbl := sg_pk [651, 652, 653, 233, 654, 655, 657, 14, 658, 659, 660, 661, 662, 663, 711, 712, 713, 714, 715, 716, 717, 625, 626, 627] (by decide +kernel)
set_option maxRecDepth 20000 in
theorem wsL_law0_r18_in : ∀ w ∈ wsL_law0_r18, w ∈ lw_tbl := sg_pk [628, 629, 630, 631, 668, 669, 670, 671, 672, 673, 674, 675, 676, 677, 678, 679, 680, 682, 683, 684, 685, 686, 687, 688] (by decide +kernel)
set_option maxRecDepth 20000 in
theorem wsL_law0_r19_in : ∀ w ∈ wsL_law0_r19, w ∈ lw_tbl := sg_pk [346, 265, 34, 266, 267, 268, 269, 206, 207, 208, 209, 210, 211, 212, 213, 214, 216, 0, 217, 167, 168, 170, 218, 219] (by decide +kernel)
set_option maxRecDepth 20000 in
theorem wsL_law0_r20_in : ∀ w ∈ wsL_law0_r20, w ∈ lw_tbl := sg_pk [220, 221, 222, 224, 1, 225, 226, 227, 228, 229, 254, 255, 256, 257, 258, 260, 3, 261, 264, 270, 272, 4, 273, 274] (by decide +kernel)
set_option maxRecDepth 20000 in
theorem wsL_law0_r21_in : ∀ w ∈ wsL_law0_r21, w ∈ lw_tbl := sg_pk [338, 340, 7, 341, 342, 343, 344, 345, 779, 780, 781, 782, 783, 784, 785, 786, 788, 15, 789, 790, 792, 793, 794, 795] (by decide +kernel)
set_option maxRecDepth 20000 in
theorem wsL_law0_r22_in : ∀ w ∈ wsL_law0_r22, w ∈ lw_tbl := sg_pk [796, 798, 16, 799, 735, 736, 737, 738, 762, 763, 764, 765, 766, 35, 800, 801, 802, 803, 804, 805, 806, 347, 348, 349] (by decide +kernel)
set_option maxRecDepth 20000 in
theorem wsL_law0_r23_in : ∀ w ∈ wsL_law0_r23, w ∈ lw_tbl := sg_pk [350, 821, 822, 823, 824, 825, 826, 827, 828, 829, 830, 831, 832, 833, 834, 835, 836, 837, 838, 840, 17, 841, 842, 843] (by decide +kernel)
set_option maxRecDepth 20000 in
theorem wsL_law0_r24_in : ∀ w ∈ wsL_law0_r24, w ∈ lw_tbl := sg_pk [844, 845, 846, 847, 848, 849, 850, 851, 852, 853, 854, 1001, 855, 856, 857, 858, 859, 860, 861, 862, 863, 864, 865, 866] (by decide +kernel)
set_option maxRecDepth 20000 in
theorem wsL_law0_r25_in : ∀ w ∈ wsL_law0_r25, w ∈ lw_tbl := sg_pk [867, 868, 869, 871, 872, 873, 874, 875, 876, 877, 878, 879, 880, 881, 882, 883, 884, 885, 886, 887, 888, 889, 890, 891] (by decide +kernel)
set_option maxRecDepth 20000 in
theorem wsL_law0_r26_in : ∀ w ∈ wsL_law0_r26, w ∈ lw_tbl := sg_pk [892, 893, 894, 895, 896, 897, 898, 899, 900, 901, 902, 903, 904, 905, 906, 907, 908, 909, 910, 911, 912, 913, 914, 915] (by decide +kernel)
set_option maxRecDepth 20000 in
theorem wsL_law0_r27_in : ∀ w ∈ wsL_law0_r27, w ∈ lw_tbl := sg_pk [916, 917, 919, 18, 920, 921, 923, 924, 925, 926, 927, 928, 929, 931, 932, 933, 934, 935, 936, 937, 938, 939, 940, 941] (by decide +kernel)
set_option maxRecDepth 20000 in
theorem wsL_law0_r28_in : ∀ w ∈ wsL_law0_r28, w ∈ lw_tbl := sg_pk [942, 943, 944, 945, 946, 947, 948, 949, 950, 951, 952, 953, 955, 956, 957, 958, 960, 961, 962, 963, 964, 965, 966, 967] (by decide +kernel)
set_option maxRecDepth 20000 in
theorem wsL_law0_r29_in : ∀ w ∈ wsL_law0_r29, w ∈ lw_tbl := sg_pk [968, 969, 970, 971, 972, 974, 19, 975, 976, 977, 978, 979, 980, 994, 995, 996, 997, 998, 38] (by decide +kernel)
