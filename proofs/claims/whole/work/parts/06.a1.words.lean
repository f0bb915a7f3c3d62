set_option maxRecDepth 20000 in
theorem wsL_law0_r1_in : ∀ w ∈ wsL_law0_r1, w ∈ lw_tbl := sg_pk [69, 70, 50, 1033, 1034, 56, 1434, 1435, 71, 72, 73, 74, 75, 76, 77, 78, 51, 213, 125, 126, 52, 214, 141, 142] (by decide +kernel)
set_option maxRecDepth 20000 in
theorem wsL_law0_r2_in : ∀ w ∈ wsL_law0_r2, w ∈ lw_tbl := sg_pk [53, 215, 167, 168, 54, 216, 189, 190, 55, 217, 80, 81, 82, 124, 83, 84, 85, 86, 87, 88, 127, 128, 129, 130] (by decide +kernel)
set_option maxRecDepth 20000 in
theorem wsL_law0_r3_in : ∀ w ∈ wsL_law0_r3, w ∈ lw_tbl := sg_pk [132, 133, 131, 143, 144, 145, 146, 147, 148, 169, 170, 171, 172, 175, 176, 177, 173, 174, 191, 192, 193, 194, 195, 196] (by decide +kernel)
set_option maxRecDepth 20000 in
theorem wsL_law0_r4_in : ∀ w ∈ wsL_law0_r4, w ∈ lw_tbl := sg_pk [1035, 1036, 1037, 1038, 1121, 1043, 1044, 1045, 1046, 1047, 1048, 1049, 1050, 1051, 1052, 1053, 1054, 1055, 1056, 1057, 1058, 1059, 1061, 1062] (by decide +kernel)
set_option maxRecDepth 20000 in
theorem wsL_law0_r5_in : ∀ w ∈ wsL_law0_r5, w ∈ lw_tbl := sg_pk [417, 418, 49, 419, 420, 421, 422, 423, 424, 425, 426, 60, 498, 499, 500, 501, 89, 95, 253, 254, 502, 503, 504, 505] (by decide +kernel)
set_option maxRecDepth 20000 in
theorem wsL_law0_r6_in : ∀ w ∈ wsL_law0_r6, w ∈ lw_tbl := sg_pk [61, 1126, 1127, 1128, 1129, 1040, 1039, 1130, 1131, 1132, 1133, 1135, 20, 1136, 1122, 1123, 1124, 1125, 521, 522, 523, 524, 525, 526] (by decide +kernel)
set_option maxRecDepth 20000 in
theorem wsL_law0_r7_in : ∀ w ∈ wsL_law0_r7, w ∈ lw_tbl := sg_pk [527, 528, 529, 530, 1137, 1138, 1139, 1140, 533, 534, 535, 536, 537, 538, 539, 540, 541, 543, 11, 544, 546, 62, 545, 374] (by decide +kernel)
set_option maxRecDepth 20000 in
theorem wsL_law0_r8_in : ∀ w ∈ wsL_law0_r8, w ∈ lw_tbl := sg_pk [375, 376, 564, 565, 566, 567, 93, 99, 568, 569, 570, 571, 572, 349, 350, 351, 1141, 1142, 1143, 1144, 1041, 1145, 1147, 21] (by decide +kernel)
set_option maxRecDepth 20000 in
theorem wsL_law0_r9_in : ∀ w ∈ wsL_law0_r9, w ∈ lw_tbl := sg_pk [1148, 573, 574, 575, 576, 577, 578, 579, 580, 581, 583, 12, 584, 586, 63, 585, 266, 267, 602, 392, 393, 394, 603, 604] (by decide +kernel)
set_option maxRecDepth 20000 in
theorem wsL_law0_r10_in : ∀ w ∈ wsL_law0_r10, w ∈ lw_tbl := sg_pk [605, 606, 373, 607, 608, 609, 610, 149, 352, 249, 250, 251, 256, 257, 258, 259, 260, 261, 263, 1, 264, 268, 269, 270] (by decide +kernel)
set_option maxRecDepth 20000 in
theorem wsL_law0_r11_in : ∀ w ∈ wsL_law0_r11, w ∈ lw_tbl := sg_pk [271, 363, 364, 365, 366, 367, 286, 287, 288, 368, 355, 356, 357, 369, 370, 371, 372, 378, 379, 380, 381, 382, 384, 7] (by decide +kernel)
set_option maxRecDepth 20000 in
theorem wsL_law0_r12_in : ∀ w ∈ wsL_law0_r12, w ∈ lw_tbl := sg_pk [385, 387, 389, 8, 390, 391, 395, 396, 397, 398, 399, 348, 1149, 1150, 1151, 1152, 1153, 1155, 22, 1156, 1157, 1159, 23, 1160] (by decide +kernel)
set_option maxRecDepth 20000 in
theorem wsL_law0_r13_in : ∀ w ∈ wsL_law0_r13, w ∈ lw_tbl := sg_pk [1161, 1163, 24, 1164, 1165, 1167, 25, 1168, 1169, 1171, 26, 1172, 612, 613, 614, 615, 616, 617, 618, 619, 621, 13, 622, 623] (by decide +kernel)
set_option maxRecDepth 20000 in
theorem wsL_law0_r14_in : ∀ w ∈ wsL_law0_r14, w ∈ lw_tbl := sg_pk [628, 630, 14, 631, 633, 634, 635, 636, 1173, 1174, 1175, 1176, 1177, 1179, 27, 1180, 637, 638, 639, 640, 641, 642, 643, 644] (by decide +kernel)
set_option maxRecDepth 20000 in
theorem wsL_law0_r15_in : ∀ w ∈ wsL_law0_r15, w ∈ lw_tbl := sg_pk [340, 341, 342, 152, 154, 344, 345, 346, 347, 353, 354, 358, 359, 360, 361, 362, 645, 413, 414, 415, 416, 1181, 1182, 1183] (by decide +kernel)
set_option maxRecDepth 20000 in
theorem wsL_law0_r16_in : ∀ w ∈ wsL_law0_r16, w ∈ lw_tbl := sg_pk [1184, 1185, 1187, 28, 1188, 1189, 1191, 29, 1192, 1193, 1195, 30, 1196, 646, 647, 648, 649, 650, 651, 652, 653, 654, 655, 656] (by decide +kernel)
set_option maxRecDepth 20000 in
theorem wsL_law0_r17_in : ∀ w ∈ wsL_law0_r17, w ∈ lw_tbl := sg_pk [657, 658, 659, 660, 661, 662, 663, 664, 665, 1197, 1198, 1199, 1200, 1201, 1203, 31, 1204, 1205, 1207, 32, 1208, 666, 667, 668] (by decide +kernel)
set_option maxRecDepth 20000 in
theorem wsL_law0_r18_in : ∀ w ∈ wsL_law0_r18, w ∈ lw_tbl := sg_pk [669, 670, 671, 672, 1209, 1210, 1211, 1212, 673, 674, 675, 676, 677, 678, 679, 1213, 1214, 1215, 1216, 680, 681, 682, 683, 684] (by decide +kernel)
set_option maxRecDepth 20000 in
theorem wsL_law0_r19_in : ∀ w ∈ wsL_law0_r19, w ∈ lw_tbl := sg_pk [685, 686, 688, 1217, 1218, 1219, 1220, 689, 690, 691, 692, 693, 694, 695, 218, 697, 698, 699, 700, 701, 702, 703, 704, 705] (by decide +kernel)
set_option maxRecDepth 20000 in
theorem wsL_law0_r20_in : ∀ w ∈ wsL_law0_r20, w ∈ lw_tbl := sg_pk [707, 15, 708, 709, 710, 711, 712, 713, 714, 715, 716, 717, 297, 718, 719, 721, 16, 722, 723, 724, 725, 726, 727, 728] (by decide +kernel)
set_option maxRecDepth 20000 in
theorem wsL_law0_r21_in : ∀ w ∈ wsL_law0_r21, w ∈ lw_tbl := sg_pk [729, 730, 732, 733, 734, 735, 736, 737, 1221, 1222, 1223, 1224, 1042, 1225, 1227, 33, 1228, 1060, 1229, 1231, 34, 1232, 1233, 1235] (by decide +kernel)
set_option maxRecDepth 20000 in
theorem wsL_law0_r22_in : ∀ w ∈ wsL_law0_r22, w ∈ lw_tbl := sg_pk [35, 1236, 1237, 1239, 36, 1240, 1241, 1243, 37, 1244, 1245, 1247, 38, 1248, 738, 739, 740, 741, 742, 743, 744, 1249, 1250, 1251] (by decide +kernel)
