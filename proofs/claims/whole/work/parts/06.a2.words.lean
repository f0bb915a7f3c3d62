set_option maxRecDepth 20000 in
theorem wsL_law0_r23_in : ∀ w ∈ wsL_law0_r23, w ∈ lw_tbl := sg_pk [1252, 746, 747, 748, 749, 750, 751, 752, 408, 330, 64, 331, 332, 333, 334, 1253, 1254, 1255, 1256, 232, 233, 234, 235, 1257] (by decide +kernel)
set_option maxRecDepth 20000 in
theorem wsL_law0_r24_in : ∀ w ∈ wsL_law0_r24, w ∈ lw_tbl := sg_pk [1258, 1259, 1260, 236, 237, 238, 239, 1261, 1262, 1263, 1264, 754, 755, 756, 757, 758, 759, 760, 1265, 1266, 1267, 1268, 761, 762] (by decide +kernel)
set_option maxRecDepth 20000 in
theorem wsL_law0_r25_in : ∀ w ∈ wsL_law0_r25, w ∈ lw_tbl := sg_pk [763, 764, 765, 766, 767, 1269, 1270, 1271, 1272, 768, 769, 770, 771, 772, 773, 774, 775, 320, 321, 322, 1273, 1274, 1275, 1276] (by decide +kernel)
set_option maxRecDepth 20000 in
theorem wsL_law0_r26_in : ∀ w ∈ wsL_law0_r26, w ∈ lw_tbl := sg_pk [776, 777, 778, 779, 780, 781, 782, 1277, 1278, 1279, 1280, 783, 784, 785, 786, 787, 788, 789, 1281, 1282, 1283, 1284, 790, 791] (by decide +kernel)
set_option maxRecDepth 20000 in
theorem wsL_law0_r27_in : ∀ w ∈ wsL_law0_r27, w ∈ lw_tbl := sg_pk [792, 793, 794, 795, 796, 1285, 1286, 1287, 1288, 797, 798, 799, 800, 801, 802, 803, 244, 246, 0, 247, 248, 272, 1289, 1290] (by decide +kernel)
set_option maxRecDepth 20000 in
theorem wsL_law0_r28_in : ∀ w ∈ wsL_law0_r28, w ∈ lw_tbl := sg_pk [1291, 1292, 1293, 1295, 39, 1296, 804, 805, 806, 807, 808, 809, 810, 811, 812, 813, 814, 1297, 1298, 1299, 1300, 1301, 240, 241] (by decide +kernel)
set_option maxRecDepth 20000 in
theorem wsL_law0_r29_in : ∀ w ∈ wsL_law0_r29, w ∈ lw_tbl := sg_pk [242, 243, 1302, 1303, 1304, 1305, 815, 816, 817, 818, 819, 820, 821, 822, 1306, 1307, 1308, 1309, 823, 824, 825, 826, 827, 828] (by decide +kernel)
set_option maxRecDepth 20000 in
theorem wsL_law0_r30_in : ∀ w ∈ wsL_law0_r30, w ∈ lw_tbl := sg_pk [829, 1310, 1311, 1312, 1313, 831, 832, 833, 834, 835, 836, 837, 285, 1314, 1315, 1316, 1317, 838, 839, 840, 841, 842, 843, 844] (by decide +kernel)
set_option maxRecDepth 20000 in
theorem wsL_law0_r31_in : ∀ w ∈ wsL_law0_r31, w ∈ lw_tbl := sg_pk [845, 1318, 1319, 1320, 1321, 846, 847, 848, 849, 850, 851, 852, 853, 854, 855, 856, 857, 1322, 1323, 1324, 1325, 1326, 858, 859] (by decide +kernel)
set_option maxRecDepth 20000 in
theorem wsL_law0_r32_in : ∀ w ∈ wsL_law0_r32, w ∈ lw_tbl := sg_pk [860, 861, 862, 863, 864, 865, 867, 17, 868, 869, 1327, 1328, 1329, 1330, 1331, 1333, 40, 1334, 871, 872, 873, 874, 898, 899] (by decide +kernel)
set_option maxRecDepth 20000 in
theorem wsL_law0_r33_in : ∀ w ∈ wsL_law0_r33, w ∈ lw_tbl := sg_pk [900, 901, 902, 65, 915, 1335, 1336, 1337, 1338, 916, 917, 918, 919, 920, 921, 922, 923, 1339, 1340, 1341, 1342, 924, 925, 926] (by decide +kernel)
set_option maxRecDepth 20000 in
theorem wsL_law0_r34_in : ∀ w ∈ wsL_law0_r34, w ∈ lw_tbl := sg_pk [927, 928, 929, 930, 931, 933, 1343, 1344, 1345, 1346, 1347, 934, 935, 936, 937, 938, 939, 940, 1348, 1349, 1350, 1351, 941, 942] (by decide +kernel)
set_option maxRecDepth 20000 in
theorem wsL_law0_r35_in : ∀ w ∈ wsL_law0_r35, w ∈ lw_tbl := sg_pk [943, 944, 945, 946, 947, 1352, 1353, 1354, 1355, 1356, 1358, 41, 1359, 948, 949, 950, 951, 952, 953, 954, 956, 957, 958, 959] (by decide +kernel)
set_option maxRecDepth 20000 in
theorem wsL_law0_r36_in : ∀ w ∈ wsL_law0_r36, w ∈ lw_tbl := sg_pk [1360, 1361, 1362, 1363, 273, 274, 275, 276, 1364, 1365, 1366, 1367, 277, 278, 279, 280, 281, 282, 283, 284, 289, 291, 2, 292] (by decide +kernel)
set_option maxRecDepth 20000 in
theorem wsL_law0_r37_in : ∀ w ∈ wsL_law0_r37, w ∈ lw_tbl := sg_pk [293, 294, 295, 296, 1368, 1369, 1370, 1371, 1372, 1374, 42, 1375, 298, 299, 300, 301, 302, 303, 304, 305, 306, 308, 3, 309] (by decide +kernel)
set_option maxRecDepth 20000 in
theorem wsL_law0_r38_in : ∀ w ∈ wsL_law0_r38, w ∈ lw_tbl := sg_pk [197, 198, 200, 310, 311, 312, 313, 314, 316, 4, 317, 318, 319, 323, 325, 5, 326, 329, 335, 337, 6, 338, 339, 400] (by decide +kernel)
set_option maxRecDepth 20000 in
theorem wsL_law0_r39_in : ∀ w ∈ wsL_law0_r39, w ∈ lw_tbl := sg_pk [402, 9, 403, 1376, 1377, 1378, 1379, 1065, 1380, 1382, 43, 1383, 1063, 1064, 1384, 1386, 44, 1387, 1388, 1390, 45, 1391, 1392, 1394] (by decide +kernel)
set_option maxRecDepth 20000 in
theorem wsL_law0_r40_in : ∀ w ∈ wsL_law0_r40, w ∈ lw_tbl := sg_pk [46, 1395, 1396, 1398, 47, 1399, 404, 405, 406, 407, 1400, 1401, 1402, 1403, 961, 962, 963, 964, 965, 966, 967, 1404, 1405, 1406] (by decide +kernel)
set_option maxRecDepth 20000 in
theorem wsL_law0_r41_in : ∀ w ∈ wsL_law0_r41, w ∈ lw_tbl := sg_pk [1407, 969, 970, 971, 972, 973, 974, 975, 976, 978, 18, 979, 980, 982, 983, 984, 985, 986, 988, 19, 989, 1408, 1409, 1410] (by decide +kernel)
set_option maxRecDepth 20000 in
theorem wsL_law0_r42_in : ∀ w ∈ wsL_law0_r42, w ∈ lw_tbl := sg_pk [1411, 1412, 1414, 48, 1415, 1416, 990, 991, 992, 993, 994, 995, 996, 1417, 1418, 1419, 1420, 1421, 409, 410, 411, 412, 1422, 1423] (by decide +kernel)
set_option maxRecDepth 20000 in
theorem wsL_law0_r43_in : ∀ w ∈ wsL_law0_r43, w ∈ lw_tbl := sg_pk [1424, 1425, 997, 998, 999, 1000, 1014, 1015, 1016, 1017, 1018, 68, 1426, 1427, 1428, 1429, 1021, 1022, 1023, 1024, 1025, 1026, 1027, 1029] (by decide +kernel)
set_option maxRecDepth 20000 in
theorem wsL_law0_r44_in : ∀ w ∈ wsL_law0_r44, w ∈ lw_tbl := sg_pk [1030, 1031, 1032, 1430, 1431, 1432, 1433] (by decide +kernel)
