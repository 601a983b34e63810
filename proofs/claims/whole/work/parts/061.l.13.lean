set_option maxRecDepth 20000 in
theorem gL_law_X11_seed : GoodIn wsL_law (wsV RL 98 RX11 yX11_seed wsX11_seed) := goodIn_app (goodIn_of _ (by decide +kernel)) ggL_law_X11_seed
set_option maxRecDepth 20000 in
theorem ggL_law_X12_seed : GoodIn wsL_law wsX12_seed := goodIn_r _ [1316, 153, 1395, 1396, 1397, 1398, 1399, 1400, 1401, 1402, 1403, 1404, 1405, 1406, 1407, 1408, 1409, 1410, 1411, 1412, 1413, 1414, 1415, 1416, 1417, 1418, 1419, 1420, 1421, 1422, 1423, 1424, 1425, 1426, 1427, 1428, 1429, 1430, 1431, 1432, 1433, 1434, 1435, 1436] (by decide +kernel) (by decide +kernel)
set_option maxRecDepth 20000 in
theorem gL_law_X12_seed : GoodIn wsL_law (wsV RL 101 RX12 yX12_seed wsX12_seed) := goodIn_app (goodIn_of _ (by decide +kernel)) ggL_law_X12_seed
set_option maxRecDepth 20000 in
theorem ggL_law_X11_tried : GoodIn wsL_law wsX11_tried := goodIn_r _ [1320, 36, 19, 1312, 1321, 814, 815, 816, 2, 817, 681, 682, 683, 684, 634, 679, 201, 818, 819, 820, 821, 556, 758, 759, 760, 822, 823, 824, 825, 15, 1322, 1323, 1324, 35, 1325, 103, 1018, 830, 1326, 1327, 1328, 1329, 1330, 1019, 1020, 1021, 43, 1022, 56, 368, 57, 58, 1023, 613, 614, 615, 59, 831, 832, 833, 834, 716, 717, 718, 719, 720, 835, 686, 687, 18, 688, 46, 689, 690, 691, 692, 836, 837, 838, 839, 101, 840, 841, 842, 100, 843, 844, 845, 846, 847, 848, 849, 850, 851, 852, 118, 853, 854, 694, 695, 696, 647, 855, 698, 699, 700, 652, 856, 711, 712, 713, 714, 715, 857, 722, 723, 724, 725, 858, 859, 640, 641, 642, 860, 861, 862, 863, 708, 644, 645, 646, 864, 865, 866, 867, 868, 869, 870, 871, 872, 873, 874, 875, 876, 877, 218, 215, 219, 119, 878, 879, 880, 881, 882, 883, 884, 885, 886, 887, 888, 889, 890, 891, 892, 893, 894, 895, 896, 897, 898, 899, 795, 796, 797, 798, 900, 779, 780, 781, 901, 902, 903, 904, 905, 906, 907, 1331, 990, 991, 992, 993, 994, 995, 996, 982, 983, 984, 705, 706, 707, 997, 986, 987, 988, 639, 1385, 1386, 1387, 1388, 1389, 1390, 1391, 1392, 1393, 1394, 1437, 1438, 1439, 1440, 1441, 1458, 1459, 1460, 1461, 1462, 1463, 1464, 1465, 1466, 1467, 1468, 1469, 1470, 1471, 1472, 1473, 1474, 1475, 1476, 1477, 1478, 1479, 1480, 1481, 1482, 1483, 1484, 1508, 1509, 1510, 1511, 1512] (by decide +kernel) (by decide +kernel)
set_option maxRecDepth 20000 in
theorem gL_law_X11_tried : GoodIn wsL_law (wsV RL 102 RX11 yX11_tried wsX11_tried) := goodIn_app (goodIn_of _ (by decide +kernel)) ggL_law_X11_tried
set_option maxRecDepth 20000 in
theorem ggL_law_X12_tried : GoodIn wsL_law wsX12_tried := goodIn_r _ [1335, 1336, 912, 1337, 153, 1338, 1339, 1340, 1341, 913, 914, 915, 5, 916, 659, 660, 661, 662, 917, 918, 919, 920, 629, 451, 452, 453, 1031, 1032, 1033, 1034, 158, 925, 926, 927, 928, 750, 751, 752, 753, 742, 743, 744, 745, 154, 929, 930, 931, 932, 933, 934, 935, 936, 155, 156, 157, 152, 731, 732, 733, 734, 666, 667, 668, 669, 746, 747, 748, 749, 670, 671, 672, 673, 937, 938, 939, 940, 146, 145, 941, 942, 943, 944, 945, 946, 947, 948, 949, 143, 950, 951, 952, 953, 151, 954, 955, 956, 957, 958, 959, 960, 961, 962, 963, 964, 965, 966, 967, 968, 969, 970, 971, 972, 803, 804, 805, 806, 807, 808, 809, 786, 787, 788, 789, 973, 974, 975, 976, 1006, 1007, 1008, 1009, 1002, 1003, 1004, 1005, 739, 740, 741, 1035, 1036, 1037, 1038, 1395, 1396, 1397, 1398, 1399, 1400, 1401, 1402, 1403, 1404, 1405, 1406, 1407, 1408, 1409, 1410, 1411, 1412, 1413, 1414, 1415, 1416, 1417, 1418, 1419, 1420, 1421, 1422, 1423, 1424, 1425, 1426, 1427, 1428, 1429, 1430, 1431, 1432, 1433, 1434, 1435, 1436] (by decide +kernel) (by decide +kernel)
set_option maxRecDepth 20000 in
theorem gL_law_X12_tried : GoodIn wsL_law (wsV RL 105 RX12 yX12_tried wsX12_tried) := goodIn_app (goodIn_of _ (by decide +kernel)) ggL_law_X12_tried
set_option maxRecDepth 20000 in
theorem ggL_law_X11_leap : GoodIn wsL_law wsX11_leap := goodIn_r _ [1345, 758, 759, 2, 760] (by decide +kernel) (by decide +kernel)
set_option maxRecDepth 20000 in
theorem gL_law_X11_leap : GoodIn wsL_law (wsV RL 106 RX11 yX11_leap wsX11_leap) := goodIn_app (goodIn_of _ (by decide +kernel)) ggL_law_X11_leap
set_option maxRecDepth 20000 in
theorem ggL_law_X12_leap : GoodIn wsL_law wsX12_leap := goodIn_r _ [1349, 1248, 451, 452, 5, 453] (by decide +kernel) (by decide +kernel)
set_option maxRecDepth 20000 in
theorem gL_law_X12_leap : GoodIn wsL_law (wsV RL 109 RX12 yX12_leap wsX12_leap) := goodIn_app (goodIn_of _ (by decide +kernel)) ggL_law_X12_leap
set_option maxRecDepth 20000 in
theorem ggL_law_X11_count : GoodIn wsL_law wsX11_count := goodIn_r _ [1353, 19, 634, 679, 201, 678, 556, 1354, 777, 1355, 1356, 1312, 174, 1357, 717, 718, 43, 719, 56, 720, 57, 1385, 1386, 1387, 1388, 1389, 1390, 1391, 1392, 1393, 1394, 1437, 1438, 1439, 1440, 1441, 1469, 1470, 1471, 1472, 1473, 1474, 1475, 1476, 1477, 1478, 1479, 1480, 1481, 1482] (by decide +kernel) (by decide +kernel)
set_option maxRecDepth 20000 in
theorem gL_law_X11_count : GoodIn wsL_law (wsV RL 110 RX11 yX11_count wsX11_count) := goodIn_app (goodIn_of _ (by decide +kernel)) ggL_law_X11_count
set_option maxRecDepth 20000 in
theorem ggL_law_X12_count : GoodIn wsL_law wsX12_count := goodIn_r _ [1361, 153, 629, 384, 183, 750, 751, 752, 5, 753, 659, 660, 661, 662, 1395, 1396, 1397, 1398, 1399, 1400, 1401, 1402, 1403, 1404, 1405, 1406, 1407, 1408, 1409, 1410, 1411, 1412, 1413, 1414, 1415, 1416, 1417, 1418, 1419, 1420, 1421, 1422, 1423, 1424, 1425, 1426, 1427, 1428, 1429, 1430, 1431, 1432, 1433, 1434, 1435, 1436] (by decide +kernel) (by decide +kernel)
set_option maxRecDepth 20000 in
theorem gL_law_X12_count : GoodIn wsL_law (wsV RL 113 RX12 yX12_count wsX12_count) := goodIn_app (goodIn_of _ (by decide +kernel)) ggL_law_X12_count
set_option maxRecDepth 20000 in
theorem ggL_law_X11_image : GoodIn wsL_law wsX11_image := goodIn_r _ [1365, 20, 16, 17, 18, 19, 634, 678, 758, 759, 2, 760, 37, 38, 39, 40, 10, 11, 41, 42, 43, 44, 45, 46, 47, 48, 49, 50, 51, 52, 53, 54, 55, 56, 57, 58, 59, 60, 61, 62, 63, 64, 65, 66, 67, 68, 69, 70, 71, 72, 1366, 1367, 1368, 1369, 1370, 373, 1371, 613, 614, 615, 1372, 1020, 1021, 1022, 368, 1023, 1385, 1386, 1387, 1388, 1389, 1390, 1391, 1392, 1393, 1394, 1437, 1438, 1439, 1440, 1441, 1469, 1470, 1471, 1472, 1473, 1474, 1475, 1476, 1477, 1478, 1479, 1480, 1481, 1482] (by decide +kernel) (by decide +kernel)
set_option maxRecDepth 20000 in
theorem gL_law_X11_image : GoodIn wsL_law (wsV RL 114 RX11 yX11_image wsX11_image) := goodIn_app (goodIn_of _ (by decide +kernel)) ggL_law_X11_image
set_option maxRecDepth 20000 in
theorem ggL_law_X12_image : GoodIn wsL_law wsX12_image := goodIn_r _ [1376, 657, 169, 167, 153, 451, 452, 5, 453, 1395, 1396, 1397, 1398, 1399, 1400, 1401, 1402, 1403, 1404, 1405, 1406, 1407, 1408, 1409, 1410, 1411, 1412, 1413, 1414, 1415, 1416, 1417, 1418, 1419, 1420, 1421, 1422, 1423, 1424, 1425, 1426, 1427, 1428, 1429, 1430, 1431, 1432, 1433, 1434, 1435, 1436] (by decide +kernel) (by decide +kernel)
set_option maxRecDepth 20000 in
theorem gL_law_X12_image : GoodIn wsL_law (wsV RL 117 RX12 yX12_image wsX12_image) := goodIn_app (goodIn_of _ (by decide +kernel)) ggL_law_X12_image
set_option maxRecDepth 20000 in
theorem ggL_law_X11_back : GoodIn wsL_law wsX11_back := goodIn_r _ [1380, 20, 19, 634, 678, 758, 759, 2, 760, 1366, 1367, 1368, 18, 1369, 44, 1370, 373, 46, 1371, 613, 614, 615, 47, 1372, 1020, 1021, 43, 1022, 56, 368, 57, 58, 1023, 59, 1385, 1386, 1387, 1388, 1389, 1390, 1391, 1392, 1393, 1394, 1437, 1438, 1439, 1440, 1441, 1469, 1470, 1471, 1472, 1473] (by decide +kernel) (by decide +kernel)
set_option maxRecDepth 20000 in
theorem gL_law_X11_back : GoodIn wsL_law (wsV RL 118 RX11 yX11_back wsX11_back) := goodIn_app (goodIn_of _ (by decide +kernel)) ggL_law_X11_back
set_option maxRecDepth 20000 in
theorem ggL_law_X12_back : GoodIn wsL_law wsX12_back := goodIn_r _ [1384, 657, 169, 153, 167, 451, 452, 5, 453, 1395, 1396, 1397, 1398, 1399, 1400, 1401, 1402, 1403, 1404, 1405, 1406, 1407, 1408, 1409, 1410, 1411, 1412, 1413, 1414, 1415, 1416, 1417, 1418, 1419, 1420, 1421, 1422, 1423, 1424, 1425, 1426, 1427, 1428, 1429, 1430, 1431, 1432, 1433, 1434, 1435, 1436] (by decide +kernel) (by decide +kernel)
set_option maxRecDepth 20000 in
theorem gL_law_X12_back : GoodIn wsL_law (wsV RL 121 RX12 yX12_back wsX12_back) := goodIn_app (goodIn_of _ (by decide +kernel)) ggL_law_X12_back
