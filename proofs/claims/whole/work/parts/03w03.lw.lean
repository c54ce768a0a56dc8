set_option maxRecDepth 20000 in
theorem lr_28 : ∀ w ∈ wsL_law0_r28, w ∈ lw_tbl := l_pos [1277, 157, 158, 159, 160, 1278, 1279, 1280, 1281, 873, 874, 875, 876, 877, 878, 879, 880, 882, 34, 883, 225, 1282, 1283, 1284] (by decide +kernel)
set_option maxRecDepth 20000 in
theorem lr_29 : ∀ w ∈ wsL_law0_r29, w ∈ lw_tbl := l_pos [1285, 1286, 1288, 58, 1289, 885, 886, 887, 888, 889, 890, 891, 1290, 1291, 1292, 1293, 892, 893, 894, 895, 896, 897, 898, 1294] (by decide +kernel)
set_option maxRecDepth 20000 in
theorem lr_30 : ∀ w ∈ wsL_law0_r30, w ∈ lw_tbl := l_pos [1295, 1296, 1297, 899, 900, 901, 902, 903, 904, 905, 1298, 1299, 1300, 1301, 906, 907, 908, 909, 910, 911, 912, 913, 915, 90] (by decide +kernel)
set_option maxRecDepth 20000 in
theorem lr_31 : ∀ w ∈ wsL_law0_r31, w ∈ lw_tbl := l_pos [931, 933, 35, 934, 937, 36, 938, 939, 941, 37, 942, 1302, 1303, 1304, 1305, 1306, 1308, 59, 1309, 943, 944, 945, 946, 947] (by decide +kernel)
set_option maxRecDepth 20000 in
theorem lr_32 : ∀ w ∈ wsL_law0_r32, w ∈ lw_tbl := l_pos [948, 949, 1310, 1311, 1312, 1313, 950, 951, 952, 953, 954, 955, 956, 959, 961, 38, 962, 963, 965, 39, 966, 969, 40, 970] (by decide +kernel)
set_option maxRecDepth 20000 in
theorem lr_33 : ∀ w ∈ wsL_law0_r33, w ∈ lw_tbl := l_pos [782, 971, 973, 41, 974, 1314, 1315, 1316, 1317, 1318, 1320, 60, 1321, 161, 162, 163, 164, 1322, 1323, 1324, 1325, 165, 166, 167] (by decide +kernel)
set_option maxRecDepth 20000 in
theorem lr_34 : ∀ w ∈ wsL_law0_r34, w ∈ lw_tbl := l_pos [168, 1326, 1327, 1328, 1329, 975, 976, 977, 978, 992, 993, 994, 995, 996, 91, 1330, 1331, 1332, 1333, 999, 1000, 1001, 1002, 1003] (by decide +kernel)
set_option maxRecDepth 20000 in
theorem lr_35 : ∀ w ∈ wsL_law0_r35, w ∈ lw_tbl := l_pos [1004, 1005, 1334, 1335, 1336, 1337, 184, 185, 186, 187, 188, 190, 0, 191, 217, 219, 6, 220, 221, 223, 7, 224, 231, 233] (by decide +kernel)
set_option maxRecDepth 20000 in
theorem lr_36 : ∀ w ∈ wsL_law0_r36, w ∈ lw_tbl := l_pos [9, 234, 1338, 1339, 1340, 1341] (by decide +kernel)
