/-! the law, checked -/
theorem wm_L_law_0 : ∀ w ∈ eWds 13 k_L_law_0, w ∈ eGW := e_wm [94, 95, 73, 96, 97, 73, 98, 1058, 1059, 83, 1060, 1061, 83, 1062, 1194, 478, 479, 72, 480, 1199, 1200, 1201, 83, 1202, 1195, 1196, 1197, 83, 1198] (by decide +kernel)
theorem st_L_law_0 : k_L_law_0.all (eSt cL_law false RL 4) = true := by decide +kernel
theorem wm_L_law_1 : ∀ w ∈ eWds 13 k_L_law_1, w ∈ eGW := e_wm [654, 655, 72, 656, 1271, 1272, 1273, 83, 1274, 1195, 1196, 1197, 83, 1198] (by decide +kernel)
theorem st_L_law_1 : k_L_law_1.all (eSt cL_law false RL 4) = true := by decide +kernel
theorem wm_L_law_2 : ∀ w ∈ eWds 13 k_L_law_2, w ∈ eGW := e_wm [696, 697, 72, 698, 1275, 1276, 1277, 83, 1278, 1195, 1196, 1197, 83, 1198, 711, 712, 72, 713, 1290, 1291, 1292, 83, 1293] (by decide +kernel)
theorem st_L_law_2 : k_L_law_2.all (eSt cL_law false RL 4) = true := by decide +kernel
theorem wm_L_law_3 : ∀ w ∈ eWds 13 k_L_law_3, w ∈ eGW := e_wm [1195, 1196, 1197, 83, 1198, 718, 719, 72, 720, 1294, 1295, 1296, 83, 1297, 1195, 1196, 1197, 83, 1198] (by decide +kernel)
theorem st_L_law_3 : k_L_law_3.all (eSt cL_law false RL 4) = true := by decide +kernel
theorem wm_L_law_4 : ∀ w ∈ eWds 13 k_L_law_4, w ∈ eGW := e_wm [734, 735, 72, 736, 1298, 1299, 1300, 83, 1301, 1195, 1196, 1197, 83, 1198, 745, 746, 72, 747] (by decide +kernel)
theorem st_L_law_4 : k_L_law_4.all (eSt cL_law false RL 4) = true := by decide +kernel
theorem wm_L_law_5 : ∀ w ∈ eWds 13 k_L_law_5, w ∈ eGW := e_wm [1302, 1303, 1304, 83, 1305, 1195, 1196, 1197, 83, 1198, 765, 766, 72, 767, 1306, 1307, 1308, 83, 1309, 1195, 1196, 1197, 83, 1198] (by decide +kernel)
theorem st_L_law_5 : k_L_law_5.all (eSt cL_law false RL 4) = true := by decide +kernel
theorem wm_L_law_6 : ∀ w ∈ eWds 13 k_L_law_6, w ∈ eGW := e_wm [902, 903, 72, 904, 1370, 1371, 1372, 83, 1373, 1195, 1196, 1197, 83, 1198, 909, 910, 72, 911] (by decide +kernel)
theorem st_L_law_6 : k_L_law_6.all (eSt cL_law false RL 4) = true := by decide +kernel
theorem wm_L_law_7 : ∀ w ∈ eWds 13 k_L_law_7, w ∈ eGW := e_wm [1374, 1375, 1376, 83, 1377, 1195, 1196, 1197, 83, 1198, 916, 917, 72, 918, 1378, 1379, 1380, 83, 1381, 1195, 1196, 1197, 83, 1198] (by decide +kernel)
theorem st_L_law_7 : k_L_law_7.all (eSt cL_law false RL 4) = true := by decide +kernel
theorem wm_L_law_8 : ∀ w ∈ eWds 13 k_L_law_8, w ∈ eGW := e_wm [923, 924, 72, 925, 1382, 1383, 1384, 83, 1385, 1195, 1196, 1197, 83, 1198] (by decide +kernel)
theorem st_L_law_8 : k_L_law_8.all (eSt cL_law false RL 4) = true := by decide +kernel
theorem wm_L_law_9 : ∀ w ∈ eWds 13 k_L_law_9, w ∈ eGW := e_wm [930, 931, 72, 932, 1386, 1387, 1388, 83, 1389, 1195, 1196, 1197, 83, 1198, 937, 938, 72, 939, 1390, 1391, 1392, 83, 1393, 1195, 1196, 1197, 83, 1198] (by decide +kernel)
theorem st_L_law_9 : k_L_law_9.all (eSt cL_law false RL 4) = true := by decide +kernel
theorem wm_L_law_10 : ∀ w ∈ eWds 13 k_L_law_10, w ∈ eGW := e_wm [944, 945, 72, 946, 1394, 1395, 1396, 83, 1397, 1195, 1196, 1197, 83, 1198, 951, 952, 72, 953] (by decide +kernel)
theorem st_L_law_10 : k_L_law_10.all (eSt cL_law false RL 4) = true := by decide +kernel
theorem wm_L_law_11 : ∀ w ∈ eWds 13 k_L_law_11, w ∈ eGW := e_wm [1398, 1399, 1400, 83, 1401, 1195, 1196, 1197, 83, 1198, 958, 959, 72, 960, 1402, 1403, 1404, 83, 1405, 1195, 1196, 1197, 83, 1198, 390, 391, 392, 73, 393, 1406, 1407, 1408, 83, 1409] (by decide +kernel)
theorem st_L_law_11 : k_L_law_11.all (eSt cL_law false RL 4) = true := by decide +kernel
theorem wm_L_law_12 : ∀ w ∈ eWds 13 k_L_law_12, w ∈ eGW := e_wm [971, 972, 72, 973, 1410, 1411, 1412, 83, 1413, 1195, 1196, 1197, 83, 1198, 411, 412, 413, 73, 414, 1414, 1415, 1416, 83, 1417] (by decide +kernel)
theorem st_L_law_12 : k_L_law_12.all (eSt cL_law false RL 4) = true := by decide +kernel
theorem wm_L_law_13 : ∀ w ∈ eWds 13 k_L_law_13, w ∈ eGW := e_wm [978, 979, 72, 980, 1418, 1419, 1420, 83, 1421, 1195, 1196, 1197, 83, 1198, 1002, 1003, 72, 1004] (by decide +kernel)
theorem st_L_law_13 : k_L_law_13.all (eSt cL_law false RL 4) = true := by decide +kernel
theorem wm_L_law_14 : ∀ w ∈ eWds 13 k_L_law_14, w ∈ eGW := e_wm [1422, 1423, 1424, 83, 1425, 1195, 1196, 1197, 83, 1198, 1009, 1010, 72, 1011, 1474, 1475, 1476, 83, 1477, 1195, 1196, 1197, 83, 1198] (by decide +kernel)
theorem st_L_law_14 : k_L_law_14.all (eSt cL_law false RL 4) = true := by decide +kernel
theorem wm_L_law_15 : ∀ w ∈ eWds 13 k_L_law_15, w ∈ eGW := e_wm [1016, 1017, 72, 1018, 1478, 1479, 1480, 83, 1481, 1195, 1196, 1197, 83, 1198, 427, 428, 429, 73, 430, 1482, 1483, 1484, 83, 1485] (by decide +kernel)
theorem st_L_law_15 : k_L_law_15.all (eSt cL_law false RL 4) = true := by decide +kernel
