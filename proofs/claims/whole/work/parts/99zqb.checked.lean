/-! the words and codes of each method, checked, 2 -/
theorem wm_X11_isCoherent : ∀ w ∈ eWds 11 k_X11_isCoherent, w ∈ eGW := e_wm [394, 396, 0, 73, 397] (by decide +kernel)
theorem st_X11_isCoherent : k_X11_isCoherent.all (eSt cX11_isCoherent false RX11 4) = true := by decide +kernel
theorem wm_X11_counter : ∀ w ∈ eWds 11 k_X11_counter, w ∈ eGW := e_wm [662, 663, 73, 664, 365] (by decide +kernel)
theorem st_X11_counter : k_X11_counter.all (eSt cX11_counter false RX11 1) = true := by decide +kernel
theorem wm_X11_clear : ∀ w ∈ eWds 11 k_X11_clear, w ∈ eGW := e_wm [370, 415, 416, 417, 78, 418, 371, 415, 416, 417, 78, 418, 369, 419, 420, 421, 77, 422] (by decide +kernel)
theorem st_X11_clear : k_X11_clear.all (eSt cX11_clear false RX11 1) = true := by decide +kernel
theorem wm_X11_step : ∀ w ∈ eWds 11 k_X11_step, w ∈ eGW := e_wm [490, 491, 73, 492, 490, 491, 73, 492, 662, 663, 73, 664, 662, 663, 73, 664, 369, 985, 986, 987, 77, 988, 568, 88, 370, 415, 416, 417, 78, 418, 371, 415, 416, 417, 78, 418, 369, 990, 991, 992, 77, 993] (by decide +kernel)
theorem st_X11_step : k_X11_step.all (eSt cX11_step false RX11 1) = true := by decide +kernel
theorem wm_X11_outcomes : ∀ w ∈ eWds 11 k_X11_outcomes, w ∈ eGW := e_wm [662, 663, 73, 664, 431, 433, 1, 73, 434, 223] (by decide +kernel)
theorem st_X11_outcomes : k_X11_outcomes.all (eSt cX11_outcomes false RX11 1) = true := by decide +kernel
theorem wm_X11_outcome : ∀ w ∈ eWds 11 k_X11_outcome, w ∈ eGW := e_wm [662, 663, 73, 664, 431, 433, 1, 73, 434, 223, 490, 491, 73, 492, 220] (by decide +kernel)
theorem st_X11_outcome : k_X11_outcome.all (eSt cX11_outcome false RX11 1) = true := by decide +kernel
theorem wm_X11_outcomesAnew : ∀ w ∈ eWds 11 k_X11_outcomesAnew, w ∈ eGW := e_wm [662, 663, 73, 664, 372, 369, 1023, 1024, 1025, 79, 1026] (by decide +kernel)
theorem st_X11_outcomesAnew : k_X11_outcomesAnew.all (eSt cX11_outcomesAnew false RX11 1) = true := by decide +kernel
theorem wm_X11_areAlike : ∀ w ∈ eWds 11 k_X11_areAlike, w ∈ eGW := e_wm [431, 433, 1, 73, 434, 431, 433, 1, 73, 434, 474, 475, 476, 78, 477] (by decide +kernel)
theorem st_X11_areAlike : k_X11_areAlike.all (eSt cX11_areAlike false RX11 4) = true := by decide +kernel
theorem wm_X11_needCore : ∀ w ∈ eWds 11 k_X11_needCore, w ∈ eGW := e_wm [490, 491, 73, 492] (by decide +kernel)
theorem st_X11_needCore : k_X11_needCore.all (eSt cX11_needCore false RX11 0) = true := by decide +kernel
theorem wm_X11_needLine : ∀ w ∈ eWds 11 k_X11_needLine, w ∈ eGW := e_wm [490, 491, 73, 492] (by decide +kernel)
theorem st_X11_needLine : k_X11_needLine.all (eSt cX11_needLine false RX11 0) = true := by decide +kernel
theorem wm_X11_needIndex : ∀ w ∈ eWds 11 k_X11_needIndex, w ∈ eGW := e_wm [493, 87] (by decide +kernel)
theorem st_X11_needIndex : k_X11_needIndex.all (eSt cX11_needIndex false RX11 0) = true := by decide +kernel
theorem wm_X11_needWithin : ∀ w ∈ eWds 11 k_X11_needWithin, w ∈ eGW := e_wm [665, 90] (by decide +kernel)
theorem st_X11_needWithin : k_X11_needWithin.all (eSt cX11_needWithin false RX11 0) = true := by decide +kernel
theorem wm_X11_deliverFirst : ∀ w ∈ eWds 11 k_X11_deliverFirst, w ∈ eGW := e_wm [366, 781, 782, 783, 74, 784, 368, 785, 786, 787, 80, 788, 367, 823, 824, 825, 75, 826, 367, 885, 886, 887, 75, 888, 901, 793, 89, 794] (by decide +kernel)
theorem st_X11_deliverFirst : k_X11_deliverFirst.all (eSt cX11_deliverFirst false RX11 1) = true := by decide +kernel
theorem wm_X11_isLineCoherent : ∀ w ∈ eWds 11 k_X11_isLineCoherent, w ∈ eGW := e_wm [368, 398, 399, 400, 80, 401, 402, 403, 404, 82, 405, 410, 407, 408, 82, 409, 301, 305, 305] (by decide +kernel)
theorem st_X11_isLineCoherent : k_X11_isLineCoherent.all (eSt cX11_isLineCoherent false RX11 4) = true := by decide +kernel
theorem wm_X11_outcomesBy : ∀ w ∈ eWds 11 k_X11_outcomesBy, w ∈ eGW := e_wm [370, 371, 225, 415, 416, 417, 78, 418, 369, 436, 92, 437, 225] (by decide +kernel)
theorem st_X11_outcomesBy : k_X11_outcomesBy.all (eSt cX11_outcomesBy false RX11 3) = true := by decide +kernel
theorem wm_X12_init : ∀ w ∈ eWds 12 k_X12_init, w ∈ eGW := e_wm [1063, 100, 101, 120, 1064, 120, 1065, 120, 1066, 254, 1067, 120, 1068, 120, 1069, 120, 1070, 120, 1071, 120, 1072, 120, 1073, 120, 1074, 120, 1075, 120, 1076, 120, 1077, 120, 1078, 120, 1079, 254, 1080, 120, 1081, 120, 1083, 120, 1084, 120, 1085, 120, 1086, 254, 1087, 254, 1088, 120, 1089, 120, 1090, 120, 1091, 120, 1092, 120, 1093, 120, 1094, 120, 1095, 120, 1097, 120, 1098, 120, 1099, 120, 1100, 1194, 1101, 1194, 1103, 120, 1105, 1065, 1068, 1076, 1081, 1083, 1093] (by decide +kernel)
theorem st_X12_init : k_X12_init.all (eSt cX12_init true RX12 0) = true := by decide +kernel
theorem wm_X12_thrown : ∀ w ∈ eWds 12 k_X12_thrown, w ∈ eGW := e_wm [1096] (by decide +kernel)
theorem st_X12_thrown : k_X12_thrown.all (eSt cX12_thrown false RX12 1) = true := by decide +kernel
theorem wm_X12_fails : ∀ w ∈ eWds 12 k_X12_fails, w ∈ eGW := e_wm [1096] (by decide +kernel)
theorem st_X12_fails : k_X12_fails.all (eSt cX12_fails false RX12 1) = true := by decide +kernel
theorem wm_X12_asks : ∀ w ∈ eWds 12 k_X12_asks, w ∈ eGW := e_wm [1096] (by decide +kernel)
theorem st_X12_asks : k_X12_asks.all (eSt cX12_asks false RX12 4) = true := by decide +kernel
theorem wm_X12_isCore : ∀ w ∈ eWds 12 k_X12_isCore, w ∈ eGW := e_wm [] (by decide +kernel)
theorem st_X12_isCore : k_X12_isCore.all (eSt cX12_isCore false RX12 4) = true := by decide +kernel
theorem wm_X12_isLine : ∀ w ∈ eWds 12 k_X12_isLine, w ∈ eGW := e_wm [] (by decide +kernel)
theorem st_X12_isLine : k_X12_isLine.all (eSt cX12_isLine false RX12 4) = true := by decide +kernel
theorem wm_X12_bits : ∀ w ∈ eWds 12 k_X12_bits, w ∈ eGW := e_wm [] (by decide +kernel)
theorem st_X12_bits : k_X12_bits.all (eSt cX12_bits false RX12 1) = true := by decide +kernel
theorem wm_X12_sends : ∀ w ∈ eWds 12 k_X12_sends, w ∈ eGW := e_wm [1075, 1073, 1074, 1074, 1095, 1095, 1095, 1095, 1095] (by decide +kernel)
theorem st_X12_sends : k_X12_sends.all (eSt cX12_sends false RX12 0) = true := by decide +kernel
theorem wm_X12_shares : ∀ w ∈ eWds 12 k_X12_shares, w ∈ eGW := e_wm [1067, 1066, 1066, 1225, 1226, 83, 1227, 1067, 1095, 1066] (by decide +kernel)
theorem st_X12_shares : k_X12_shares.all (eSt cX12_shares false RX12 0) = true := by decide +kernel
theorem wm_X12_hasSharers : ∀ w ∈ eWds 12 k_X12_hasSharers, w ∈ eGW := e_wm [1067, 1066] (by decide +kernel)
theorem st_X12_hasSharers : k_X12_hasSharers.all (eSt cX12_hasSharers false RX12 4) = true := by decide +kernel
theorem wm_X12_forgets : ∀ w ∈ eWds 12 k_X12_forgets, w ∈ eGW := e_wm [1066, 1067] (by decide +kernel)
theorem st_X12_forgets : k_X12_forgets.all (eSt cX12_forgets false RX12 0) = true := by decide +kernel
theorem wm_X12_gives : ∀ w ∈ eWds 12 k_X12_gives, w ∈ eGW := e_wm [1064, 1259, 1261, 42, 83, 1262] (by decide +kernel)
theorem st_X12_gives : k_X12_gives.all (eSt cX12_gives false RX12 0) = true := by decide +kernel
theorem wm_X12_waits : ∀ w ∈ eWds 12 k_X12_waits, w ∈ eGW := e_wm [1068, 1069, 1070] (by decide +kernel)
theorem st_X12_waits : k_X12_waits.all (eSt cX12_waits false RX12 0) = true := by decide +kernel
theorem wm_X12_does : ∀ w ∈ eWds 12 k_X12_does, w ∈ eGW := e_wm [1065, 1065, 1065, 1064, 1065, 1259, 1261, 42, 83, 1262, 1065, 1259, 1261, 42, 83, 1262, 1346, 1348, 56, 83, 1349, 1350, 1352, 57, 83, 1353, 1330, 1332, 52, 83, 1333, 1334, 1336, 53, 83, 1337, 1065, 1334, 1336, 53, 83, 1337, 1067, 1066, 1259, 1261, 42, 83, 1262, 1346, 1348, 56, 83, 1349, 1322, 1324, 50, 83, 1325] (by decide +kernel)
theorem st_X12_does : k_X12_does.all (eSt cX12_does false RX12 0) = true := by decide +kernel
theorem wm_X12_ends : ∀ w ∈ eWds 12 k_X12_ends, w ∈ eGW := e_wm [1070, 1069, 1068, 1068, 1065, 1065, 1326, 1328, 51, 83, 1329, 1330, 1332, 52, 83, 1333, 1330, 1332, 52, 83, 1333, 1334, 1336, 53, 83, 1337, 1065, 1326, 1328, 51, 83, 1329, 1334, 1336, 53, 83, 1337] (by decide +kernel)
theorem st_X12_ends : k_X12_ends.all (eSt cX12_ends false RX12 0) = true := by decide +kernel
theorem wm_X12_goesOn : ∀ w ∈ eWds 12 k_X12_goesOn, w ∈ eGW := e_wm [1068, 1071, 1072, 1071, 1071, 1072, 1072, 1342, 1344, 55, 83, 1345] (by decide +kernel)
theorem st_X12_goesOn : k_X12_goesOn.all (eSt cX12_goesOn false RX12 0) = true := by decide +kernel
theorem wm_X12_atHome : ∀ w ∈ eWds 12 k_X12_atHome, w ∈ eGW := e_wm [1072, 1071, 1071, 1064, 1064, 1070, 1322, 1324, 50, 83, 1325, 1338, 1340, 54, 83, 1341] (by decide +kernel)
theorem st_X12_atHome : k_X12_atHome.all (eSt cX12_atHome false RX12 0) = true := by decide +kernel
theorem wm_X12_placeOf : ∀ w ∈ eWds 12 k_X12_placeOf, w ∈ eGW := e_wm [1077, 1076] (by decide +kernel)
theorem st_X12_placeOf : k_X12_placeOf.all (eSt cX12_placeOf false RX12 1) = true := by decide +kernel
theorem wm_X12_emptyPlace : ∀ w ∈ eWds 12 k_X12_emptyPlace, w ∈ eGW := e_wm [1077] (by decide +kernel)
theorem st_X12_emptyPlace : k_X12_emptyPlace.all (eSt cX12_emptyPlace false RX12 1) = true := by decide +kernel
theorem wm_X12_isWaiting : ∀ w ∈ eWds 12 k_X12_isWaiting, w ∈ eGW := e_wm [] (by decide +kernel)
theorem st_X12_isWaiting : k_X12_isWaiting.all (eSt cX12_isWaiting false RX12 4) = true := by decide +kernel
theorem wm_X12_isOwned : ∀ w ∈ eWds 12 k_X12_isOwned, w ∈ eGW := e_wm [] (by decide +kernel)
theorem st_X12_isOwned : k_X12_isOwned.all (eSt cX12_isOwned false RX12 4) = true := by decide +kernel
theorem wm_X12_isIn : ∀ w ∈ eWds 12 k_X12_isIn, w ∈ eGW := e_wm [1087, 1090, 1091] (by decide +kernel)
theorem st_X12_isIn : k_X12_isIn.all (eSt cX12_isIn false RX12 4) = true := by decide +kernel
theorem wm_X12_victim : ∀ w ∈ eWds 12 k_X12_victim, w ∈ eGW := e_wm [1077, 1077, 1240, 1241, 83, 1242, 1076, 1221, 1223, 34, 83, 1224, 1079, 1079] (by decide +kernel)
theorem st_X12_victim : k_X12_victim.all (eSt cX12_victim false RX12 1) = true := by decide +kernel
theorem wm_X12_uses : ∀ w ∈ eWds 12 k_X12_uses, w ∈ eGW := e_wm [1082, 1082, 1079, 1082] (by decide +kernel)
theorem st_X12_uses : k_X12_uses.all (eSt cX12_uses false RX12 0) = true := by decide +kernel
theorem wm_X12_stateAt : ∀ w ∈ eWds 12 k_X12_stateAt, w ∈ eGW := e_wm [1236, 1238, 37, 83, 1239, 1077] (by decide +kernel)
theorem st_X12_stateAt : k_X12_stateAt.all (eSt cX12_stateAt false RX12 1) = true := by decide +kernel
theorem wm_X12_begins : ∀ w ∈ eWds 12 k_X12_begins, w ∈ eGW := e_wm [1076, 1077, 1080, 1081, 1259, 1261, 42, 83, 1262] (by decide +kernel)
theorem st_X12_begins : k_X12_begins.all (eSt cX12_begins false RX12 0) = true := by decide +kernel
theorem wm_X12_asksFor : ∀ w ∈ eWds 12 k_X12_asksFor, w ∈ eGW := e_wm [1236, 1238, 37, 83, 1239, 1083, 1077, 1251, 1253, 40, 83, 1254, 1255, 1257, 41, 83, 1258, 1077, 1083, 1076, 1078, 1076, 1078, 1259, 1261, 42, 83, 1262, 1263, 1265, 43, 83, 1266] (by decide +kernel)
theorem st_X12_asksFor : k_X12_asksFor.all (eSt cX12_asksFor false RX12 4) = true := by decide +kernel
theorem wm_X12_answers : ∀ w ∈ eWds 12 k_X12_answers, w ∈ eGW := e_wm [1259, 1261, 42, 83, 1262] (by decide +kernel)
theorem st_X12_answers : k_X12_answers.all (eSt cX12_answers false RX12 0) = true := by decide +kernel
theorem wm_X12_fetches : ∀ w ∈ eWds 12 k_X12_fetches, w ∈ eGW := e_wm [1236, 1238, 37, 83, 1239, 1077, 1240, 1241, 83, 1242, 1081, 1077, 1283, 1284, 83, 1285, 1078, 1362, 1364, 60, 83, 1365, 1077, 1083, 1083, 1362, 1364, 60, 83, 1365] (by decide +kernel)
theorem st_X12_fetches : k_X12_fetches.all (eSt cX12_fetches false RX12 0) = true := by decide +kernel
theorem wm_X12_breaks : ∀ w ∈ eWds 12 k_X12_breaks, w ∈ eGW := e_wm [1221, 1223, 34, 83, 1224, 1091, 1088, 1088] (by decide +kernel)
theorem st_X12_breaks : k_X12_breaks.all (eSt cX12_breaks false RX12 0) = true := by decide +kernel
theorem wm_X12_atCore : ∀ w ∈ eWds 12 k_X12_atCore, w ∈ eGW := e_wm [1236, 1238, 37, 83, 1239, 1083, 1078, 1077, 1080, 1077, 1080, 1243, 1245, 38, 83, 1246, 1081, 1081, 1358, 1360, 59, 83, 1361, 1366, 1368, 61, 83, 1369, 1358, 1360, 59, 83, 1361, 1077, 1077, 1077, 1080, 1362, 1364, 60, 83, 1365] (by decide +kernel)
theorem st_X12_atCore : k_X12_atCore.all (eSt cX12_atCore false RX12 0) = true := by decide +kernel
theorem wm_X12_delivers : ∀ w ∈ eWds 12 k_X12_delivers, w ∈ eGW := e_wm [1075, 1073, 1073, 1073, 1074, 1318, 1320, 49, 83, 1321, 1354, 1356, 58, 83, 1357] (by decide +kernel)
theorem st_X12_delivers : k_X12_delivers.all (eSt cX12_delivers false RX12 1) = true := by decide +kernel
theorem wm_X12_asksLine : ∀ w ∈ eWds 12 k_X12_asksLine, w ∈ eGW := e_wm [1207, 1208, 83, 1209, 1210, 1211, 83, 1212, 1213, 1215, 32, 83, 1216] (by decide +kernel)
theorem st_X12_asksLine : k_X12_asksLine.all (eSt cX12_asksLine false RX12 4) = true := by decide +kernel
theorem wm_X12_isFull : ∀ w ∈ eWds 12 k_X12_isFull, w ∈ eGW := e_wm [1087, 1221, 1223, 34, 83, 1224, 1090, 1091, 1225, 1226, 83, 1227] (by decide +kernel)
theorem st_X12_isFull : k_X12_isFull.all (eSt cX12_isFull false RX12 4) = true := by decide +kernel
theorem wm_X12_bufferedAt : ∀ w ∈ eWds 12 k_X12_bufferedAt, w ∈ eGW := e_wm [1084, 1085, 1086] (by decide +kernel)
theorem st_X12_bufferedAt : k_X12_bufferedAt.all (eSt cX12_bufferedAt false RX12 1) = true := by decide +kernel
theorem wm_X12_reads : ∀ w ∈ eWds 12 k_X12_reads, w ∈ eGW := e_wm [1094, 1093, 1094, 1093, 1094, 1094, 1210, 1211, 83, 1212, 1236, 1238, 37, 83, 1239, 1083, 1251, 1253, 40, 83, 1254, 1263, 1265, 43, 83, 1266, 1095, 1093] (by decide +kernel)
theorem st_X12_reads : k_X12_reads.all (eSt cX12_reads false RX12 0) = true := by decide +kernel
theorem wm_X12_load : ∀ w ∈ eWds 12 k_X12_load, w ∈ eGW := e_wm [1203, 1205, 31, 83, 1206, 1217, 1219, 33, 83, 1220, 1228, 1230, 35, 83, 1231, 1087, 1091, 1092, 1232, 1234, 36, 83, 1235, 1236, 1238, 37, 83, 1239, 1077, 1240, 1241, 83, 1242, 1243, 1245, 38, 83, 1246, 1095, 1090, 1087, 1078, 1247, 1249, 39, 83, 1250, 1087, 1267, 1269, 44, 83, 1270] (by decide +kernel)
theorem st_X12_load : k_X12_load.all (eSt cX12_load false RX12 1) = true := by decide +kernel
theorem wm_X12_store : ∀ w ∈ eWds 12 k_X12_store, w ∈ eGW := e_wm [1203, 1205, 31, 83, 1206, 1228, 1230, 35, 83, 1231, 1087, 1217, 1219, 33, 83, 1220, 1228, 1230, 35, 83, 1231, 1091, 1092, 1091, 1225, 1226, 83, 1227, 1084, 1228, 1230, 35, 83, 1231, 1085, 1084, 1086, 1084, 1084, 1084] (by decide +kernel)
theorem st_X12_store : k_X12_store.all (eSt cX12_store false RX12 1) = true := by decide +kernel
theorem wm_X12_changes : ∀ w ∈ eWds 12 k_X12_changes, w ∈ eGW := e_wm [1077, 1078, 1243, 1245, 38, 83, 1246] (by decide +kernel)
theorem st_X12_changes : k_X12_changes.all (eSt cX12_changes false RX12 0) = true := by decide +kernel
theorem wm_X12_drain : ∀ w ∈ eWds 12 k_X12_drain, w ∈ eGW := e_wm [1207, 1208, 83, 1209, 1213, 1215, 32, 83, 1216, 1084, 1085, 1279, 1281, 45, 83, 1282, 1283, 1284, 83, 1285, 1247, 1249, 39, 83, 1250, 1207, 1208, 83, 1209, 1236, 1238, 37, 83, 1239, 1086, 1286, 1288, 46, 83, 1289, 1084, 1084, 1085, 1085, 1086, 1086] (by decide +kernel)
theorem st_X12_drain : k_X12_drain.all (eSt cX12_drain false RX12 4) = true := by decide +kernel
theorem wm_X12_fence : ∀ w ∈ eWds 12 k_X12_fence, w ∈ eGW := e_wm [1207, 1208, 83, 1209, 1213, 1215, 32, 83, 1216, 1084] (by decide +kernel)
theorem st_X12_fence : k_X12_fence.all (eSt cX12_fence false RX12 4) = true := by decide +kernel
theorem wm_X12_add : ∀ w ∈ eWds 12 k_X12_add, w ∈ eGW := e_wm [1203, 1205, 31, 83, 1206, 1228, 1230, 35, 83, 1231, 1084, 1087, 1228, 1230, 35, 83, 1231, 1279, 1281, 45, 83, 1282, 1283, 1284, 83, 1285, 1247, 1249, 39, 83, 1250, 1236, 1238, 37, 83, 1239, 1078, 1286, 1288, 46, 83, 1289] (by decide +kernel)
theorem st_X12_add : k_X12_add.all (eSt cX12_add false RX12 1) = true := by decide +kernel
theorem wm_X12_begin : ∀ w ∈ eWds 12 k_X12_begin, w ∈ eGW := e_wm [1207, 1208, 83, 1209, 1213, 1215, 32, 83, 1216, 1087, 1084, 1228, 1230, 35, 83, 1231, 1087, 1088, 1090, 1091, 1089] (by decide +kernel)
theorem st_X12_begin : k_X12_begin.all (eSt cX12_begin false RX12 1) = true := by decide +kernel
theorem wm_X12_end : ∀ w ∈ eWds 12 k_X12_end, w ∈ eGW := e_wm [1207, 1208, 83, 1209, 1213, 1215, 32, 83, 1216, 1087, 1228, 1230, 35, 83, 1231, 1088, 1087, 1089, 1095, 1091, 1279, 1281, 45, 83, 1282, 1283, 1284, 83, 1285, 1091, 1236, 1238, 37, 83, 1239, 1092, 1286, 1288, 46, 83, 1289, 1279, 1281, 45, 83, 1282, 1283, 1284, 83, 1285, 1247, 1249, 39, 83, 1250, 1087, 1095] (by decide +kernel)
theorem st_X12_end : k_X12_end.all (eSt cX12_end false RX12 1) = true := by decide +kernel
theorem wm_X12_isQueue : ∀ w ∈ eWds 12 k_X12_isQueue, w ∈ eGW := e_wm [1096, 1096] (by decide +kernel)
theorem st_X12_isQueue : k_X12_isQueue.all (eSt cX12_isQueue false RX12 4) = true := by decide +kernel
theorem wm_X12_deliver : ∀ w ∈ eWds 12 k_X12_deliver, w ∈ eGW := e_wm [1310, 1312, 47, 83, 1313, 1074, 1228, 1230, 35, 83, 1231, 1314, 1316, 48, 83, 1317] (by decide +kernel)
theorem st_X12_deliver : k_X12_deliver.all (eSt cX12_deliver false RX12 1) = true := by decide +kernel
theorem wm_X12_pump : ∀ w ∈ eWds 12 k_X12_pump, w ∈ eGW := e_wm [1213, 1215, 32, 83, 1216, 1074, 1314, 1316, 48, 83, 1317] (by decide +kernel)
theorem st_X12_pump : k_X12_pump.all (eSt cX12_pump false RX12 1) = true := by decide +kernel
theorem wm_X12_queued : ∀ w ∈ eWds 12 k_X12_queued, w ∈ eGW := e_wm [1310, 1312, 47, 83, 1313, 1074] (by decide +kernel)
theorem st_X12_queued : k_X12_queued.all (eSt cX12_queued false RX12 1) = true := by decide +kernel
theorem wm_X12_stateOf : ∀ w ∈ eWds 12 k_X12_stateOf, w ∈ eGW := e_wm [1203, 1205, 31, 83, 1206, 1279, 1281, 45, 83, 1282, 1083] (by decide +kernel)
theorem st_X12_stateOf : k_X12_stateOf.all (eSt cX12_stateOf false RX12 1) = true := by decide +kernel
theorem wm_X12_valueIn : ∀ w ∈ eWds 12 k_X12_valueIn, w ∈ eGW := e_wm [1203, 1205, 31, 83, 1206, 1236, 1238, 37, 83, 1239, 1077, 1240, 1241, 83, 1242, 1078] (by decide +kernel)
theorem st_X12_valueIn : k_X12_valueIn.all (eSt cX12_valueIn false RX12 1) = true := by decide +kernel
theorem wm_X12_home : ∀ w ∈ eWds 12 k_X12_home, w ∈ eGW := e_wm [1210, 1211, 83, 1212, 1213, 1215, 32, 83, 1216, 1064] (by decide +kernel)
theorem st_X12_home : k_X12_home.all (eSt cX12_home false RX12 1) = true := by decide +kernel
theorem wm_X12_owner : ∀ w ∈ eWds 12 k_X12_owner, w ∈ eGW := e_wm [1210, 1211, 83, 1212, 1213, 1215, 32, 83, 1216, 1065] (by decide +kernel)
theorem st_X12_owner : k_X12_owner.all (eSt cX12_owner false RX12 1) = true := by decide +kernel
theorem wm_X12_sharers : ∀ w ∈ eWds 12 k_X12_sharers, w ∈ eGW := e_wm [1210, 1211, 83, 1212, 1213, 1215, 32, 83, 1216, 1067, 1066] (by decide +kernel)
theorem st_X12_sharers : k_X12_sharers.all (eSt cX12_sharers false RX12 1) = true := by decide +kernel
theorem wm_X12_waiting : ∀ w ∈ eWds 12 k_X12_waiting, w ∈ eGW := e_wm [1210, 1211, 83, 1212, 1213, 1215, 32, 83, 1216, 1071, 1068] (by decide +kernel)
theorem st_X12_waiting : k_X12_waiting.all (eSt cX12_waiting false RX12 1) = true := by decide +kernel
theorem wm_X12_truth : ∀ w ∈ eWds 12 k_X12_truth, w ∈ eGW := e_wm [1210, 1211, 83, 1212, 1213, 1215, 32, 83, 1216, 1065, 1064, 1236, 1238, 37, 83, 1239, 1077, 1283, 1284, 83, 1285, 1078, 1083, 1083, 1064, 1074, 1075, 1073] (by decide +kernel)
theorem st_X12_truth : k_X12_truth.all (eSt cX12_truth false RX12 1) = true := by decide +kernel
theorem wm_X12_isCoherent : ∀ w ∈ eWds 12 k_X12_isCoherent, w ∈ eGW := e_wm [1096, 1076, 1076, 1077, 1077, 1077, 1240, 1241, 83, 1242, 1077, 1240, 1241, 83, 1242, 1077, 1283, 1284, 83, 1285, 1078, 1078] (by decide +kernel)
theorem st_X12_isCoherent : k_X12_isCoherent.all (eSt cX12_isCoherent false RX12 4) = true := by decide +kernel
theorem wm_X12_counter : ∀ w ∈ eWds 12 k_X12_counter, w ∈ eGW := e_wm [1213, 1215, 32, 83, 1216, 1095] (by decide +kernel)
theorem st_X12_counter : k_X12_counter.all (eSt cX12_counter false RX12 1) = true := by decide +kernel
theorem wm_X12_clear : ∀ w ∈ eWds 12 k_X12_clear, w ∈ eGW := e_wm [1096, 1097, 1097, 1097, 1097] (by decide +kernel)
theorem st_X12_clear : k_X12_clear.all (eSt cX12_clear false RX12 1) = true := by decide +kernel
theorem wm_X12_step : ∀ w ∈ eWds 12 k_X12_step, w ∈ eGW := e_wm [1213, 1215, 32, 83, 1216, 1228, 1230, 35, 83, 1231, 1097, 1097, 1097, 1097, 1228, 1230, 35, 83, 1231, 1097, 1098, 1099, 1100, 1097, 1097] (by decide +kernel)
theorem st_X12_step : k_X12_step.all (eSt cX12_step false RX12 1) = true := by decide +kernel
theorem wm_X12_part : ∀ w ∈ eWds 12 k_X12_part, w ∈ eGW := e_wm [] (by decide +kernel)
theorem st_X12_part : k_X12_part.all (eSt cX12_part false RX12 1) = true := by decide +kernel
theorem wm_X12_put : ∀ w ∈ eWds 12 k_X12_put, w ∈ eGW := e_wm [1444, 1445, 83, 1446] (by decide +kernel)
theorem st_X12_put : k_X12_put.all (eSt cX12_put false RX12 2) = true := by decide +kernel
theorem wm_X12_resultOf : ∀ w ∈ eWds 12 k_X12_resultOf, w ∈ eGW := e_wm [1097, 1098, 1098] (by decide +kernel)
theorem st_X12_resultOf : k_X12_resultOf.all (eSt cX12_resultOf false RX12 1) = true := by decide +kernel
theorem wm_X12_storeAt : ∀ w ∈ eWds 12 k_X12_storeAt, w ∈ eGW := e_wm [1098] (by decide +kernel)
theorem st_X12_storeAt : k_X12_storeAt.all (eSt cX12_storeAt false RX12 1) = true := by decide +kernel
theorem wm_X12_storesOf : ∀ w ∈ eWds 12 k_X12_storesOf, w ∈ eGW := e_wm [1098] (by decide +kernel)
theorem st_X12_storesOf : k_X12_storesOf.all (eSt cX12_storesOf false RX12 1) = true := by decide +kernel
theorem wm_X12_piles : ∀ w ∈ eWds 12 k_X12_piles, w ∈ eGW := e_wm [1438, 1439, 1103, 1103, 1103, 1104, 1103, 1104, 1104, 1101, 1102, 1102, 1102] (by decide +kernel)
theorem st_X12_piles : k_X12_piles.all (eSt cX12_piles false RX12 0) = true := by decide +kernel
theorem wm_X12_comesOut : ∀ w ∈ eWds 12 k_X12_comesOut, w ∈ eGW := e_wm [1455, 1457, 68, 83, 1458, 1444, 1445, 83, 1446, 1106, 1105, 1106, 1105, 1106, 1105, 1105, 1105, 1106, 1106] (by decide +kernel)
theorem st_X12_comesOut : k_X12_comesOut.all (eSt cX12_comesOut false RX12 0) = true := by decide +kernel
theorem wm_X12_seenBy : ∀ w ∈ eWds 12 k_X12_seenBy, w ∈ eGW := e_wm [1444, 1445, 83, 1446, 1444, 1445, 83, 1446, 1447, 1449, 66, 83, 1450, 1444, 1445, 83, 1446, 1463, 1465, 70, 83, 1466, 1099, 1100] (by decide +kernel)
theorem st_X12_seenBy : k_X12_seenBy.all (eSt cX12_seenBy false RX12 1) = true := by decide +kernel
theorem wm_X12_stepsOn : ∀ w ∈ eWds 12 k_X12_stepsOn, w ∈ eGW := e_wm [1444, 1445, 83, 1446, 1444, 1445, 83, 1446, 1447, 1449, 66, 83, 1450, 1463, 1465, 70, 83, 1466, 1099, 1100, 1467, 1468, 83, 1469, 1467, 1468, 83, 1469, 1434, 1436, 64, 83, 1437, 1097, 1467, 1468, 83, 1469, 1098, 1099, 1100, 1467, 1468, 83, 1469, 1434, 1436, 64, 83, 1437, 1098, 1099, 1470, 1472, 71, 83, 1473, 1455, 1457, 68, 83, 1458, 1467, 1468, 83, 1469, 1434, 1436, 64, 83, 1437, 1099, 1444, 1445, 83, 1446, 1098, 1099, 1467, 1468, 83, 1469, 1455, 1457, 68, 83, 1458, 1467, 1468, 83, 1469, 1434, 1436, 64, 83, 1437] (by decide +kernel)
theorem st_X12_stepsOn : k_X12_stepsOn.all (eSt cX12_stepsOn false RX12 0) = true := by decide +kernel
theorem wm_X12_isOverAll : ∀ w ∈ eWds 12 k_X12_isOverAll, w ∈ eGW := e_wm [1444, 1445, 83, 1446, 1097, 1444, 1445, 83, 1446, 1447, 1449, 66, 83, 1450] (by decide +kernel)
theorem st_X12_isOverAll : k_X12_isOverAll.all (eSt cX12_isOverAll false RX12 4) = true := by decide +kernel
theorem wm_X12_goesThrough : ∀ w ∈ eWds 12 k_X12_goesThrough, w ∈ eGW := e_wm [1103, 1104, 1106, 1102, 1434, 1436, 64, 83, 1437, 1102, 1102, 1102, 1101, 1102, 1440, 1442, 65, 83, 1443, 1451, 1453, 67, 83, 1454, 1459, 1461, 69, 83, 1462, 1106] (by decide +kernel)
theorem st_X12_goesThrough : k_X12_goesThrough.all (eSt cX12_goesThrough false RX12 1) = true := by decide +kernel
theorem wm_X12_outcomesTold : ∀ w ∈ eWds 12 k_X12_outcomesTold, w ∈ eGW := e_wm [1213, 1215, 32, 83, 1216, 1430, 1432, 63, 83, 1433] (by decide +kernel)
theorem st_X12_outcomesTold : k_X12_outcomesTold.all (eSt cX12_outcomesTold false RX12 1) = true := by decide +kernel
theorem wm_X12_outcomes : ∀ w ∈ eWds 12 k_X12_outcomes, w ∈ eGW := e_wm [1426, 1428, 62, 83, 1429] (by decide +kernel)
theorem st_X12_outcomes : k_X12_outcomes.all (eSt cX12_outcomes false RX12 1) = true := by decide +kernel
theorem wm_X12_outcome : ∀ w ∈ eWds 12 k_X12_outcome, w ∈ eGW := e_wm [1228, 1230, 35, 83, 1231, 1430, 1432, 63, 83, 1433, 1213, 1215, 32, 83, 1216, 1105] (by decide +kernel)
theorem st_X12_outcome : k_X12_outcome.all (eSt cX12_outcome false RX12 1) = true := by decide +kernel
theorem wm_X12_outcomesAnew : ∀ w ∈ eWds 12 k_X12_outcomesAnew, w ∈ eGW := e_wm [1426, 1428, 62, 83, 1429] (by decide +kernel)
theorem st_X12_outcomesAnew : k_X12_outcomesAnew.all (eSt cX12_outcomesAnew false RX12 1) = true := by decide +kernel
theorem wm_X12_areAlike : ∀ w ∈ eWds 12 k_X12_areAlike, w ∈ eGW := e_wm [1096, 1430, 1432, 63, 83, 1433, 1430, 1432, 63, 83, 1433] (by decide +kernel)
theorem st_X12_areAlike : k_X12_areAlike.all (eSt cX12_areAlike false RX12 4) = true := by decide +kernel
theorem wm_J6_bitCount : ∀ w ∈ eWds 14 k_J6_bitCount, w ∈ eGW := e_wm [869, 870, 870, 871] (by decide +kernel)
theorem st_J6_bitCount : k_J6_bitCount.all (eSt cJ6_bitCount_0f7a4 false RJ6 1) = true := by decide +kernel
theorem wm_L_load : ∀ w ∈ eWds 13 k_L_load, w ∈ eGW := e_wm [483, 484, 485, 73, 486] (by decide +kernel)
theorem st_L_load : k_L_load.all (eSt cL_load false RL 1) = true := by decide +kernel
theorem wm_L_store : ∀ w ∈ eWds 13 k_L_store, w ∈ eGW := e_wm [658, 659, 660, 73, 661] (by decide +kernel)
theorem st_L_store : k_L_store.all (eSt cL_store false RL 1) = true := by decide +kernel
theorem wm_L_drain : ∀ w ∈ eWds 13 k_L_drain, w ∈ eGW := e_wm [699, 700, 701, 73, 702] (by decide +kernel)
theorem st_L_drain : k_L_drain.all (eSt cL_drain false RL 1) = true := by decide +kernel
theorem wm_L_fence : ∀ w ∈ eWds 13 k_L_fence, w ∈ eGW := e_wm [714, 715, 716, 73, 717] (by decide +kernel)
theorem st_L_fence : k_L_fence.all (eSt cL_fence false RL 1) = true := by decide +kernel
theorem wm_L_add : ∀ w ∈ eWds 13 k_L_add, w ∈ eGW := e_wm [721, 722, 723, 73, 724] (by decide +kernel)
theorem st_L_add : k_L_add.all (eSt cL_add false RL 1) = true := by decide +kernel
theorem wm_L_begin : ∀ w ∈ eWds 13 k_L_begin, w ∈ eGW := e_wm [737, 738, 739, 73, 740] (by decide +kernel)
theorem st_L_begin : k_L_begin.all (eSt cL_begin false RL 1) = true := by decide +kernel
theorem wm_L_end : ∀ w ∈ eWds 13 k_L_end, w ∈ eGW := e_wm [748, 749, 750, 73, 751] (by decide +kernel)
theorem st_L_end : k_L_end.all (eSt cL_end false RL 1) = true := by decide +kernel
theorem wm_L_deliver : ∀ w ∈ eWds 13 k_L_deliver, w ∈ eGW := e_wm [768, 769, 770, 73, 771] (by decide +kernel)
theorem st_L_deliver : k_L_deliver.all (eSt cL_deliver false RL 1) = true := by decide +kernel
theorem wm_L_pump : ∀ w ∈ eWds 13 k_L_pump, w ∈ eGW := e_wm [905, 906, 907, 73, 908] (by decide +kernel)
theorem st_L_pump : k_L_pump.all (eSt cL_pump false RL 1) = true := by decide +kernel
theorem wm_L_queued : ∀ w ∈ eWds 13 k_L_queued, w ∈ eGW := e_wm [912, 913, 914, 73, 915] (by decide +kernel)
theorem st_L_queued : k_L_queued.all (eSt cL_queued false RL 1) = true := by decide +kernel
theorem wm_L_stateOf : ∀ w ∈ eWds 13 k_L_stateOf, w ∈ eGW := e_wm [919, 920, 921, 73, 922] (by decide +kernel)
theorem st_L_stateOf : k_L_stateOf.all (eSt cL_stateOf false RL 1) = true := by decide +kernel
theorem wm_L_valueIn : ∀ w ∈ eWds 13 k_L_valueIn, w ∈ eGW := e_wm [926, 927, 928, 73, 929] (by decide +kernel)
theorem st_L_valueIn : k_L_valueIn.all (eSt cL_valueIn false RL 1) = true := by decide +kernel
theorem wm_L_home : ∀ w ∈ eWds 13 k_L_home, w ∈ eGW := e_wm [933, 934, 935, 73, 936] (by decide +kernel)
theorem st_L_home : k_L_home.all (eSt cL_home false RL 1) = true := by decide +kernel
theorem wm_L_owner : ∀ w ∈ eWds 13 k_L_owner, w ∈ eGW := e_wm [940, 941, 942, 73, 943] (by decide +kernel)
theorem st_L_owner : k_L_owner.all (eSt cL_owner false RL 1) = true := by decide +kernel
theorem wm_L_sharers : ∀ w ∈ eWds 13 k_L_sharers, w ∈ eGW := e_wm [947, 948, 949, 73, 950] (by decide +kernel)
theorem st_L_sharers : k_L_sharers.all (eSt cL_sharers false RL 1) = true := by decide +kernel
theorem wm_L_waiting : ∀ w ∈ eWds 13 k_L_waiting, w ∈ eGW := e_wm [954, 955, 956, 73, 957] (by decide +kernel)
theorem st_L_waiting : k_L_waiting.all (eSt cL_waiting false RL 1) = true := by decide +kernel
theorem wm_L_truth : ∀ w ∈ eWds 13 k_L_truth, w ∈ eGW := e_wm [961, 962, 963, 73, 964] (by decide +kernel)
theorem st_L_truth : k_L_truth.all (eSt cL_truth false RL 1) = true := by decide +kernel
theorem wm_L_counter : ∀ w ∈ eWds 13 k_L_counter, w ∈ eGW := e_wm [974, 975, 976, 73, 977] (by decide +kernel)
theorem st_L_counter : k_L_counter.all (eSt cL_counter false RL 1) = true := by decide +kernel
theorem wm_L_step : ∀ w ∈ eWds 13 k_L_step, w ∈ eGW := e_wm [981, 982, 983, 73, 984] (by decide +kernel)
theorem st_L_step : k_L_step.all (eSt cL_step false RL 1) = true := by decide +kernel
theorem wm_L_outcomes : ∀ w ∈ eWds 13 k_L_outcomes, w ∈ eGW := e_wm [1005, 1006, 1007, 73, 1008] (by decide +kernel)
theorem st_L_outcomes : k_L_outcomes.all (eSt cL_outcomes false RL 1) = true := by decide +kernel
theorem wm_L_outcome : ∀ w ∈ eWds 13 k_L_outcome, w ∈ eGW := e_wm [1012, 1013, 1014, 73, 1015] (by decide +kernel)
theorem st_L_outcome : k_L_outcome.all (eSt cL_outcome false RL 1) = true := by decide +kernel
theorem wm_L_outcomesAnew : ∀ w ∈ eWds 13 k_L_outcomesAnew, w ∈ eGW := e_wm [1019, 1020, 1021, 73, 1022] (by decide +kernel)
theorem st_L_outcomesAnew : k_L_outcomesAnew.all (eSt cL_outcomesAnew false RL 1) = true := by decide +kernel
